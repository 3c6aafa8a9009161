theorem dX8_indexed_0 : decode cX8_indexed 0 = .ok (.new 143, 3) := by decide +kernel
theorem dX8_indexed_3 : decode cX8_indexed 3 = .ok (.dup, 1) := by decide +kernel
theorem dX8_indexed_4 : decode cX8_indexed 4 = .ok (.bipush 14, 2) := by decide +kernel
theorem dX8_indexed_6 : decode cX8_indexed 6 = .ok (.aload_n 0, 1) := by decide +kernel
theorem dX8_indexed_7 : decode cX8_indexed 7 = .ok (.getfield 17, 3) := by decide +kernel
theorem dX8_indexed_10 : decode cX8_indexed 10 = .ok (.aload_n 1, 1) := by decide +kernel
theorem dX8_indexed_11 : decode cX8_indexed 11 = .ok (.getfield 248, 3) := by decide +kernel
theorem dX8_indexed_14 : decode cX8_indexed 14 = .ok (.invokespecial 145, 3) := by decide +kernel
theorem dX8_indexed_17 : decode cX8_indexed 17 = .ok (.astore_n 2, 1) := by decide +kernel
theorem dX8_indexed_18 : decode cX8_indexed 18 = .ok (.aload_n 2, 1) := by decide +kernel
theorem dX8_indexed_19 : decode cX8_indexed 19 = .ok (.aload_n 1, 1) := by decide +kernel
theorem dX8_indexed_20 : decode cX8_indexed 20 = .ok (.putfield 165, 3) := by decide +kernel
theorem dX8_indexed_23 : decode cX8_indexed 23 = .ok (.aload_n 2, 1) := by decide +kernel
theorem dX8_indexed_24 : decode cX8_indexed 24 = .ok (.aload_n 0, 1) := by decide +kernel
theorem dX8_indexed_25 : decode cX8_indexed 25 = .ok (.bipush 36, 2) := by decide +kernel
theorem dX8_indexed_27 : decode cX8_indexed 27 = .ok (.bipush 37, 2) := by decide +kernel
theorem dX8_indexed_29 : decode cX8_indexed 29 = .ok (.invokevirtual 280, 3) := by decide +kernel
theorem dX8_indexed_32 : decode cX8_indexed 32 = .ok (.putfield 230, 3) := by decide +kernel
theorem dX8_indexed_35 : decode cX8_indexed 35 = .ok (.aload_n 2, 1) := by decide +kernel
theorem dX8_indexed_36 : decode cX8_indexed 36 = .ok (.areturn, 1) := by decide +kernel
theorem hV_X8_bracketed : yX8_bracketed.cls = RX8 ∧ yX8_bracketed.cls ≠ "java/lang/invoke/MethodHandle" ∧ yX8_bracketed.cls ≠ "java/lang/invoke/VarHandle" ∧ (parseMethodDescriptor yX8_bracketed.desc).map (fun d => d.parameters.length) = some 2 := by decide +kernel
set_option maxHeartbeats 16000000 in
set_option maxRecDepth 100000 in
theorem P_indexed (l : Launch) (G : pT) (h0 : Nat) (a : Nat → Nat) (F : Nat → Int32) (R : Nat → Value) (Z : Int64) (B : Nat → Nat → Int32) (J : Nat → Nat → Int64) (K : PK) (w : va_W) (x0 : Nat) (sb : Nat) (kr : Nat) (n : Nat) (at9 : Nat) (sz : Nat) (dp : Nat) (sg : Nat) (O : Nat) (g : Nat → Nat → Nat) (hsz : sz ≤ 5000) (hat : at9 ≤ sz) (hdp : dp + n = 20) (hsg : sg ≤ 60) (hwn : WN K g) (how : ∀ o : Nat, O = o + 1 → K.1 o = 1 ∧ g 0 o = 0 ∧ ¬ K.2.1 0 o = 32) (hx0 : K.1 x0 = 1) (hx1 : 1 ≤ g 0 x0) (hx2 : sb + 1 ≤ sg ∧ g 0 x0 + 1 ≤ 5 * (20 - dp) + 3 + (sg - sb)) (hkr : kr ≤ 6000) (ihe : IhE l G n) (hO : OKP G h0 a (upd (upd (upd (upd F 2 (nI sz)) 9 (nI at9)) 10 (nI dp)) 11 (nI sg)) R Z B J K w) (hl0 : l.stackTraces = false) : PBn l G pX0 yX8_indexed cX8_indexed 3 (some (.object "JinjaTongue$Node")) ({ frames := (40 * n + 16), cells := (2 * (sz - at9) + 19), slots := (11 * (2 * (sz - at9) + 19)), locals := (1300 * n + 480) }) [.ref (a 3), .ref x0] w (fun (v : Option Value) (u : va_W × (Nat × PK × (Nat → Nat → Nat) × Nat × Nat × (Nat → Int32))) => v = some (.ref u.2.1) ∧ (NwR K u.2.2.1 g u.2.2.2.1 u.2.1 O kr (5 * (20 - dp) + 3 + (u.2.2.2.2.2.1 - sb))) ∧ (at9 + 3 ≤ u.2.2.2.2.1 ∧ u.2.2.2.2.1 ≤ sz) ∧ (sg ≤ u.2.2.2.2.2.1 ∧ u.2.2.2.2.2.1 ≤ 60) ∧ (OKP G h0 a (upd (upd (upd (upd F 2 (nI sz)) 9 (nI u.2.2.2.2.1)) 10 (nI dp)) 11 (nI u.2.2.2.2.2.1)) R Z (updA B 10 u.2.2.2.2.2.2) J u.2.2.1 u.1)) (fun u => u.1) (fun (u : va_W × (Nat × PK × (Nat → Nat → Nat) × Nat × Nat × (Nat → Int32))) => (2 * (u.2.2.2.2.1 - at9) - 4)) (fun (u : va_W × (Nat × PK × (Nat → Nat → Nat) × Nat × Nat × (Nat → Int32))) => (11 * (2 * (u.2.2.2.2.1 - at9) - 4))) (fun (u : va_W × (Nat → Int32) × (Nat → Value) × (Nat → Nat → Int32)) => ThQ G h0 a (upd (upd (upd (upd F 2 (nI sz)) 9 (nI at9)) 10 (nI dp)) 11 (nI sg)) R Z B J u) (fun u => u.1) := by
  intro sz
  refine vx_ofW (cc := cX8_indexed) (maxL := 3) (ret := (some (.object "JinjaTongue$Node"))) (by decide) rfl ?_
  intro p e s m args below meth c s₁ B9 hml hnt hv
  obtain ⟨rfl, hsz, hP, hD0, hE, hX⟩ := hv
  have hx := B9.exec
  have hb := B9.bytes
  have hr := B9.returns
  have hts := atoms_spec (ws := Cond.code yX8_indexed cX8_indexed 3 (some (.object "JinjaTongue$Node")) :: pw) B9.pre
  have hq : ∀ w ∈ pw, w.before _ s = true := fun w h => hts w (List.mem_cons_of_mem _ h)
  have hown : s.vm.findClass RX8 = some m.cls := findClass_of_methodNamed B9.named
  have hlocks := B9.notSynchronized
  subst hsz
  have hD := hD0.self (sz := s.heap.size)
  have hA : ∀ q : Nat, s.heap.size ≤ q → va_A w s.heap.size q := fun q h => Or.inr h
  generalize va_A w s.heap.size = A at hD hE hA ⊢
  have hS : va_S A s.heap s.heap [] := va_S.rf
  have hl := lv_entry ([.ref (a 3), .ref x0]) (n := 3) (Nat.le_of_ble_eq_true rfl)
  rw [lg_entry_eq]
  generalize (lg_sl ([.ref (a 3), .ref x0]) ++ List.replicate (3 - (lg_sl ([.ref (a 3), .ref x0])).length) Slot.unset).toArray = ls at hl ⊢
  have hl : lv_has ls 3 [(0, .ref (a 3)), (1, .ref x0)] := hl
  have hns0 : NwS K K g g := NwS.nil hwn
  refine p_new (s9 := 1) (C := RX7) (T := TX7) (N := 11) (ci := 13) (fs := [.int 0, .int 0, .int 0, .int 0, .int 0, .int 0, .null, .null, .null, .null, .null]) hx hb hq pin_wsX70 tyX7 tyX7_ok hown (hq _ pw_870) (hq _ pw_871) (hq _ pw_872) hE hP hD hS hA hO rfl nw_X7 (by decide) (fun q => by rw [rep_1 (show (kN K q 1 0).1 q = 1 from if_pos rfl)]; unfold fsNode kN; simp only [if_true]; rfl) (by show 0 + 1 ≤ (2 * (sz - at9) + 19); omega) (by show 0 + 11 ≤ (11 * (2 * (sz - at9) + 19)); omega) dX8_indexed_0 (fun q1 H w hq2 hP hD hS hO => ?_)
  have hf3 : (kN K q1 1 0).1 x0 = 1 := (if_neg (fun z => by have z2 := hx0; rw [z, hq2] at z2; exact absurd z2 (by decide))).trans hx0
  have hf4 : (kN K q1 1 0).1 q1 = 1 := if_pos rfl
  refine W.widen (k := 1) (n := 11) (by show 0 + 1 ≤ 1; omega) (by show 0 + 11 ≤ 11; omega) ?_
  refine lv_dup hx hb dX8_indexed_3 rfl ?_
  refine lv_bipush (v := 14) hx hb dX8_indexed_4 (by decide) ?_
  refine lv_aload_n hx hb dX8_indexed_6 rfl (lv_at hl 0 rfl) ?_
  refine c_get (v := .int (nI at9)) (C := RX8) (Tc := TX8) (N := 5) (ci := 5) hx hb hq pin_wsX80 hown hE hP hO 23 (sg_23 G h0 a _ _ _ _ _) rfl 2 (by decide) (hq _ pw_776) (fun _ h9 => h9) rfl dX8_indexed_7 ?_
  refine lv_aload_n hx hb dX8_indexed_10 rfl (lv_at hl 1 rfl) ?_
  refine p_get (v := .int ((kN K q1 1 0).2.1 2 x0)) (C := RX7) (Tc := TX7) (N := 11) (ci := 13) hx hb hq pin_wsX70 hown hE hP hO (by rw [hf3]; decide) (rep_1 hf3) rfl 2 (by decide) (hq _ pw_937) (fun _ h9 => h9) rfl dX8_indexed_11 ?_
  have hO : OKP G h0 a (upd (upd (upd (upd F 2 (nI sz)) 9 (nI at9)) 10 (nI dp)) 11 (nI sg)) R Z B J (kN K q1 1 0) w := hO.to rfl
  obtain ⟨qr8, hqr9⟩ := p_recv hO (by rw [hf4]; decide) (rep_1 hf4)
  refine pc_I0 (G := G) (As := [.int 14, .int (nI at9), .int ((kN K q1 1 0).2.1 2 x0)]) (rest := [.ref q1]) hx hb hml hown hq hE hX pX0_al hP hD hS hA hl.1 (N_init l G h0 a (upd (upd (upd (upd F 2 (nI sz)) 9 (nI at9)) 10 (nI dp)) 11 (nI sg)) R Z B J (kN K q1 1 0) w q1 14 (nI at9) ((kN K q1 1 0).2.1 2 x0) (by omega) hO) pw_874 pw_875 pw_872 pw_765 rfl hS_X7_init rfl (Nat.le_of_ble_eq_true rfl) dX8_indexed_14 ⟨(by show 1 + 0 ≤ (2 * (sz - at9) + 19); omega), (by show 11 + 0 ≤ (11 * (2 * (sz - at9) + 19)); omega)⟩ ⟨(by show 2 + 1 ≤ (40 * n + 16); omega), (by show 8 + (4 + 11) + 60 ≤ (1300 * n + 480); omega)⟩ (fun v7 u5 H locs hw6 hP hD hS => ?_)
  obtain ⟨w, _⟩ := u5
  obtain ⟨hw6, hO⟩ := hw6
  obtain rfl : v7 = none := hw6
  have hf10 : (kI (kI (kI (kN K q1 1 0) 0 q1 14) 1 q1 (nI at9)) 2 q1 ((kN K q1 1 0).2.1 2 x0)).1 x0 = 1 := hf3
  have hf11 : (kI (kI (kI (kN K q1 1 0) 0 q1 14) 1 q1 (nI at9)) 2 q1 ((kN K q1 1 0).2.1 2 x0)).1 q1 = 1 := hf4
  have hO : OKP G h0 a (upd (upd (upd (upd F 2 (nI sz)) 9 (nI at9)) 10 (nI dp)) 11 (nI sg)) R Z B J (kI (kI (kI (kN K q1 1 0) 0 q1 14) 1 q1 (nI at9)) 2 q1 ((kN K q1 1 0).2.1 2 x0)) w := hO.to rfl
  refine W.widen (k := 1) (n := 11) (by show 1 + 0 ≤ 1; omega) (by show 11 + 0 ≤ 11; omega) ?_
  refine W.eq (g2 := F0 m 17 ls [.ref q1]) rfl ?_
  change OKP G h0 a (upd (upd (upd (upd F 2 (nI sz)) 9 (nI at9)) 10 (nI dp)) 11 (nI sg)) R Z B J (mkN K q1 14 (nI at9) ((kN K q1 1 0).2.1 2 x0)) w at hO
  obtain ⟨K12, hK13⟩ : ∃ z : PK, z = (mkN K q1 14 (nI at9) ((kN K q1 1 0).2.1 2 x0)) := ⟨_, rfl⟩
  rw [← hK13] at hO
  have hf14 : K12.1 q1 = 1 := by rw [hK13]; exact mkN_T
  have hf15 : K12.2.1 0 q1 = 14 := by rw [hK13]; exact mkN_0
  have hf16 : K12.2.1 2 q1 = ((kN K q1 1 0).2.1 2 x0) := by rw [hK13]; exact mkN_2
  have hf17 : K12.2.2.1 0 q1 = none := by rw [hK13]; exact mkN_C
  have hf18 : K12.2.2.1 1 q1 = none := by rw [hK13]; exact mkN_C
  have hf19 : K12.2.2.1 2 q1 = none := by rw [hK13]; exact mkN_C
  have hf20 : K12.2.2.1 3 q1 = none := by rw [hK13]; exact mkN_C
  have hf21 : K12.2.2.1 4 q1 = none := by rw [hK13]; exact mkN_C
  have hf22 : K12.1 x0 = 1 := by rw [hK13]; exact ((mkN_ext hq2 x0 (by rw [hx0]; decide)).1).trans hx0
  have hns23 : NwS K K12 g (gset g q1 0 0 0) := by rw [hK13]; exact NwS.node hns0 hq2
  have hq24 : K.1 q1 = 0 := old_T hns0.2.1 hq2
  have hg25 : (gset g q1 0 0 0) 0 q1 = 0 := gset_0
  have hno26 : NoO K12 (gset g q1 0 0 0) q1 := by rw [hK13]; exact NoO.new hns0.1 hq2
  refine lv_astore_n (lv' := [(2, .ref q1), (0, .ref (a 3)), (1, .ref x0)]) hx hb dX8_indexed_17 rfl hl (by decide) rfl (fun ls hl => ?_)
  refine lv_aload_n hx hb dX8_indexed_18 rfl (lv_at hl 0 rfl) ?_
  refine lv_aload_n hx hb dX8_indexed_19 rfl (lv_at hl 2 rfl) ?_
  refine p_put (v := .ref x0) (ty := (.object "JinjaTongue$Node")) (C := RX7) (Tc := TX7) (N := 11) (ci := 13) (K' := (kC K12 0 q1 (some x0))) hx hb hq pin_wsX70 tyX7 tyX7_ok nmX7 hown hE hP hD hS hO (by rw [hf14]; decide) (rep_1 hf14) rfl 6 (by decide) (hq _ pw_938) (fun _ h9 => h9) rfl (by decide +kernel) rfl rfl (Nat.le_of_ble_eq_true rfl) rfl (by rw [rep_1 (show (kC K12 0 q1 (some x0)).1 q1 = 1 from hf14), pc_0] <;> rfl) (fun p9 hp9 => rep_kC hp9) dX8_indexed_20 (fun H locs w hP hD hS hO => ?_)
  obtain ⟨K27, hK28⟩ : ∃ z : PK, z = (kC K12 0 q1 (some x0)) := ⟨_, rfl⟩
  rw [← hK28] at hO
  have hf29 : K27.1 q1 = 1 := (by rw [hK28]; exact hf14)
  have hf30 : K27.2.1 0 q1 = 14 := (by rw [hK28]; exact hf15)
  have hf31 : K27.2.1 2 q1 = ((kN K q1 1 0).2.1 2 x0) := (by rw [hK28]; exact hf16)
  have hf32 : K27.2.2.1 1 q1 = none := (by rw [hK28]; exact (kC_of (by decide)).trans hf18)
  have hf33 : K27.2.2.1 2 q1 = none := (by rw [hK28]; exact (kC_of (by decide)).trans hf19)
  have hf34 : K27.2.2.1 3 q1 = none := (by rw [hK28]; exact (kC_of (by decide)).trans hf20)
  have hf35 : K27.2.2.1 4 q1 = none := (by rw [hK28]; exact (kC_of (by decide)).trans hf21)
  have hf36 : K27.1 x0 = 1 := (by rw [hK28]; exact hf22)
  have hf37 : K27.2.2.1 0 q1 = some x0 := by rw [hK28]; exact kC_eq
  have hns38 : NwS K K27 g (gset g q1 0 0 0) := by rw [hK28]; exact NwS.put hns23 hq24 hg25
  have hno39 : NoO K27 (gset g q1 0 0 0) q1 := by rw [hK28]; exact hno26
  refine lv_aload_n hx hb dX8_indexed_23 rfl (lv_at hl 0 rfl) ?_
  refine lv_aload_n hx hb dX8_indexed_24 rfl (lv_at hl 1 rfl) ?_
  refine lv_bipush (v := 36) hx hb dX8_indexed_25 (by decide) ?_
  refine lv_bipush (v := 37) hx hb dX8_indexed_27 (by decide) ?_
  have hO : OKP G h0 a (upd (upd (upd (upd (upd (upd (upd (upd F 2 (nI sz)) 9 (nI at9)) 10 (nI dp)) 11 (nI sg)) 2 (nI sz)) 9 (nI at9)) 10 (nI dp)) 11 (nI sg)) R Z B J K27 w := hO.to rfl
  obtain ⟨_, qr43, hqr44⟩ := hO.2.1 23 _ (sg_23 G h0 a _ _ _ _ _)
  refine pn_V0 (G := G) (As := [.int 36, .int 37]) (rest := [.ref q1]) hx hb hml hown hq hE hX pX0_al hP hD hS hA hl.1 (P_bracketed l G h0 a (upd (upd (upd (upd F 2 (nI sz)) 9 (nI at9)) 10 (nI dp)) 11 (nI sg)) R Z B J K27 w 36 37 n at9 sz dp sg 0 (gset g q1 0 0 0) (by omega) (by omega) (by omega) (by omega) hns38.1 (fun o9 h9 => absurd h9 (by omega)) (by decide) (by decide) ihe hO hl0) (gV pw_954 pw_955 pw_956 pw_796 pw_922) hV_X8_bracketed qr43 5 hqr44 rfl rfl rfl (Nat.le_of_ble_eq_true rfl) dX8_indexed_29 ⟨(by show 1 + (2 * (sz - at9) + 18) ≤ (2 * (sz - at9) + 19); omega), (by show 11 + (11 * (2 * (sz - at9) + 18)) ≤ (11 * (2 * (sz - at9) + 19)); omega)⟩ ⟨(by show (40 * n + 10) + 1 ≤ (40 * n + 16); omega), (by show 8 + (4 + 11) + (1300 * n + 330) ≤ (1300 * n + 480); omega)⟩ (fun v42 u40 H locs hw41 hP hD hS => ?_) (fun ux ce9 q9 H9 locs9 hux hP9 hD9 hS9 hce hcv hcl => pb_out ux (ThQ.up (Thx.same (Thx.same (Thx.same (Thx.same Thx.rfl rfl) rfl) rfl) rfl) RhX.rfl hux) hnt hlocks hce hcv hcl hP9 hD9 hS9 (by show 1 + (2 * (sz - at9) + 18) ≤ (2 * (sz - at9) + 19); omega) (by show 11 + (11 * (2 * (sz - at9) + 18)) ≤ (11 * (2 * (sz - at9) + 19)); omega))
  obtain ⟨w, r45, K46, g47, at48, sg49, f50⟩ := u40
  obtain ⟨hw41, h51, h52, h53, h54, hO⟩ := hw41
  have h51 : NwR K27 K46 (gset g q1 0 0 0) g47 r45 0 (at9 + 1) (5 * (20 - (dp + 1)) + 6 + (sg49 - sg)) := h51
  have h52 : at9 + 3 ≤ at48 ∧ at48 ≤ sz := h52
  have h53 : sg ≤ sg49 ∧ sg49 ≤ 60 := h53
  have h54 : dp + 1 ≤ 20 := h54
  obtain rfl : v42 = some (.ref r45) := hw41
  have hf55 : K46.1 q1 = 1 := (((h51).2.1.1 q1 (by rw [hf29]; decide)).1).trans hf29
  have hf56 : K46.2.1 0 q1 = 14 := (((h51).2.1.1 q1 (by rw [hf29]; decide)).2.1 0).trans hf30
  have hf57 : K46.2.1 2 q1 = ((kN K q1 1 0).2.1 2 x0) := (((h51).2.1.1 q1 (by rw [hf29]; decide)).2.1 2).trans hf31
  have hf58 : K46.2.2.1 1 q1 = none := (((h51).2.1.1 q1 (by rw [hf29]; decide)).2.2.1 1).trans hf32
  have hf59 : K46.2.2.1 2 q1 = none := (((h51).2.1.1 q1 (by rw [hf29]; decide)).2.2.1 2).trans hf33
  have hf60 : K46.2.2.1 3 q1 = none := (((h51).2.1.1 q1 (by rw [hf29]; decide)).2.2.1 3).trans hf34
  have hf61 : K46.2.2.1 4 q1 = none := (((h51).2.1.1 q1 (by rw [hf29]; decide)).2.2.1 4).trans hf35
  have hf62 : K46.1 x0 = 1 := (((h51).2.1.1 x0 (by rw [hf36]; decide)).1).trans hf36
  have hf63 : K46.2.2.1 0 q1 = some x0 := (((h51).2.1.1 q1 (by rw [hf29]; decide)).2.2.1 0).trans hf37
  have hO : OKP G h0 a (upd (upd (upd (upd F 2 (nI sz)) 9 (nI at48)) 10 (nI dp)) 11 (nI sg49)) R Z (updA B 10 f50) J K46 w := hO.to rfl
  refine W.widen (k := (1 + (2 * (at48 - at9) - 5))) (n := (11 + (11 * (2 * (at48 - at9) - 5)))) (by show 1 + (2 * (at48 - at9) - 5) ≤ (1 + (2 * (at48 - at9) - 5)); omega) (by show 11 + (11 * (2 * (at48 - at9) - 5)) ≤ (11 + (11 * (2 * (at48 - at9) - 5))); omega) ?_
  refine W.eq (g2 := F0 m 32 ls [.ref r45, .ref q1]) rfl ?_
  have hns64 : NwS K K46 g g47 := NwS.call hns38 h51 (fun o9 h9 => absurd h9 (by omega))
  have hf65 : K46.1 r45 = 1 := h51.2.2.1.2.1
  have hg66 : g47 0 q1 = 0 := (h51.2.1.2 q1 (by rw [hf29]; decide) 0).trans hg25
  have hno67 : NoO K46 g47 q1 := NoO.call hno39 h51 hf29 (by omega)
  refine p_put (v := .ref r45) (ty := (.object "JinjaTongue$Node")) (C := RX7) (Tc := TX7) (N := 11) (ci := 13) (K' := (kC K46 1 q1 (some r45))) hx hb hq pin_wsX70 tyX7 tyX7_ok nmX7 hown hE hP hD hS hO (by rw [hf55]; decide) (rep_1 hf55) rfl 7 (by decide) (hq _ pw_910) (fun _ h9 => h9) rfl (by decide +kernel) rfl rfl (Nat.le_of_ble_eq_true rfl) rfl (by rw [rep_1 (show (kC K46 1 q1 (some r45)).1 q1 = 1 from hf55), pc_1] <;> rfl) (fun p9 hp9 => rep_kC hp9) dX8_indexed_32 (fun H locs w hP hD hS hO => ?_)
  obtain ⟨K68, hK69⟩ : ∃ z : PK, z = (kC K46 1 q1 (some r45)) := ⟨_, rfl⟩
  rw [← hK69] at hO
  have hf70 : K68.1 q1 = 1 := (by rw [hK69]; exact hf55)
  have hf71 : K68.2.1 0 q1 = 14 := (by rw [hK69]; exact hf56)
  have hf72 : K68.2.1 2 q1 = ((kN K q1 1 0).2.1 2 x0) := (by rw [hK69]; exact hf57)
  have hf73 : K68.2.2.1 2 q1 = none := (by rw [hK69]; exact (kC_of (by decide)).trans hf59)
  have hf74 : K68.2.2.1 3 q1 = none := (by rw [hK69]; exact (kC_of (by decide)).trans hf60)
  have hf75 : K68.2.2.1 4 q1 = none := (by rw [hK69]; exact (kC_of (by decide)).trans hf61)
  have hf76 : K68.1 x0 = 1 := (by rw [hK69]; exact hf62)
  have hf77 : K68.2.2.1 0 q1 = some x0 := (by rw [hK69]; exact (kC_of (by decide)).trans hf63)
  have hf78 : K68.1 r45 = 1 := (by rw [hK69]; exact hf65)
  have hf79 : K68.2.2.1 1 q1 = some r45 := by rw [hK69]; exact kC_eq
  have hns80 : NwS K K68 g g47 := by rw [hK69]; exact NwS.put hns64 hq24 hg66
  have hno81 : NoO K68 g47 q1 := by rw [hK69]; exact hno67
  refine lv_aload_n hx hb dX8_indexed_35 rfl (lv_at hl 0 rfl) ?_
  refine W_size (fun hz1 hz2 => ?_)
  refine vx_ret ?_
  have hg8 : g47 0 x0 = g 0 x0 := hns80.2.1.2 x0 (by rw [hx0]; decide) 0
  have hlr := h51.2.2.1
  have hlr1 := hlr.2.2.1
  have hlr2 := hlr.2.2.2.1
  have hkid : ∀ f9 y9 : Nat, f9 ≤ 3 → K68.2.2.1 f9 q1 = some y9 → K68.1 y9 = 1 ∧ 1 ≤ g47 0 y9 ∧ g47 0 y9 < (5 * (20 - dp) + 3 + (sg49 - sb)) := by
    intro f9 y9 hf9 hy9
    rcases (show f9 = 0 ∨ f9 = 1 ∨ f9 = 2 ∨ f9 = 3 by omega) with rfl | rfl | rfl | rfl
    · rw [hf77] at hy9; cases hy9; exact ⟨hf76, (by omega), by omega⟩
    · rw [hf79] at hy9; cases hy9; exact ⟨hf78, hlr1, by omega⟩
    · rw [hf73] at hy9; cases hy9
    · rw [hf74] at hy9; cases hy9
  have hdn := NwS.done1 (q := q1) (L := (5 * (20 - dp) + 3 + (sg49 - sb))) (O := O) (k := kr) hns80 hq24 hf70 hg66 (by omega) (by omega) (Shp.k14 hf71 (by show ¬ K68.2.2.1 0 q1 = none; rw [hf77]; intro z; cases z) (by show ¬ K68.2.2.1 1 q1 = none; rw [hf79]; intro z; cases z)) (fun f9 => Lsf.no14 hf71) hkid hf75 hno81 (fun f9 x9 _ _ => Kch.no (by rw [hf71]; decide)) how
  have hz82 : NwR K K68 g (gset g47 q1 (5 * (20 - dp) + 3 + (sg49 - sb)) O kr) q1 O kr (5 * (20 - dp) + 3 + (sg49 - sb)) := hdn
  have hz83 : at9 + 3 ≤ at48 ∧ at48 ≤ sz := (by omega)
  have hz84 : sg ≤ sg49 ∧ sg49 ≤ 60 := (by omega)
  have hO : OKP G h0 a (upd (upd (upd (upd F 2 (nI sz)) 9 (nI at48)) 10 (nI dp)) 11 (nI sg49)) R Z (updA B 10 f50) J K68 w := hO.to rfl
  refine W.widen (k := (2 * (sz - at9) + 19)) (n := (11 * (2 * (sz - at9) + 19))) (by omega) (by omega) ?_
  have hzz1 : H.size ≤ s.heap.size + ((2 * (at48 - at9) - 4)) := (by have z : (1 + (2 * (at48 - at9) - 5)) ≤ (2 * (at48 - at9) - 4) := (by omega); omega)
  have hzz2 : hSl H ≤ hSl s.heap + ((11 * (2 * (at48 - at9) - 4))) := (by have z : (11 + (11 * (2 * (at48 - at9) - 5))) ≤ (11 * (2 * (at48 - at9) - 4)) := (by omega); omega)
  exact W.aret (v := .ref q1) hx hb hr (Or.inl ⟨_, rfl⟩) (Or.inr ⟨_, rfl⟩) (fun t99 ht99 hW99 => ⟨⟨_, (w, (q1, K68, (gset g47 q1 (5 * (20 - dp) + 3 + (sg49 - sb)) O kr), at48, sg49, f50)), rfl, ⟨rfl, hz82, hz83, hz84, hO⟩, by rw [ht99]; exact hP, hD, by rw [ht99]; exact hzz1, by rw [ht99]; exact hzz2⟩, hS.F ht99⟩) hS.2.2 dX8_indexed_36
