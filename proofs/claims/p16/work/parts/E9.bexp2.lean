theorem dX8_indexed_0 : decode cX8_indexed 0 = .ok (.new 143, 3) := by decide +kernel
theorem dX8_indexed_3 : decode cX8_indexed 3 = .ok (.dup, 1) := by decide +kernel
theorem dX8_indexed_4 : decode cX8_indexed 4 = .ok (.bipush 14, 2) := by decide +kernel
theorem dX8_indexed_6 : decode cX8_indexed 6 = .ok (.aload_n 0, 1) := by decide +kernel
theorem dX8_indexed_7 : decode cX8_indexed 7 = .ok (.getfield 17, 3) := by decide +kernel
theorem dX8_indexed_10 : decode cX8_indexed 10 = .ok (.aload_n 1, 1) := by decide +kernel
theorem dX8_indexed_11 : decode cX8_indexed 11 = .ok (.getfield 248, 3) := by decide +kernel
theorem dX8_indexed_14 : decode cX8_indexed 14 = .ok (.invokespecial 145, 3) := by decide +kernel
theorem dX8_indexed_17 : decode cX8_indexed 17 = .ok (.astore_n 2, 1) := by decide +kernel
theorem dX8_indexed_18 : decode cX8_indexed 18 = .ok (.aload_n 2, 1) := by decide +kernel
theorem dX8_indexed_19 : decode cX8_indexed 19 = .ok (.aload_n 1, 1) := by decide +kernel
theorem dX8_indexed_20 : decode cX8_indexed 20 = .ok (.putfield 165, 3) := by decide +kernel
theorem dX8_indexed_23 : decode cX8_indexed 23 = .ok (.aload_n 2, 1) := by decide +kernel
theorem dX8_indexed_24 : decode cX8_indexed 24 = .ok (.aload_n 0, 1) := by decide +kernel
theorem dX8_indexed_25 : decode cX8_indexed 25 = .ok (.bipush 36, 2) := by decide +kernel
theorem dX8_indexed_27 : decode cX8_indexed 27 = .ok (.bipush 37, 2) := by decide +kernel
theorem dX8_indexed_29 : decode cX8_indexed 29 = .ok (.invokevirtual 280, 3) := by decide +kernel
theorem dX8_indexed_32 : decode cX8_indexed 32 = .ok (.putfield 230, 3) := by decide +kernel
theorem dX8_indexed_35 : decode cX8_indexed 35 = .ok (.aload_n 2, 1) := by decide +kernel
theorem dX8_indexed_36 : decode cX8_indexed 36 = .ok (.areturn, 1) := by decide +kernel
theorem hV_X8_bracketed : yX8_bracketed.cls = RX8 ∧ yX8_bracketed.cls ≠ "java/lang/invoke/MethodHandle" ∧ yX8_bracketed.cls ≠ "java/lang/invoke/VarHandle" ∧ (parseMethodDescriptor yX8_bracketed.desc).map (fun d => d.parameters.length) = some 2 := by decide +kernel
set_option maxHeartbeats 16000000 in
set_option maxRecDepth 100000 in
theorem P_indexed (l : Launch) (G : pT) (h0 : Nat) (a : Nat → Nat) (F : Nat → Int32) (R : Nat → Value) (Z : Int64) (B : Nat → Nat → Int32) (J : Nat → Nat → Int64) (K : PK) (w : va_W) (x0 : Nat) (sb : Nat) (kx : Nat) (st9 : Nat) (n : Nat) (at9 : Nat) (sz : Nat) (dp : Nat) (sg : Nat) (O : Nat) (g : Nat → Nat → Nat) (hsz : sz ≤ 5000) (hat : at9 ≤ sz) (hdp : dp + n = 20) (hsg : sg ≤ 60) (hwn : WN K g) (how : ∀ o : Nat, O = o + 1 → K.1 o = 1 ∧ g 0 o = 0 ∧ ¬ K.2.1 0 o = 32) (hx0 : K.1 x0 = 1) (hx1 : 1 ≤ g 0 x0) (hx2 : sb + 1 ≤ sg ∧ g 0 x0 + 1 ≤ 5 * (20 - dp) + 3 + (sg - sb)) (hxk : g 2 x0 = kx) (hxi : st9 ≤ rS kx ∧ rS kx + 1 ≤ rE kx ∧ rE kx ≤ at9 ∧ 1 ≤ rD kx ∧ rD kx ≤ 9 * (20 - dp) + (sg - sb) + 1) (ihe : IhE l G n) (hO : OKP G h0 a (upd (upd (upd (upd F 2 (nI sz)) 9 (nI at9)) 10 (nI dp)) 11 (nI sg)) R Z B J K w) (hl0 : l.stackTraces = false) : PBn l G pX0 yX8_indexed cX8_indexed 3 (some (.object "JinjaTongue$Node")) ({ frames := (40 * n + 16), cells := (2 * (sz - at9) + 19), slots := (11 * (2 * (sz - at9) + 19)), locals := (1300 * n + 480) }) [.ref (a 3), .ref x0] w (fun (v : Option Value) (u : va_W × (Nat × PK × (Nat → Nat → Nat) × Nat × Nat × (Nat → Int32) × Nat)) => v = some (.ref u.2.1) ∧ (NwR K u.2.2.1 g u.2.2.2.1 u.2.1 O u.2.2.2.2.2.2.2 (5 * (20 - dp) + 3 + (u.2.2.2.2.2.1 - sb))) ∧ (rS u.2.2.2.2.2.2.2 = st9 ∧ rS u.2.2.2.2.2.2.2 + 1 ≤ rE u.2.2.2.2.2.2.2 ∧ rE u.2.2.2.2.2.2.2 ≤ u.2.2.2.2.1 ∧ 1 ≤ rD u.2.2.2.2.2.2.2 ∧ rD u.2.2.2.2.2.2.2 ≤ 9 * (20 - dp) + (u.2.2.2.2.2.1 - sb) + 1) ∧ (at9 + 3 ≤ u.2.2.2.2.1 ∧ u.2.2.2.2.1 ≤ sz) ∧ (sg ≤ u.2.2.2.2.2.1 ∧ u.2.2.2.2.2.1 ≤ 60) ∧ (NwT (B 7) sz (B 10) u.2.2.2.2.2.2.1 K u.2.2.1 at9 u.2.2.2.2.1) ∧ (OKP G h0 a (upd (upd (upd (upd F 2 (nI sz)) 9 (nI u.2.2.2.2.1)) 10 (nI dp)) 11 (nI u.2.2.2.2.2.1)) R Z (updA B 10 u.2.2.2.2.2.2.1) J u.2.2.1 u.1)) (fun u => u.1) (fun (u : va_W × (Nat × PK × (Nat → Nat → Nat) × Nat × Nat × (Nat → Int32) × Nat)) => (2 * (u.2.2.2.2.1 - at9) - 4)) (fun (u : va_W × (Nat × PK × (Nat → Nat → Nat) × Nat × Nat × (Nat → Int32) × Nat)) => (11 * (2 * (u.2.2.2.2.1 - at9) - 4))) (fun (u : va_W × (Nat → Int32) × (Nat → Value) × (Nat → Nat → Int32)) => ThQ G h0 a (upd (upd (upd (upd F 2 (nI sz)) 9 (nI at9)) 10 (nI dp)) 11 (nI sg)) R Z B J u) (fun u => u.1) := by
  intro sz
  refine vx_ofW (cc := cX8_indexed) (maxL := 3) (ret := (some (.object "JinjaTongue$Node"))) (by decide) rfl ?_
  intro p e s m args below meth c s₁ B9 hml hnt hv
  obtain ⟨rfl, hsz, hP, hD0, hE, hX⟩ := hv
  have hx := B9.exec
  have hb := B9.bytes
  have hr := B9.returns
  have hts := atoms_spec (ws := Cond.code yX8_indexed cX8_indexed 3 (some (.object "JinjaTongue$Node")) :: pw) B9.pre
  have hq : ∀ w ∈ pw, w.before _ s = true := fun w h => hts w (List.mem_cons_of_mem _ h)
  have hown : s.vm.findClass RX8 = some m.cls := findClass_of_methodNamed B9.named
  have hlocks := B9.notSynchronized
  subst hsz
  have hD := hD0.self (sz := s.heap.size)
  have hA : ∀ q : Nat, s.heap.size ≤ q → va_A w s.heap.size q := fun q h => Or.inr h
  generalize va_A w s.heap.size = A at hD hE hA ⊢
  have hS : va_S A s.heap s.heap [] := va_S.rf
  have hl := lv_entry ([.ref (a 3), .ref x0]) (n := 3) (Nat.le_of_ble_eq_true rfl)
  rw [lg_entry_eq]
  generalize (lg_sl ([.ref (a 3), .ref x0]) ++ List.replicate (3 - (lg_sl ([.ref (a 3), .ref x0])).length) Slot.unset).toArray = ls at hl ⊢
  have hl : lv_has ls 3 [(0, .ref (a 3)), (1, .ref x0)] := hl
  have htk0 : NwT (B 7) sz (B 10) (B 10) K K at9 at9 := NwT.nil
  have hns0 : NwS K K g g := NwS.nil hwn
  refine p_new (s9 := 1) (C := RX7) (T := TX7) (N := 11) (ci := 13) (fs := [.int 0, .int 0, .int 0, .int 0, .int 0, .int 0, .null, .null, .null, .null, .null]) hx hb hq pin_wsX70 tyX7 tyX7_ok hown (hq _ pw_870) (hq _ pw_871) (hq _ pw_872) hE hP hD hS hA hO rfl nw_X7 (by decide) (fun q => by rw [rep_1 (show (kN K q 1 0).1 q = 1 from if_pos rfl)]; unfold fsNode kN; simp only [if_true]; rfl) (by show 0 + 1 ≤ (2 * (sz - at9) + 19); omega) (by show 0 + 11 ≤ (11 * (2 * (sz - at9) + 19)); omega) dX8_indexed_0 (fun q1 H w hq2 hP hD hS hO => ?_)
  have hf3 : (kN K q1 1 0).1 x0 = 1 := (if_neg (fun z => by have z2 := hx0; rw [z, hq2] at z2; exact absurd z2 (by decide))).trans hx0
  have hf4 : (kN K q1 1 0).1 q1 = 1 := if_pos rfl
  refine W.widen (k := 1) (n := 11) (by show 0 + 1 ≤ 1; omega) (by show 0 + 11 ≤ 11; omega) ?_
  refine lv_dup hx hb dX8_indexed_3 rfl ?_
  refine lv_bipush (v := 14) hx hb dX8_indexed_4 (by decide) ?_
  refine lv_aload_n hx hb dX8_indexed_6 rfl (lv_at hl 0 rfl) ?_
  refine c_get (v := .int (nI at9)) (C := RX8) (Tc := TX8) (N := 5) (ci := 5) hx hb hq pin_wsX80 hown hE hP hO 23 (sg_23 G h0 a _ _ _ _ _) rfl 2 (by decide) (hq _ pw_776) (fun _ h9 => h9) rfl dX8_indexed_7 ?_
  refine lv_aload_n hx hb dX8_indexed_10 rfl (lv_at hl 1 rfl) ?_
  refine p_get (v := .int ((kN K q1 1 0).2.1 2 x0)) (C := RX7) (Tc := TX7) (N := 11) (ci := 13) hx hb hq pin_wsX70 hown hE hP hO (by rw [hf3]; decide) (rep_1 hf3) rfl 2 (by decide) (hq _ pw_937) (fun _ h9 => h9) rfl dX8_indexed_11 ?_
  have hO : OKP G h0 a (upd (upd (upd (upd F 2 (nI sz)) 9 (nI at9)) 10 (nI dp)) 11 (nI sg)) R Z B J (kN K q1 1 0) w := hO.to rfl
  obtain ⟨qr8, hqr9⟩ := p_recv hO (by rw [hf4]; decide) (rep_1 hf4)
  refine pc_I0 (G := G) (As := [.int 14, .int (nI at9), .int ((kN K q1 1 0).2.1 2 x0)]) (rest := [.ref q1]) hx hb hml hown hq hE hX pX0_al hP hD hS hA hl.1 (N_init l G h0 a (upd (upd (upd (upd F 2 (nI sz)) 9 (nI at9)) 10 (nI dp)) 11 (nI sg)) R Z B J (kN K q1 1 0) w q1 14 (nI at9) ((kN K q1 1 0).2.1 2 x0) (by omega) hO) pw_874 pw_875 pw_872 pw_765 rfl hS_X7_init rfl (Nat.le_of_ble_eq_true rfl) dX8_indexed_14 ⟨(by show 1 + 0 ≤ (2 * (sz - at9) + 19); omega), (by show 11 + 0 ≤ (11 * (2 * (sz - at9) + 19)); omega)⟩ ⟨(by show 2 + 1 ≤ (40 * n + 16); omega), (by show 8 + (4 + 11) + 60 ≤ (1300 * n + 480); omega)⟩ (fun v7 u5 H locs hw6 hP hD hS => ?_)
  obtain ⟨w, _⟩ := u5
  obtain ⟨hw6, hO⟩ := hw6
  obtain rfl : v7 = none := hw6
  have hf10 : (kI (kI (kI (kN K q1 1 0) 0 q1 14) 1 q1 (nI at9)) 2 q1 ((kN K q1 1 0).2.1 2 x0)).1 x0 = 1 := hf3
  have hf11 : (kI (kI (kI (kN K q1 1 0) 0 q1 14) 1 q1 (nI at9)) 2 q1 ((kN K q1 1 0).2.1 2 x0)).1 q1 = 1 := hf4
  have hO : OKP G h0 a (upd (upd (upd (upd F 2 (nI sz)) 9 (nI at9)) 10 (nI dp)) 11 (nI sg)) R Z B J (kI (kI (kI (kN K q1 1 0) 0 q1 14) 1 q1 (nI at9)) 2 q1 ((kN K q1 1 0).2.1 2 x0)) w := hO.to rfl
  refine W.widen (k := 1) (n := 11) (by show 1 + 0 ≤ 1; omega) (by show 11 + 0 ≤ 11; omega) ?_
  refine W.eq (g2 := F0 m 17 ls [.ref q1]) rfl ?_
  change OKP G h0 a (upd (upd (upd (upd F 2 (nI sz)) 9 (nI at9)) 10 (nI dp)) 11 (nI sg)) R Z B J (mkN K q1 14 (nI at9) ((kN K q1 1 0).2.1 2 x0)) w at hO
  obtain ⟨K12, hK13⟩ : ∃ z : PK, z = (mkN K q1 14 (nI at9) ((kN K q1 1 0).2.1 2 x0)) := ⟨_, rfl⟩
  rw [← hK13] at hO
  have htk14 : NwT (B 7) sz (B 10) (B 10) K K12 at9 at9 := by rw [hK13]; exact NwT.new (NwT.le htk0 (show _ ≤ at9 by omega)) hq2 (TkP.no (by decide))
  have hf15 : K12.1 q1 = 1 := by rw [hK13]; exact mkN_T
  have hf16 : K12.2.1 0 q1 = 14 := by rw [hK13]; exact mkN_0
  have hf17 : K12.2.1 2 q1 = ((kN K q1 1 0).2.1 2 x0) := by rw [hK13]; exact mkN_2
  have hf18 : K12.2.2.1 0 q1 = none := by rw [hK13]; exact mkN_C
  have hf19 : K12.2.2.1 1 q1 = none := by rw [hK13]; exact mkN_C
  have hf20 : K12.2.2.1 2 q1 = none := by rw [hK13]; exact mkN_C
  have hf21 : K12.2.2.1 3 q1 = none := by rw [hK13]; exact mkN_C
  have hf22 : K12.2.2.1 4 q1 = none := by rw [hK13]; exact mkN_C
  have hf23 : K12.1 x0 = 1 := by rw [hK13]; exact ((mkN_ext hq2 x0 (by rw [hx0]; decide)).1).trans hx0
  have hns24 : NwS K K12 g (gset g q1 0 0 0) := by rw [hK13]; exact NwS.node hns0 hq2
  have hq25 : K.1 q1 = 0 := old_T hns0.2.1 hq2
  have hg26 : (gset g q1 0 0 0) 0 q1 = 0 := gset_0
  have hno27 : NoO K12 (gset g q1 0 0 0) q1 := by rw [hK13]; exact NoO.new hns0.1 hq2
  have hxq28 : ¬ x0 = q1 := fun z => by have z2 := hx0; rw [z, hq2] at z2; exact absurd z2 (by decide)
  have hrk29 : (gset g q1 0 0 0) 2 x0 = kx := (gset_ne hxq28).trans hxk
  refine lv_astore_n (lv' := [(2, .ref q1), (0, .ref (a 3)), (1, .ref x0)]) hx hb dX8_indexed_17 rfl hl (by decide) rfl (fun ls hl => ?_)
  refine lv_aload_n hx hb dX8_indexed_18 rfl (lv_at hl 0 rfl) ?_
  refine lv_aload_n hx hb dX8_indexed_19 rfl (lv_at hl 2 rfl) ?_
  refine p_put (v := .ref x0) (ty := (.object "JinjaTongue$Node")) (C := RX7) (Tc := TX7) (N := 11) (ci := 13) (K' := (kC K12 0 q1 (some x0))) hx hb hq pin_wsX70 tyX7 tyX7_ok nmX7 hown hE hP hD hS hO (by rw [hf15]; decide) (rep_1 hf15) rfl 6 (by decide) (hq _ pw_938) (fun _ h9 => h9) rfl (by decide +kernel) rfl rfl (Nat.le_of_ble_eq_true rfl) rfl (by rw [rep_1 (show (kC K12 0 q1 (some x0)).1 q1 = 1 from hf15), pc_0] <;> rfl) (fun p9 hp9 => rep_kC hp9) dX8_indexed_20 (fun H locs w hP hD hS hO => ?_)
  obtain ⟨K30, hK31⟩ : ∃ z : PK, z = (kC K12 0 q1 (some x0)) := ⟨_, rfl⟩
  rw [← hK31] at hO
  have hf32 : K30.1 q1 = 1 := (by rw [hK31]; exact hf15)
  have hf33 : K30.2.1 0 q1 = 14 := (by rw [hK31]; exact hf16)
  have hf34 : K30.2.1 2 q1 = ((kN K q1 1 0).2.1 2 x0) := (by rw [hK31]; exact hf17)
  have hf35 : K30.2.2.1 1 q1 = none := (by rw [hK31]; exact (kC_of (by decide)).trans hf19)
  have hf36 : K30.2.2.1 2 q1 = none := (by rw [hK31]; exact (kC_of (by decide)).trans hf20)
  have hf37 : K30.2.2.1 3 q1 = none := (by rw [hK31]; exact (kC_of (by decide)).trans hf21)
  have hf38 : K30.2.2.1 4 q1 = none := (by rw [hK31]; exact (kC_of (by decide)).trans hf22)
  have hf39 : K30.1 x0 = 1 := (by rw [hK31]; exact hf23)
  have hf40 : K30.2.2.1 0 q1 = some x0 := by rw [hK31]; exact kC_eq
  have htk41 : NwT (B 7) sz (B 10) (B 10) K K30 at9 at9 := by rw [hK31]; exact NwT.put htk14
  have hns42 : NwS K K30 g (gset g q1 0 0 0) := by rw [hK31]; exact NwS.put hns24 hq25 hg26
  have hno43 : NoO K30 (gset g q1 0 0 0) q1 := by rw [hK31]; exact hno27
  refine lv_aload_n hx hb dX8_indexed_23 rfl (lv_at hl 0 rfl) ?_
  refine lv_aload_n hx hb dX8_indexed_24 rfl (lv_at hl 1 rfl) ?_
  refine lv_bipush (v := 36) hx hb dX8_indexed_25 (by decide) ?_
  refine lv_bipush (v := 37) hx hb dX8_indexed_27 (by decide) ?_
  have hO : OKP G h0 a (upd (upd (upd (upd (upd (upd (upd (upd F 2 (nI sz)) 9 (nI at9)) 10 (nI dp)) 11 (nI sg)) 2 (nI sz)) 9 (nI at9)) 10 (nI dp)) 11 (nI sg)) R Z B J K30 w := hO.to rfl
  obtain ⟨_, qr47, hqr48⟩ := hO.2.1 23 _ (sg_23 G h0 a _ _ _ _ _)
  refine pn_V0 (G := G) (As := [.int 36, .int 37]) (rest := [.ref q1]) hx hb hml hown hq hE hX pX0_al hP hD hS hA hl.1 (P_bracketed l G h0 a (upd (upd (upd (upd F 2 (nI sz)) 9 (nI at9)) 10 (nI dp)) 11 (nI sg)) R Z B J K30 w 36 37 n at9 sz dp sg 0 (gset g q1 0 0 0) (by omega) (by omega) (by omega) (by omega) hns42.1 (fun o9 h9 => absurd h9 (by omega)) (by decide) (by decide) ihe hO hl0) (gV pw_954 pw_955 pw_956 pw_796 pw_922) hV_X8_bracketed qr47 5 hqr48 rfl rfl rfl (Nat.le_of_ble_eq_true rfl) dX8_indexed_29 ⟨(by show 1 + (2 * (sz - at9) + 18) ≤ (2 * (sz - at9) + 19); omega), (by show 11 + (11 * (2 * (sz - at9) + 18)) ≤ (11 * (2 * (sz - at9) + 19)); omega)⟩ ⟨(by show (40 * n + 10) + 1 ≤ (40 * n + 16); omega), (by show 8 + (4 + 11) + (1300 * n + 330) ≤ (1300 * n + 480); omega)⟩ (fun v46 u44 H locs hw45 hP hD hS => ?_) (fun ux ce9 q9 H9 locs9 hux hP9 hD9 hS9 hce hcv hcl => pb_out ux (ThQ.up (Thx.same (Thx.same (Thx.same (Thx.same Thx.rfl rfl) rfl) rfl) rfl) RhX.rfl hux) hnt hlocks hce hcv hcl hP9 hD9 hS9 (by show 1 + (2 * (sz - at9) + 18) ≤ (2 * (sz - at9) + 19); omega) (by show 11 + (11 * (2 * (sz - at9) + 18)) ≤ (11 * (2 * (sz - at9) + 19)); omega))
  obtain ⟨w, r49, K50, g51, at52, sg53, f54, k55⟩ := u44
  obtain ⟨hw45, h56, h57, h58, h59, h60, h61, h62, hO⟩ := hw45
  have h56 : NwR K30 K50 (gset g q1 0 0 0) g51 r49 0 k55 (5 * (20 - (dp + 1)) + 6 + (sg53 - sg)) := h56
  have h57 : at9 + 1 ≤ rS k55 ∧ rS k55 + 1 ≤ rE k55 ∧ rE k55 + 1 ≤ at52 ∧ 1 ≤ rD k55 ∧ rD k55 ≤ 9 * (20 - (dp + 1)) + (sg53 - sg) + 1 := h57
  have h58 : at9 + 3 ≤ at52 ∧ at52 ≤ sz := h58
  have h59 : sg ≤ sg53 ∧ sg53 ≤ 60 := h59
  have h60 : dp + 1 ≤ 20 := h60
  have h61 : ¬ tkN ((B 7)) sz 67 (nI (at9 + 1)) = 37 := h61
  have h62 : NwT ((B 7)) sz ((B 10)) f54 K30 K50 at9 at52 := h62
  obtain rfl : v46 = some (.ref r49) := hw45
  have hf63 : K50.1 q1 = 1 := (((h56).2.1.1 q1 (by rw [hf32]; decide)).1).trans hf32
  have hf64 : K50.2.1 0 q1 = 14 := (((h56).2.1.1 q1 (by rw [hf32]; decide)).2.1 0).trans hf33
  have hf65 : K50.2.1 2 q1 = ((kN K q1 1 0).2.1 2 x0) := (((h56).2.1.1 q1 (by rw [hf32]; decide)).2.1 2).trans hf34
  have hf66 : K50.2.2.1 1 q1 = none := (((h56).2.1.1 q1 (by rw [hf32]; decide)).2.2.1 1).trans hf35
  have hf67 : K50.2.2.1 2 q1 = none := (((h56).2.1.1 q1 (by rw [hf32]; decide)).2.2.1 2).trans hf36
  have hf68 : K50.2.2.1 3 q1 = none := (((h56).2.1.1 q1 (by rw [hf32]; decide)).2.2.1 3).trans hf37
  have hf69 : K50.2.2.1 4 q1 = none := (((h56).2.1.1 q1 (by rw [hf32]; decide)).2.2.1 4).trans hf38
  have hf70 : K50.1 x0 = 1 := (((h56).2.1.1 x0 (by rw [hf39]; decide)).1).trans hf39
  have hf71 : K50.2.2.1 0 q1 = some x0 := (((h56).2.1.1 q1 (by rw [hf32]; decide)).2.2.1 0).trans hf40
  have hO : OKP G h0 a (upd (upd (upd (upd F 2 (nI sz)) 9 (nI at52)) 10 (nI dp)) 11 (nI sg53)) R Z (updA B 10 f54) J K50 w := hO.to rfl
  refine W.widen (k := (1 + (2 * (at52 - at9) - 5))) (n := (11 + (11 * (2 * (at52 - at9) - 5)))) (by show 1 + (2 * (at52 - at9) - 5) ≤ (1 + (2 * (at52 - at9) - 5)); omega) (by show 11 + (11 * (2 * (at52 - at9) - 5)) ≤ (11 + (11 * (2 * (at52 - at9) - 5))); omega) ?_
  refine W.eq (g2 := F0 m 32 ls [.ref r49, .ref q1]) rfl ?_
  have htk72 : NwT (B 7) sz (B 10) f54 K K50 at9 at52 := (NwT.call htk41 h62 (by omega))
  have hns73 : NwS K K50 g g51 := NwS.call hns42 h56 (fun o9 h9 => absurd h9 (by omega))
  have hrk74 : g51 2 x0 = kx := (h56.2.1.2 x0 (by rw [hf39]; decide) 2).trans hrk29
  have hrk75 : g51 2 r49 = k55 := h56.2.2.1.2.2.2.2.2.1
  have hf76 : K50.1 r49 = 1 := h56.2.2.1.2.1
  have hg77 : g51 0 q1 = 0 := (h56.2.1.2 q1 (by rw [hf32]; decide) 0).trans hg26
  have hno78 : NoO K50 g51 q1 := NoO.call hno43 h56 hf32 (by omega)
  refine p_put (v := .ref r49) (ty := (.object "JinjaTongue$Node")) (C := RX7) (Tc := TX7) (N := 11) (ci := 13) (K' := (kC K50 1 q1 (some r49))) hx hb hq pin_wsX70 tyX7 tyX7_ok nmX7 hown hE hP hD hS hO (by rw [hf63]; decide) (rep_1 hf63) rfl 7 (by decide) (hq _ pw_910) (fun _ h9 => h9) rfl (by decide +kernel) rfl rfl (Nat.le_of_ble_eq_true rfl) rfl (by rw [rep_1 (show (kC K50 1 q1 (some r49)).1 q1 = 1 from hf63), pc_1] <;> rfl) (fun p9 hp9 => rep_kC hp9) dX8_indexed_32 (fun H locs w hP hD hS hO => ?_)
  obtain ⟨K79, hK80⟩ : ∃ z : PK, z = (kC K50 1 q1 (some r49)) := ⟨_, rfl⟩
  rw [← hK80] at hO
  have hf81 : K79.1 q1 = 1 := (by rw [hK80]; exact hf63)
  have hf82 : K79.2.1 0 q1 = 14 := (by rw [hK80]; exact hf64)
  have hf83 : K79.2.1 2 q1 = ((kN K q1 1 0).2.1 2 x0) := (by rw [hK80]; exact hf65)
  have hf84 : K79.2.2.1 2 q1 = none := (by rw [hK80]; exact (kC_of (by decide)).trans hf67)
  have hf85 : K79.2.2.1 3 q1 = none := (by rw [hK80]; exact (kC_of (by decide)).trans hf68)
  have hf86 : K79.2.2.1 4 q1 = none := (by rw [hK80]; exact (kC_of (by decide)).trans hf69)
  have hf87 : K79.1 x0 = 1 := (by rw [hK80]; exact hf70)
  have hf88 : K79.2.2.1 0 q1 = some x0 := (by rw [hK80]; exact (kC_of (by decide)).trans hf71)
  have hf89 : K79.1 r49 = 1 := (by rw [hK80]; exact hf76)
  have hf90 : K79.2.2.1 1 q1 = some r49 := by rw [hK80]; exact kC_eq
  have htk91 : NwT (B 7) sz (B 10) f54 K K79 at9 at52 := by rw [hK80]; exact NwT.put htk72
  have hns92 : NwS K K79 g g51 := by rw [hK80]; exact NwS.put hns73 hq25 hg77
  have hno93 : NoO K79 g51 q1 := by rw [hK80]; exact hno78
  refine lv_aload_n hx hb dX8_indexed_35 rfl (lv_at hl 0 rfl) ?_
  refine W_size (fun hz1 hz2 => ?_)
  refine vx_ret ?_
  have hg8 : g51 0 x0 = g 0 x0 := hns92.2.1.2 x0 (by rw [hx0]; decide) 0
  have hlr := h56.2.2.1
  have hlr1 := hlr.2.2.1
  have hlr2 := hlr.2.2.2.1
  obtain ⟨k994, k994I, k994S, k994E, k994M, k994N, k994X, k994D⟩ := rk_ex (s := st9) (e := at52) (m := (rE kx)) (n := at52) (x := 0) (d := (9 * (20 - dp) + (sg53 - sb) + 1)) (by omega)
  have hkid : ∀ f9 y9 : Nat, f9 ≤ 3 → K79.2.2.1 f9 q1 = some y9 → K79.1 y9 = 1 ∧ 1 ≤ g51 0 y9 ∧ g51 0 y9 < (5 * (20 - dp) + 3 + (sg53 - sb)) := by
    intro f9 y9 hf9 hy9
    rcases (show f9 = 0 ∨ f9 = 1 ∨ f9 = 2 ∨ f9 = 3 by omega) with rfl | rfl | rfl | rfl
    · rw [hf88] at hy9; cases hy9; exact ⟨hf87, (by omega), by omega⟩
    · rw [hf90] at hy9; cases hy9; exact ⟨hf89, hlr1, by omega⟩
    · rw [hf84] at hy9; cases hy9
    · rw [hf85] at hy9; cases hy9
  have hkc95 : ∀ f9 y9 : Nat, f9 ≤ 3 → K79.2.2.1 f9 q1 = some y9 → Kch (K79.2.1 0 q1) f9 (K79.2.1 0 y9) k994 (g51 2 y9) := by
    intro f9 y9 hf9 hy9
    rcases (show f9 = 0 ∨ f9 = 1 ∨ f9 = 2 ∨ f9 = 3 by omega) with rfl | rfl | rfl | rfl
    · rw [hf88] at hy9; cases hy9; rw [hrk74]; rw [hf82] <;> exact ⟨(fun z => absurd z (by decide)), (fun z => absurd z (by decide)), (fun z => absurd z (by decide)), (fun z => absurd z (by decide)), (fun _ _ => (by omega)), (fun _ z => absurd z (by decide)), (fun z => absurd z (by decide)), (fun z => absurd z (by decide)), (fun z => absurd z (by decide)), (fun z => absurd z (by decide)), (fun z => absurd z (by decide)), (fun z => absurd z (by decide)), (fun z => absurd z (by decide)), (fun z => absurd z (by decide)), (fun z => absurd z (by decide)), (fun z => absurd z (by decide)), (fun z => absurd z (by decide)), (fun z => absurd z (by decide)), (fun z => absurd z (by decide)), (fun z => absurd z (by decide)), (fun z => absurd z (by decide)), (fun z => absurd z (by decide)), (fun z => absurd z (by decide)), (fun z => absurd z (by decide))⟩
    · rw [hf90] at hy9; cases hy9; rw [hrk75]; rw [hf82] <;> exact ⟨(fun z => absurd z (by decide)), (fun z => absurd z (by decide)), (fun z => absurd z (by decide)), (fun z => absurd z (by decide)), (fun _ z => absurd z (by decide)), (fun _ _ => (by omega)), (fun z => absurd z (by decide)), (fun z => absurd z (by decide)), (fun z => absurd z (by decide)), (fun z => absurd z (by decide)), (fun z => absurd z (by decide)), (fun z => absurd z (by decide)), (fun z => absurd z (by decide)), (fun z => absurd z (by decide)), (fun z => absurd z (by decide)), (fun z => absurd z (by decide)), (fun z => absurd z (by decide)), (fun z => absurd z (by decide)), (fun z => absurd z (by decide)), (fun z => absurd z (by decide)), (fun z => absurd z (by decide)), (fun z => absurd z (by decide)), (fun z => absurd z (by decide)), (fun z => absurd z (by decide))⟩
    · rw [hf84] at hy9; cases hy9
    · rw [hf85] at hy9; cases hy9
  have hdn := NwS.done1I (q := q1) (L := (5 * (20 - dp) + 3 + (sg53 - sb))) (O := O) (k := k994) hns92 hq25 hf81 hg77 (by omega) ⟨k994I, (by rw [hf82] <;> exact ⟨(fun z => absurd z (by decide)), (fun z => absurd z (by decide)), (fun z => absurd z (by decide))⟩)⟩ (Shp.k14 hf82 (by show ¬ K79.2.2.1 0 q1 = none; rw [hf88]; intro z; cases z) (by show ¬ K79.2.2.1 1 q1 = none; rw [hf90]; intro z; cases z)) (fun f9 => Lsf.no14 hf82) hkid hf86 hno93 hkc95 how
  have hz96 : NwR K K79 g (gset g51 q1 (5 * (20 - dp) + 3 + (sg53 - sb)) O k994) q1 O k994 (5 * (20 - dp) + 3 + (sg53 - sb)) := hdn
  have hz97 : rS k994 = st9 ∧ rS k994 + 1 ≤ rE k994 ∧ rE k994 ≤ at52 ∧ 1 ≤ rD k994 ∧ rD k994 ≤ 9 * (20 - dp) + (sg53 - sb) + 1 := (by omega)
  have hz98 : at9 + 3 ≤ at52 ∧ at52 ≤ sz := (by omega)
  have hz99 : sg ≤ sg53 ∧ sg53 ≤ 60 := (by omega)
  have hz100 : NwT (B 7) sz (B 10) f54 K K79 at9 at52 := (NwT.le htk91 (by omega))
  have hO : OKP G h0 a (upd (upd (upd (upd F 2 (nI sz)) 9 (nI at52)) 10 (nI dp)) 11 (nI sg53)) R Z (updA B 10 f54) J K79 w := hO.to rfl
  refine W.widen (k := (2 * (sz - at9) + 19)) (n := (11 * (2 * (sz - at9) + 19))) (by omega) (by omega) ?_
  have hzz1 : H.size ≤ s.heap.size + ((2 * (at52 - at9) - 4)) := (by have z : (1 + (2 * (at52 - at9) - 5)) ≤ (2 * (at52 - at9) - 4) := (by omega); omega)
  have hzz2 : hSl H ≤ hSl s.heap + ((11 * (2 * (at52 - at9) - 4))) := (by have z : (11 + (11 * (2 * (at52 - at9) - 5))) ≤ (11 * (2 * (at52 - at9) - 4)) := (by omega); omega)
  exact W.aret (v := .ref q1) hx hb hr (Or.inl ⟨_, rfl⟩) (Or.inr ⟨_, rfl⟩) (fun t99 ht99 hW99 => ⟨⟨_, (w, (q1, K79, (gset g51 q1 (5 * (20 - dp) + 3 + (sg53 - sb)) O k994), at52, sg53, f54, k994)), rfl, ⟨rfl, hz96, hz97, hz98, hz99, hz100, hO⟩, by rw [ht99]; exact hP, hD, by rw [ht99]; exact hzz1, by rw [ht99]; exact hzz2⟩, hS.F ht99⟩) hS.2.2 dX8_indexed_36
