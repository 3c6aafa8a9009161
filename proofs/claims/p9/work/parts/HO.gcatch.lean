theorem dX0_catchBlock_0 : decode cX0_catchBlock 0 = .ok (.aload_n 0, 1) := by decide +kernel
theorem dX0_catchBlock_1 : decode cX0_catchBlock 1 = .ok (.getfield 91, 3) := by decide +kernel
theorem dX0_catchBlock_4 : decode cX0_catchBlock 4 = .ok (.istore_n 2, 1) := by decide +kernel
theorem dX0_catchBlock_5 : decode cX0_catchBlock 5 = .ok (.aload_n 0, 1) := by decide +kernel
theorem dX0_catchBlock_6 : decode cX0_catchBlock 6 = .ok (.getfield 15, 3) := by decide +kernel
theorem dX0_catchBlock_9 : decode cX0_catchBlock 9 = .ok (.getfield 158, 3) := by decide +kernel
theorem dX0_catchBlock_12 : decode cX0_catchBlock 12 = .ok (.istore_n 3, 1) := by decide +kernel
theorem dX0_catchBlock_13 : decode cX0_catchBlock 13 = .ok (.aload_n 0, 1) := by decide +kernel
theorem dX0_catchBlock_14 : decode cX0_catchBlock 14 = .ok (.aload_n 1, 1) := by decide +kernel
theorem dX0_catchBlock_15 : decode cX0_catchBlock 15 = .ok (.getfield 114, 3) := by decide +kernel
theorem dX0_catchBlock_18 : decode cX0_catchBlock 18 = .ok (.aload_n 0, 1) := by decide +kernel
theorem dX0_catchBlock_19 : decode cX0_catchBlock 19 = .ok (.getfield 9, 3) := by decide +kernel
theorem dX0_catchBlock_22 : decode cX0_catchBlock 22 = .ok (.aload_n 1, 1) := by decide +kernel
theorem dX0_catchBlock_23 : decode cX0_catchBlock 23 = .ok (.getfield 117, 3) := by decide +kernel
theorem dX0_catchBlock_26 : decode cX0_catchBlock 26 = .ok (.invokevirtual 120, 3) := by decide +kernel
theorem dX0_catchBlock_29 : decode cX0_catchBlock 29 = .ok (.invokevirtual 126, 3) := by decide +kernel
theorem dX0_catchBlock_32 : decode cX0_catchBlock 32 = .ok (.istore 4, 2) := by decide +kernel
theorem dX0_catchBlock_34 : decode cX0_catchBlock 34 = .ok (.aload_n 0, 1) := by decide +kernel
theorem dX0_catchBlock_35 : decode cX0_catchBlock 35 = .ok (.dup, 1) := by decide +kernel
theorem dX0_catchBlock_36 : decode cX0_catchBlock 36 = .ok (.getfield 94, 3) := by decide +kernel
theorem dX0_catchBlock_39 : decode cX0_catchBlock 39 = .ok (.iconst 1, 1) := by decide +kernel
theorem dX0_catchBlock_40 : decode cX0_catchBlock 40 = .ok (.iload 4, 2) := by decide +kernel
theorem dX0_catchBlock_42 : decode cX0_catchBlock 42 = .ok (.ishl, 1) := by decide +kernel
theorem dX0_catchBlock_43 : decode cX0_catchBlock 43 = .ok (.ior, 1) := by decide +kernel
theorem dX0_catchBlock_44 : decode cX0_catchBlock 44 = .ok (.putfield 94, 3) := by decide +kernel
theorem dX0_catchBlock_47 : decode cX0_catchBlock 47 = .ok (.aload_n 0, 1) := by decide +kernel
theorem dX0_catchBlock_48 : decode cX0_catchBlock 48 = .ok (.aload_n 1, 1) := by decide +kernel
theorem dX0_catchBlock_49 : decode cX0_catchBlock 49 = .ok (.getfield 165, 3) := by decide +kernel
theorem dX0_catchBlock_52 : decode cX0_catchBlock 52 = .ok (.invokevirtual 77, 3) := by decide +kernel
theorem dX0_catchBlock_55 : decode cX0_catchBlock 55 = .ok (.aload_n 0, 1) := by decide +kernel
theorem dX0_catchBlock_56 : decode cX0_catchBlock 56 = .ok (.iload_n 2, 1) := by decide +kernel
theorem dX0_catchBlock_57 : decode cX0_catchBlock 57 = .ok (.iload_n 3, 1) := by decide +kernel
theorem dX0_catchBlock_58 : decode cX0_catchBlock 58 = .ok (.invokevirtual 175, 3) := by decide +kernel
theorem dX0_catchBlock_61 : decode cX0_catchBlock 61 = .ok (.return_, 1) := by decide +kernel
theorem hV_X0_block : yX0_block.cls = RX0 ∧ yX0_block.cls ≠ "java/lang/invoke/MethodHandle" ∧ yX0_block.cls ≠ "java/lang/invoke/VarHandle" ∧ (parseMethodDescriptor yX0_block.desc).map (fun d => d.parameters.length) = some 1 := by decide +kernel
set_option maxHeartbeats 40000000 in
set_option maxRecDepth 100000 in
theorem B_catch (l : Launch) (G : pT) (h0 : Nat) (a : Nat → Nat) (F : Nat → Int32) (R : Nat → Value) (Z : Int64) (B : Nat → Nat → Int32) (J : Nat → Nat → Int64) (K : PK) (w : va_W) (pq : Nat) (dr : Nat) (ml : Nat) (nd : Nat) (nm : Nat) (cp : Nat) (it : Nat → Nat) (s9 : Nat) (q : Nat) (mq : Nat) (cs : Nat) (vr : Nat) (sz : Nat) (n : Nat) (q1 : Nat) (hd : Nat) (dp : Nat) (rg : Nat) (ls9 : Int32) (lo : Option Nat) (g : Nat → Nat → Nat) (rk : Nat → Nat) (hsz : sz ≤ 5000) (hwp : WPr G K g) (hps : PgT G K g (a 1) pq dr ml nd nm cp it s9) (hrk : RkO K rk) (hcs : cs ≤ 10000) (hvr : vr ≤ 30) (hng : Nng (B 18)) (hmq : K.1 mq = 3) (hqT : K.1 q = 1) (hqL : 1 ≤ g 0 q ∧ g 0 q ≤ n) (hc0 : K.2.2.1 0 q = some q1) (ht0 : K.1 q1 = 1) (hv0 : 1 ≤ g 0 q1 ∧ g 0 q1 + 1 ≤ n) (hdp : dp ≤ 1000) (hrg : rg ≤ 625) (hhd : hd + 2 * n + 30 ≤ 900 + vr) (hlo : LpO K lo) (hkd : K.2.1 0 q = 35) (ist : IhT l G n) (ihv : IhV l G n) (hO : OKP G h0 a (upd (upd (upd (upd (upd (upd (upd F 2 (nI sz)) 5 (nI cs)) 6 (nI rg)) 7 (nI hd)) 8 (nI dp)) 12 (nI vr)) 16 ls9) (updR (updR (updR R 2 (.ref pq)) 3 (.ref mq)) 4 (va_rf lo)) Z B J K w) (hl0 : l.stackTraces = false) : PBn l G pX0 yX0_catchBlock cX0_catchBlock 5 none ({ frames := (5 * n + 46), cells := ((rE (g 2 q) - rS (g 2 q)) + 1), slots := (6 * (rE (g 2 q) - rS (g 2 q)) + 6), locals := (200 * n + 1120) }) [.ref (a 4), .ref q] w (fun (v : Option Value) (u : va_W × (PK × (Nat → Nat → Int32) × Nat × Int32 × Int32 × Int32 × Nat × Nat × Int32)) => v = none ∧ (BdE K u.2.1) ∧ (Bth B u.2.2.1) ∧ (u.2.2.2.1 ≤ 10000 ∧ u.2.2.2.2.2.2.2.2.1 ≤ 625 ∧ u.2.2.2.2.2.2.2.1 ≤ 1000) ∧ (OKP G h0 a (upd (upd (upd (upd (upd (upd (upd (upd (upd (upd F 2 (nI sz)) 5 (nI u.2.2.2.1)) 6 (nI u.2.2.2.2.2.2.2.2.1)) 7 (nI hd)) 8 (nI u.2.2.2.2.2.2.2.1)) 12 (nI vr)) 13 u.2.2.2.2.1) 14 u.2.2.2.2.2.1) 15 u.2.2.2.2.2.2.1) 16 u.2.2.2.2.2.2.2.2.2) (updR (updR (updR R 2 (.ref pq)) 3 (.ref mq)) 4 (va_rf lo)) Z u.2.2.1 J u.2.1 u.1)) (fun u => u.1) (fun (u : va_W × (PK × (Nat → Nat → Int32) × Nat × Int32 × Int32 × Int32 × Nat × Nat × Int32)) => (rE (g 2 q) - rS (g 2 q))) (fun (u : va_W × (PK × (Nat → Nat → Int32) × Nat × Int32 × Int32 × Int32 × Nat × Nat × Int32)) => (6 * (rE (g 2 q) - rS (g 2 q)))) (fun (u : va_W × (Nat → Int32) × (Nat → Value) × (Nat → Nat → Int32)) => ThQ G h0 a (upd (upd (upd (upd (upd (upd (upd F 2 (nI sz)) 5 (nI cs)) 6 (nI rg)) 7 (nI hd)) 8 (nI dp)) 12 (nI vr)) 16 ls9) (updR (updR (updR R 2 (.ref pq)) 3 (.ref mq)) 4 (va_rf lo)) Z B J u) (fun u => u.1) := by
  intro sz
  refine vx_ofW (cc := cX0_catchBlock) (maxL := 5) (ret := none) (by decide) rfl ?_
  intro p e s m args below meth c s₁ B9 hml hnt hv
  obtain ⟨rfl, hsz, hP, hD0, hE, hX⟩ := hv
  have hx := B9.exec
  have hb := B9.bytes
  have hr := B9.returns
  have hts := atoms_spec (ws := Cond.code yX0_catchBlock cX0_catchBlock 5 none :: pw) B9.pre
  have hq : ∀ w ∈ pw, w.before _ s = true := fun w h => hts w (List.mem_cons_of_mem _ h)
  have hown : s.vm.findClass RX0 = some m.cls := findClass_of_methodNamed B9.named
  have hlocks := B9.notSynchronized
  subst hsz
  have hD := hD0.self (sz := s.heap.size)
  have hA : ∀ q : Nat, s.heap.size ≤ q → va_A w s.heap.size q := fun q h => Or.inr h
  generalize va_A w s.heap.size = A at hD hE hA ⊢
  have hS : va_S A s.heap s.heap [] := va_S.rf
  have hl := lv_entry ([.ref (a 4), .ref q]) (n := 5) (Nat.le_of_ble_eq_true rfl)
  rw [lg_entry_eq]
  generalize (lg_sl ([.ref (a 4), .ref q]) ++ List.replicate (5 - (lg_sl ([.ref (a 4), .ref q])).length) Slot.unset).toArray = ls at hl ⊢
  have hl : lv_has ls 5 [(0, .ref (a 4)), (1, .ref q)] := hl
  have hpg := hps.1
  have hp1 := hpg.1
  have hp2 := hpg.2.1
  have hp3 := hpg.2.2.1
  have hp4 := hpg.2.2.2.1
  have hp5 := hpg.2.2.2.2.1
  have hp6 := hpg.2.2.2.2.2.1
  have hp8 := hpg.2.2.2.2.2.2.2.1
  have hp9 := hpg.2.2.2.2.2.2.2.2
  have hnd := hwp.1 q hqT hqL.1
  have hiq := hnd.it
  have hri0 := NdO.iv35a hnd hkd hc0
  have hrx0 := (hwp.1 q1 ht0 hv0.1).it
  have hk1 := NdO.k35 hnd hkd (by decide) hc0
  refine lv_aload_n hx hb dX0_catchBlock_0 rfl (lv_at hl 0 rfl) ?_
  refine c_get (v := .int (nI vr)) (C := RX0) (Tc := TX0) (N := 13) (ci := 0) hx hb hq pin_wsX00 hown hE hP hO 24 (sg_24 G h0 a _ _ _ _ _) rfl 5 (by decide) (hq _ pw_42) (fun _ h9 => h9) rfl dX0_catchBlock_1 ?_
  refine lv_istore_n (lv' := [(2, .int (nI vr)), (0, .ref (a 4)), (1, .ref q)]) hx hb dX0_catchBlock_4 rfl hl (by decide) rfl (fun ls hl => ?_)
  refine lv_aload_n hx hb dX0_catchBlock_5 rfl (lv_at hl 1 rfl) ?_
  refine c_get (v := .ref (a 2)) (C := RX0) (Tc := TX0) (N := 13) (ci := 0) hx hb hq pin_wsX00 hown hE hP hO 24 (sg_24 G h0 a _ _ _ _ _) rfl 1 (by decide) (hq _ pw_5) (fun _ h9 => h9) rfl dX0_catchBlock_6 ?_
  refine c_get (v := .int (nI hd)) (C := RX1) (Tc := TX1) (N := 13) (ci := 1) hx hb hq pin_wsX10 hown hE hP hO 13 (sg_13 G h0 a _ _ _ _ _) rfl 11 (by decide) (hq _ pw_54) (fun _ h9 => h9) rfl dX0_catchBlock_9 ?_
  refine lv_istore_n (lv' := [(3, .int (nI hd)), (2, .int (nI vr)), (0, .ref (a 4)), (1, .ref q)]) hx hb dX0_catchBlock_12 rfl hl (by decide) rfl (fun ls hl => ?_)
  refine lv_aload_n hx hb dX0_catchBlock_13 rfl (lv_at hl 2 rfl) ?_
  refine lv_aload_n hx hb dX0_catchBlock_14 rfl (lv_at hl 3 rfl) ?_
  refine p_get (v := .int (K.2.1 1 q)) (C := RX7) (Tc := TX7) (N := 11) (ci := 13) hx hb hq pin_wsX70 hown hE hP hO (by rw [hqT]; decide) (rep_1 hqT) rfl 1 (by decide) (hq _ pw_81) (fun _ h9 => h9) rfl dX0_catchBlock_15 ?_
  refine lv_aload_n hx hb dX0_catchBlock_18 rfl (lv_at hl 2 rfl) ?_
  refine c_get (v := .ref (a 1)) (C := RX0) (Tc := TX0) (N := 13) (ci := 0) hx hb hq pin_wsX00 hown hE hP hO 24 (sg_24 G h0 a _ _ _ _ _) rfl 0 (by decide) (hq _ pw_4) (fun _ h9 => h9) rfl dX0_catchBlock_19 ?_
  refine lv_aload_n hx hb dX0_catchBlock_22 rfl (lv_at hl 3 rfl) ?_
  refine p_get (v := .int (K.2.1 2 q)) (C := RX7) (Tc := TX7) (N := 11) (ci := 13) hx hb hq pin_wsX70 hown hE hP hO (by rw [hqT]; decide) (rep_1 hqT) rfl 2 (by decide) (hq _ pw_82) (fun _ h9 => h9) rfl dX0_catchBlock_23 ?_
  have hO : OKW G h0 a (upd (upd (upd (upd (upd (upd (upd (upd F 2 (nI sz)) 5 (nI cs)) 6 (nI rg)) 7 (nI hd)) 8 (nI dp)) 12 (nI vr)) 16 ls9) 2 (nI sz)) (updR (updR (updR R 2 (.ref pq)) 3 (.ref mq)) 4 (va_rf lo)) Z B J K.1 (fun q99 x99 => x99 = rep G a K q99) w := hO.to rfl
  obtain ⟨_, qr4, hqr5⟩ := hO.2.1 2 _ (sg_2 G h0 a _ _ _ _ _)
  refine pc_V0 (G := G) (As := [.int (K.2.1 2 q)]) (rest := [.int (K.2.1 1 q), .ref (a 4)]) hx hb hml hown hq hE hX pX0_al hP hD hS hA hl.1 (K_typeAt l G h0 a (upd (upd (upd (upd (upd (upd (upd F 2 (nI sz)) 5 (nI cs)) 6 (nI rg)) 7 (nI hd)) 8 (nI dp)) 12 (nI vr)) 16 ls9) (updR (updR (updR R 2 (.ref pq)) 3 (.ref mq)) 4 (va_rf lo)) Z B J K.1 (fun q99 x99 => x99 = rep G a K q99) w (K.2.1 2 q) sz (by omega) hO) (gV pw_92 pw_93 pw_94 pw_59 pw_36) hV_X10_typeAt qr4 7 hqr5 rfl rfl rfl (Nat.le_of_ble_eq_true rfl) dX0_catchBlock_26 ⟨(by show 0 + 0 ≤ ((rE (g 2 q) - rS (g 2 q)) + 1); omega), (by show 0 + 0 ≤ (6 * (rE (g 2 q) - rS (g 2 q)) + 6); omega)⟩ ⟨(by show 2 + 1 ≤ (5 * n + 46); omega), (by show 8 + (2 + 11) + 60 ≤ (200 * n + 1120); omega)⟩ (fun v3 u1 H locs hw2 hP hD hS => ?_)
  obtain ⟨w, r6⟩ := u1
  obtain ⟨hw2, hO⟩ := hw2
  obtain rfl : v3 = some (.int r6) := hw2
  have hO : OKP G h0 a (upd (upd (upd (upd (upd (upd (upd F 2 (nI sz)) 5 (nI cs)) 6 (nI rg)) 7 (nI hd)) 8 (nI dp)) 12 (nI vr)) 16 ls9) (updR (updR (updR R 2 (.ref pq)) 3 (.ref mq)) 4 (va_rf lo)) Z B J K w := hO.to rfl
  refine W.widen (k := 0) (n := 0) (Nat.le_of_ble_eq_true rfl) (Nat.le_of_ble_eq_true rfl) ?_
  refine W.eq (g2 := F0 m 29 ls [.int r6, .int (K.2.1 1 q), .ref (a 4)]) rfl ?_
  have hO : OKW G h0 a (upd (upd (upd (upd (upd (upd (upd (upd (upd (upd (upd F 2 (nI sz)) 5 (nI cs)) 6 (nI rg)) 7 (nI hd)) 8 (nI dp)) 12 (nI vr)) 16 ls9) 2 (nI sz)) 7 (nI hd)) 8 (nI dp)) 12 (nI vr)) (updR (updR (updR R 2 (.ref pq)) 3 (.ref mq)) 4 (va_rf lo)) Z B J K.1 (fun q99 x99 => x99 = rep G a K q99) w := hO.to rfl
  obtain ⟨_, qr10, hqr11⟩ := hO.2.1 24 _ (sg_24 G h0 a _ _ _ _ _)
  refine pn_V0 (G := G) (As := [.int (K.2.1 1 q), .int r6]) (rest := []) hx hb hml hown hq hE hX pX0_al hP hD hS hA hl.1 (B_declare l G h0 a (upd (upd (upd (upd (upd (upd (upd F 2 (nI sz)) 5 (nI cs)) 6 (nI rg)) 7 (nI hd)) 8 (nI dp)) 12 (nI vr)) 16 ls9) (updR (updR (updR R 2 (.ref pq)) 3 (.ref mq)) 4 (va_rf lo)) Z B J K.1 (fun q99 x99 => x99 = rep G a K q99) w (K.2.1 1 q) r6 vr hd dp sz (by omega) (by omega) (by omega) (by omega) hO hl0) (gV pw_95 pw_96 pw_97 pw_63 pw_71) hV_X0_declare qr10 0 hqr11 rfl rfl rfl (Nat.le_of_ble_eq_true rfl) dX0_catchBlock_29 ⟨(by show 0 + 1 ≤ ((rE (g 2 q) - rS (g 2 q)) + 1); omega), (by show 0 + 6 ≤ (6 * (rE (g 2 q) - rS (g 2 q)) + 6); omega)⟩ ⟨(by show 7 + 1 ≤ (5 * n + 46); omega), (by show 8 + (4 + 11) + 122 ≤ (200 * n + 1120); omega)⟩ (fun v9 u7 H locs hw8 hP hD hS => ?_) (fun ux ce9 q9 H9 locs9 hux hP9 hD9 hS9 hce hcv hcl => pb_out ux (ThQ.up (Thx.same (Thx.same (Thx.same (Thx.same Thx.rfl rfl) rfl) rfl) rfl) RhX.rfl hux) hnt hlocks hce hcv hcl hP9 hD9 hS9 (by show 0 + 1 ≤ ((rE (g 2 q) - rS (g 2 q)) + 1); omega) (by show 0 + 6 ≤ (6 * (rE (g 2 q) - rS (g 2 q)) + 6); omega))
  obtain ⟨w, dp12, as13, f14, f15, f16⟩ := u7
  obtain ⟨hw8, h17, h18, hO⟩ := hw8
  have h17 : vr + 1 ≤ 30 := h17
  have h18 : dp12 ≤ 1000 := h18
  obtain rfl : v9 = some (.int (nI vr)) := hw8
  have hO : OKP G h0 a (upd (upd (upd (upd (upd (upd (upd (upd F 2 (nI sz)) 5 (nI cs)) 6 (nI rg)) 7 (nI (hd + 1))) 8 (nI dp12)) 12 (nI (vr + 1))) 13 as13) 16 ls9) (updR (updR (updR R 2 (.ref pq)) 3 (.ref mq)) 4 (va_rf lo)) Z (updA (updA (updA B 25 f14) 26 f15) 27 f16) J K w := hO.to rfl
  refine W.widen (k := 0) (n := 0) (by show 0 + 0 ≤ 0; omega) (by show 0 + 0 ≤ 0; omega) ?_
  refine W.eq (g2 := F0 m 32 ls [.int (nI vr)]) rfl ?_
  refine lv_istore (lv' := [(4, .int (nI vr)), (3, .int (nI hd)), (2, .int (nI vr)), (0, .ref (a 4)), (1, .ref q)]) hx hb dX0_catchBlock_32 hl (by decide) rfl (fun ls hl => ?_)
  refine lv_aload_n hx hb dX0_catchBlock_34 rfl (lv_at hl 3 rfl) ?_
  refine lv_dup hx hb dX0_catchBlock_35 rfl ?_
  refine c_get (v := .int as13) (C := RX0) (Tc := TX0) (N := 13) (ci := 0) hx hb hq pin_wsX00 hown hE hP hO 24 (sg_24 G h0 a _ _ _ _ _) rfl 8 (by decide) (hq _ pw_55) (fun _ h9 => h9) rfl dX0_catchBlock_36 ?_
  refine lv_iconst (v := 1) hx hb dX0_catchBlock_39 (by decide) ?_
  refine lv_iload hx hb dX0_catchBlock_40 (lv_at hl 0 rfl) ?_
  refine lv_ishl hx hb dX0_catchBlock_42 ?_
  refine lv_topi (fun x19 e20 => ?_)
  refine lv_ior hx hb dX0_catchBlock_43 ?_
  refine lv_topi (fun x21 e22 => ?_)
  refine c_put (v := .int x21) (ty := .int) (C := RX0) (Tc := TX0) (N := 13) (ci := 0) hx hb hq pin_wsX00 tyX0 tyX0_ok nmX0 hown hE hP hD hS hO 24 (sg_24 G h0 a _ _ _ _ _) rfl 8 (by decide) (hq _ pw_55) (fun _ h9 => h9) rfl (by decide +kernel) rfl rfl (Nat.le_of_ble_eq_true rfl) (sf_13 G h0 a _ _ _ _ _ x21) dX0_catchBlock_44 (fun H locs w hP hD hS hO => ?_)
  refine lv_aload_n hx hb dX0_catchBlock_47 rfl (lv_at hl 3 rfl) ?_
  refine lv_aload_n hx hb dX0_catchBlock_48 rfl (lv_at hl 4 rfl) ?_
  refine p_get (v := .ref q1) (C := RX7) (Tc := TX7) (N := 11) (ci := 13) hx hb hq pin_wsX70 hown hE hP hO (by rw [hqT]; decide) (rep_1 hqT) rfl 6 (by decide) (hq _ pw_180) (fun _ h9 => h9) (congrArg (fun z => some (va_rf z)) hc0) dX0_catchBlock_49 ?_
  have hO : OKP G h0 a (upd (upd (upd (upd (upd (upd (upd (upd (upd (upd (upd (upd (upd (upd (upd (upd (upd (upd F 2 (nI sz)) 5 (nI cs)) 6 (nI rg)) 7 (nI hd)) 8 (nI dp)) 12 (nI vr)) 16 ls9) 7 (nI (hd + 1))) 8 (nI dp12)) 12 (nI (vr + 1))) 13 x21) 2 (nI sz)) 5 (nI cs)) 6 (nI rg)) 7 (nI (hd + 1))) 8 (nI dp12)) 12 (nI (vr + 1))) 16 ls9) (updR (updR (updR (updR (updR (updR R 2 (.ref pq)) 3 (.ref mq)) 4 (va_rf lo)) 2 (.ref pq)) 3 (.ref mq)) 4 (va_rf lo)) Z (updA (updA (updA B 25 f14) 26 f15) 27 f16) J K w := hO.to rfl
  obtain ⟨_, qr26, hqr27⟩ := hO.2.1 24 _ (sg_24 G h0 a _ _ _ _ _)
  refine pn_V0 (G := G) (As := [.ref q1]) (rest := []) hx hb hml hown hq hE hX pX0_al hP hD hS hA hl.1 (B_block l G h0 a (upd (upd (upd (upd (upd (upd (upd (upd (upd (upd (upd F 2 (nI sz)) 5 (nI cs)) 6 (nI rg)) 7 (nI hd)) 8 (nI dp)) 12 (nI vr)) 16 ls9) 7 (nI (hd + 1))) 8 (nI dp12)) 12 (nI (vr + 1))) 13 x21) (updR (updR (updR R 2 (.ref pq)) 3 (.ref mq)) 4 (va_rf lo)) Z (updA (updA (updA B 25 f14) 26 f15) 27 f16) J K w pq dr ml nd nm cp it s9 q1 mq cs (vr + 1) sz (n - 1) (hd + 1) dp12 rg ls9 lo g rk (by omega) (BdE.wp BdE.rfl hwp) (BdE.pt BdE.rfl hwp hps) (BdE.rko BdE.rfl hrk) (by omega) (by omega) hng hmq ht0 ⟨hv0.1, (by have z9 := hv0; omega)⟩ (by omega) (by omega) (by omega) (LpO.be BdE.rfl hlo) hk1 (IhT.lo ist) (IhV.all l G _) hO hl0) (gV pw_307 pw_308 pw_309 pw_63 pw_358) hV_X0_block qr26 0 hqr27 rfl rfl rfl (Nat.le_of_ble_eq_true rfl) dX0_catchBlock_52 ⟨(by show 0 + ((rE (g 2 q1) - rS (g 2 q1) - 2) + 1) ≤ ((rE (g 2 q) - rS (g 2 q)) + 1); omega), (by show 0 + (6 * (rE (g 2 q1) - rS (g 2 q1) - 2) + 6) ≤ (6 * (rE (g 2 q) - rS (g 2 q)) + 6); omega)⟩ ⟨(by show (5 * (n - 1) + 46) + 1 ≤ (5 * n + 46); omega), (by show 8 + (5 + 11) + (200 * (n - 1) + 1120) ≤ (200 * n + 1120); omega)⟩ (fun v25 u23 H locs hw24 hP hD hS => ?_) (fun ux ce9 q9 H9 locs9 hux hP9 hD9 hS9 hce hcv hcl => pb_out ux (ThQ.up (Thx.same (Thx.same (Thx.same (Thx.same (Thx.same (Thx.same (Thx.same (Thx.b (Thx.b (Thx.b (Thx.f (Thx.f (Thx.f (Thx.f Thx.rfl (by omega)) (by omega)) (by omega)) (by omega)) (by omega) (by decide)) (by omega) (by decide)) (by omega) (by decide)) rfl) rfl) rfl) rfl) rfl) rfl) rfl) (show RhX (updR (updR (updR R 2 (.ref pq)) 3 (.ref mq)) 4 (va_rf lo)) (updR (updR (updR (updR (updR (updR R 2 (.ref pq)) 3 (.ref mq)) 4 (va_rf lo)) 2 (.ref pq)) 3 (.ref mq)) 4 (va_rf lo)) from fun k9 hk9 => by unfold updR; simp only [show ¬ k9 = 1 by omega, show ¬ k9 = 2 by omega, show ¬ k9 = 3 by omega, show ¬ k9 = 4 by omega, if_false]) hux) hnt hlocks hce hcv hcl hP9 hD9 hS9 (by show 0 + ((rE (g 2 q1) - rS (g 2 q1) - 2) + 1) ≤ ((rE (g 2 q) - rS (g 2 q)) + 1); omega) (by show 0 + (6 * (rE (g 2 q1) - rS (g 2 q1) - 2) + 6) ≤ (6 * (rE (g 2 q) - rS (g 2 q)) + 6); omega))
  obtain ⟨w, K28, B29, cs30, as31, wt32, wf33, dp34, rg35, ls36⟩ := u23
  obtain ⟨hw24, h37, h38, h39, hO⟩ := hw24
  have h37 : BdE K K28 := h37
  have h38 : Bth (updA (updA (updA B 25 f14) 26 f15) 27 f16) B29 := h38
  have h39 : cs30 ≤ 10000 ∧ rg35 ≤ 625 ∧ dp34 ≤ 1000 := h39
  obtain rfl : v25 = none := hw24
  have hf40 : K28.1 pq = 7 := (BdE.T h37 hp1 (by decide))
  have hf41 : K28.2.2.1 18 pq = some (a 1) := (BdE.C h37 (by rw [hp1]; decide) 18).trans hp2
  have hf42 : K28.2.2.1 14 pq = some dr := (BdE.C h37 (by rw [hp1]; decide) 14).trans hp3
  have hf43 : K28.1 dr = 8 := (BdE.T h37 hp4 (by decide))
  have hf44 : K28.2.2.1 15 pq = some ml := (BdE.C h37 (by rw [hp1]; decide) 15).trans hp5
  have hf45 : K28.1 ml = 5 := (BdE.T h37 hp6 (by decide))
  have hf46 : K28.2.1 24 pq = (nI nd) := (BdE.I h37 (by rw [hp1]; decide) (by decide) (by decide)).trans hp8
  have hf47 : K28.1 q = 1 := (BdE.T h37 hqT (by decide))
  have hf48 : K28.1 mq = 3 := (BdE.T h37 hmq (by decide))
  have hf49 : K28.2.2.1 0 q = some q1 := (BdE.C h37 (by rw [hqT]; decide) 0).trans hc0
  have hf50 : K28.1 q1 = 1 := (BdE.T h37 ht0 (by decide))
  have hf51 : K28.2.1 0 q1 = 21 := (BdE.I h37 (by rw [ht0]; decide) (by decide) (by decide)).trans hk1
  have hO : OKP G h0 a (upd (upd (upd (upd (upd (upd (upd (upd (upd (upd F 2 (nI sz)) 5 (nI cs30)) 6 (nI rg35)) 7 (nI (hd + 1))) 8 (nI dp34)) 12 (nI (vr + 1))) 13 as31) 14 wt32) 15 wf33) 16 ls36) (updR (updR (updR R 2 (.ref pq)) 3 (.ref mq)) 4 (va_rf lo)) Z B29 J K28 w := hO.to rfl
  refine W.widen (k := (rE (g 2 q1) - rS (g 2 q1) - 2)) (n := (6 * (rE (g 2 q1) - rS (g 2 q1) - 2))) (by show 0 + (rE (g 2 q1) - rS (g 2 q1) - 2) ≤ (rE (g 2 q1) - rS (g 2 q1) - 2); omega) (by show 0 + (6 * (rE (g 2 q1) - rS (g 2 q1) - 2)) ≤ (6 * (rE (g 2 q1) - rS (g 2 q1) - 2)); omega) ?_
  refine W.eq (g2 := F0 m 55 ls []) rfl ?_
  have hbe52 := BdE.trans BdE.rfl h37
  have hbb53 : Bth B B29 := Bth.trans (show Thx (upd (upd (upd (upd (upd (upd (upd F 2 (nI sz)) 5 (nI cs)) 6 (nI rg)) 7 (nI hd)) 8 (nI dp)) 12 (nI vr)) 16 ls9) (upd (upd (upd (upd (upd (upd (upd (upd (upd (upd (upd F 2 (nI sz)) 5 (nI cs)) 6 (nI rg)) 7 (nI hd)) 8 (nI dp)) 12 (nI vr)) 16 ls9) 7 (nI (hd + 1))) 8 (nI dp12)) 12 (nI (vr + 1))) 13 x21) B (updA (updA (updA B 25 f14) 26 f15) 27 f16) from (Thx.b (Thx.b (Thx.b (Thx.f (Thx.f (Thx.f (Thx.f Thx.rfl (by omega)) (by omega)) (by omega)) (by omega)) (by omega) (by decide)) (by omega) (by decide)) (by omega) (by decide))).2 h38
  have hng54 : Nng (B29 18) := h38.2 hng
  refine lv_aload_n hx hb dX0_catchBlock_55 rfl (lv_at hl 3 rfl) ?_
  refine lv_iload_n hx hb dX0_catchBlock_56 rfl (lv_at hl 2 rfl) ?_
  refine lv_iload_n hx hb dX0_catchBlock_57 rfl (lv_at hl 1 rfl) ?_
  have hO : OKW G h0 a (upd (upd (upd (upd (upd (upd (upd (upd (upd (upd F 2 (nI sz)) 5 (nI cs30)) 6 (nI rg35)) 7 (nI (hd + 1))) 8 (nI dp34)) 12 (nI (vr + 1))) 13 as31) 14 wt32) 15 wf33) 16 ls36) (updR (updR (updR R 2 (.ref pq)) 3 (.ref mq)) 4 (va_rf lo)) Z B29 J K28.1 (fun q99 x99 => x99 = rep G a K28 q99) w := hO.to rfl
  obtain ⟨_, qr58, hqr59⟩ := hO.2.1 24 _ (sg_24 G h0 a _ _ _ _ _)
  refine pc_V0 (G := G) (As := [.int (nI vr), .int (nI hd)]) (rest := []) hx hb hml hown hq hE hX pX0_al hP hD hS hA hl.1 (B_endScope l G h0 a (upd (upd (upd (upd (upd (upd (upd (upd (upd (upd F 2 (nI sz)) 5 (nI cs30)) 6 (nI rg35)) 7 (nI (hd + 1))) 8 (nI dp34)) 12 (nI (vr + 1))) 13 as31) 14 wt32) 15 wf33) 16 ls36) (updR (updR (updR R 2 (.ref pq)) 3 (.ref mq)) 4 (va_rf lo)) Z B29 J K28.1 (fun q99 x99 => x99 = rep G a K28 q99) w (nI vr) (nI hd) hO) (gV pw_303 pw_304 pw_305 pw_63 pw_99) hV_X0_endScope qr58 0 hqr59 rfl rfl rfl (Nat.le_of_ble_eq_true rfl) dX0_catchBlock_58 ⟨(by show (rE (g 2 q1) - rS (g 2 q1) - 2) + 0 ≤ ((rE (g 2 q) - rS (g 2 q)) + 1); omega), (by show (6 * (rE (g 2 q1) - rS (g 2 q1) - 2)) + 0 ≤ (6 * (rE (g 2 q) - rS (g 2 q)) + 6); omega)⟩ ⟨(by show 2 + 1 ≤ (5 * n + 46); omega), (by show 8 + (3 + 11) + 60 ≤ (200 * n + 1120); omega)⟩ (fun v57 u55 H locs hw56 hP hD hS => ?_)
  obtain ⟨w, _⟩ := u55
  obtain ⟨hw56, hO⟩ := hw56
  obtain rfl : v57 = none := hw56
  have hO : OKP G h0 a (upd (upd (upd (upd (upd (upd (upd (upd (upd (upd F 2 (nI sz)) 5 (nI cs30)) 6 (nI rg35)) 7 (nI hd)) 8 (nI dp34)) 12 (nI vr)) 13 as31) 14 wt32) 15 wf33) 16 ls36) (updR (updR (updR R 2 (.ref pq)) 3 (.ref mq)) 4 (va_rf lo)) Z B29 J K28 w := hO.to rfl
  refine W.widen (k := (rE (g 2 q1) - rS (g 2 q1) - 2)) (n := (6 * (rE (g 2 q1) - rS (g 2 q1) - 2))) (by show (rE (g 2 q1) - rS (g 2 q1) - 2) + 0 ≤ (rE (g 2 q1) - rS (g 2 q1) - 2); omega) (by show (6 * (rE (g 2 q1) - rS (g 2 q1) - 2)) + 0 ≤ (6 * (rE (g 2 q1) - rS (g 2 q1) - 2)); omega) ?_
  refine W.eq (g2 := F0 m 61 ls []) rfl ?_
  refine W_size (fun hz1 hz2 => ?_)
  refine vx_ret ?_
  have hz60 : BdE K K28 := hbe52
  have hz61 : Bth B B29 := (show Thx (upd (upd (upd (upd (upd (upd (upd F 2 (nI sz)) 5 (nI cs)) 6 (nI rg)) 7 (nI hd)) 8 (nI dp)) 12 (nI vr)) 16 ls9) (upd (upd (upd (upd (upd (upd (upd (upd (upd (upd (upd (upd (upd (upd F 2 (nI sz)) 5 (nI cs)) 6 (nI rg)) 7 (nI hd)) 8 (nI dp)) 12 (nI vr)) 16 ls9) 5 (nI cs30)) 6 (nI rg35)) 8 (nI dp34)) 13 as31) 14 wt32) 15 wf33) 16 ls36) B B29 from (Thx.f (Thx.f (Thx.f (Thx.f (Thx.f (Thx.f (Thx.f (Bth.thx hbb53) (by omega)) (by omega)) (by omega)) (by omega)) (by omega)) (by omega)) (by omega))).2
  have hz62 : cs30 ≤ 10000 ∧ rg35 ≤ 625 ∧ dp34 ≤ 1000 := (by omega)
  have hO : OKP G h0 a (upd (upd (upd (upd (upd (upd (upd (upd (upd (upd F 2 (nI sz)) 5 (nI cs30)) 6 (nI rg35)) 7 (nI hd)) 8 (nI dp34)) 12 (nI vr)) 13 as31) 14 wt32) 15 wf33) 16 ls36) (updR (updR (updR R 2 (.ref pq)) 3 (.ref mq)) 4 (va_rf lo)) Z B29 J K28 w := hO.to rfl
  refine W.widen (k := ((rE (g 2 q) - rS (g 2 q)) + 1)) (n := (6 * (rE (g 2 q) - rS (g 2 q)) + 6)) (by omega) (by omega) ?_
  have hzz1 : H.size ≤ s.heap.size + ((rE (g 2 q) - rS (g 2 q))) := (by have z : (rE (g 2 q1) - rS (g 2 q1) - 2) ≤ (rE (g 2 q) - rS (g 2 q)) := (by omega); omega)
  have hzz2 : hSl H ≤ hSl s.heap + ((6 * (rE (g 2 q) - rS (g 2 q)))) := (by have z : (6 * (rE (g 2 q1) - rS (g 2 q1) - 2)) ≤ (6 * (rE (g 2 q) - rS (g 2 q))) := (by omega); omega)
  exact W.vret hx hb hr (fun t99 ht99 hW99 => ⟨⟨_, (w, (K28, B29, cs30, as31, wt32, wf33, dp34, rg35, ls36)), rfl, ⟨rfl, hz60, hz61, hz62, hO⟩, by rw [ht99]; exact hP, hD, by rw [ht99]; exact hzz1, by rw [ht99]; exact hzz2⟩, hS.F ht99⟩) hS.2.2 dX0_catchBlock_61
theorem dX0_last_0 : decode cX0_last 0 = .ok (.aload_n 0, 1) := by decide +kernel
theorem dX0_last_1 : decode cX0_last 1 = .ok (.getfield 15, 3) := by decide +kernel
theorem dX0_last_4 : decode cX0_last 4 = .ok (.iconst 2, 1) := by decide +kernel
theorem dX0_last_5 : decode cX0_last 5 = .ok (.invokevirtual 161, 3) := by decide +kernel
theorem dX0_last_8 : decode cX0_last 8 = .ok (.aload_n 0, 1) := by decide +kernel
theorem dX0_last_9 : decode cX0_last 9 = .ok (.aload_n 1, 1) := by decide +kernel
theorem dX0_last_10 : decode cX0_last 10 = .ok (.invokevirtual 77, 3) := by decide +kernel
theorem dX0_last_13 : decode cX0_last 13 = .ok (.aload_n 0, 1) := by decide +kernel
theorem dX0_last_14 : decode cX0_last 14 = .ok (.getfield 15, 3) := by decide +kernel
theorem dX0_last_17 : decode cX0_last 17 = .ok (.bipush 30, 2) := by decide +kernel
theorem dX0_last_19 : decode cX0_last 19 = .ok (.iload_n 2, 1) := by decide +kernel
theorem dX0_last_20 : decode cX0_last 20 = .ok (.iconst 0, 1) := by decide +kernel
theorem dX0_last_21 : decode cX0_last 21 = .ok (.invokevirtual 140, 3) := by decide +kernel
theorem dX0_last_24 : decode cX0_last 24 = .ok (.aload_n 0, 1) := by decide +kernel
theorem dX0_last_25 : decode cX0_last 25 = .ok (.getfield 15, 3) := by decide +kernel
theorem dX0_last_28 : decode cX0_last 28 = .ok (.iload_n 2, 1) := by decide +kernel
theorem dX0_last_29 : decode cX0_last 29 = .ok (.putfield 158, 3) := by decide +kernel
theorem dX0_last_32 : decode cX0_last 32 = .ok (.return_, 1) := by decide +kernel
set_option maxHeartbeats 40000000 in
set_option maxRecDepth 100000 in
theorem B_last (l : Launch) (G : pT) (h0 : Nat) (a : Nat → Nat) (F : Nat → Int32) (R : Nat → Value) (Z : Int64) (B : Nat → Nat → Int32) (J : Nat → Nat → Int64) (K : PK) (w : va_W) (pq : Nat) (dr : Nat) (ml : Nat) (nd : Nat) (nm : Nat) (cp : Nat) (it : Nat → Nat) (s9 : Nat) (q : Nat) (mq : Nat) (cs : Nat) (vr : Nat) (sz : Nat) (n : Nat) (hd : Nat) (dp : Nat) (rg : Nat) (ls9 : Int32) (lo : Option Nat) (g : Nat → Nat → Nat) (rk : Nat → Nat) (hsz : sz ≤ 5000) (hwp : WPr G K g) (hps : PgT G K g (a 1) pq dr ml nd nm cp it s9) (hrk : RkO K rk) (hcs : cs ≤ 10000) (hvr : vr ≤ 30) (hng : Nng (B 18)) (hmq : K.1 mq = 3) (hqT : K.1 q = 1) (hqL : 1 ≤ g 0 q ∧ g 0 q ≤ n) (hdp : dp ≤ 1000) (hrg : rg ≤ 625) (hhd : hd + 2 * n + 32 ≤ 900 + vr) (hlo : LpO K lo) (hkd : K.2.1 0 q = 21) (ist : IhT l G n) (ihv : IhV l G n) (hO : OKP G h0 a (upd (upd (upd (upd (upd (upd (upd F 2 (nI sz)) 5 (nI cs)) 6 (nI rg)) 7 (nI hd)) 8 (nI dp)) 12 (nI vr)) 16 ls9) (updR (updR (updR R 2 (.ref pq)) 3 (.ref mq)) 4 (va_rf lo)) Z B J K w) (hl0 : l.stackTraces = false) : PBn l G pX0 yX0_last cX0_last 3 none ({ frames := (5 * n + 48), cells := ((rE (g 2 q) - rS (g 2 q) - 2) + 1), slots := (6 * (rE (g 2 q) - rS (g 2 q) - 2) + 6), locals := (200 * n + 1160) }) [.ref (a 4), .ref q, .int (nI hd)] w (fun (v : Option Value) (u : va_W × (PK × (Nat → Nat → Int32) × Nat × Int32 × Int32 × Int32 × Nat × Nat × Int32)) => v = none ∧ (BdE K u.2.1) ∧ (Bth B u.2.2.1) ∧ (u.2.2.2.1 ≤ 10000 ∧ u.2.2.2.2.2.2.2.2.1 ≤ 625 ∧ u.2.2.2.2.2.2.2.1 ≤ 1000) ∧ (OKP G h0 a (upd (upd (upd (upd (upd (upd (upd (upd (upd (upd F 2 (nI sz)) 5 (nI u.2.2.2.1)) 6 (nI u.2.2.2.2.2.2.2.2.1)) 7 (nI hd)) 8 (nI u.2.2.2.2.2.2.2.1)) 12 (nI vr)) 13 u.2.2.2.2.1) 14 u.2.2.2.2.2.1) 15 u.2.2.2.2.2.2.1) 16 u.2.2.2.2.2.2.2.2.2) (updR (updR (updR R 2 (.ref pq)) 3 (.ref mq)) 4 (va_rf lo)) Z u.2.2.1 J u.2.1 u.1)) (fun u => u.1) (fun (u : va_W × (PK × (Nat → Nat → Int32) × Nat × Int32 × Int32 × Int32 × Nat × Nat × Int32)) => (rE (g 2 q) - rS (g 2 q) - 2)) (fun (u : va_W × (PK × (Nat → Nat → Int32) × Nat × Int32 × Int32 × Int32 × Nat × Nat × Int32)) => (6 * (rE (g 2 q) - rS (g 2 q) - 2))) (fun (u : va_W × (Nat → Int32) × (Nat → Value) × (Nat → Nat → Int32)) => ThQ G h0 a (upd (upd (upd (upd (upd (upd (upd F 2 (nI sz)) 5 (nI cs)) 6 (nI rg)) 7 (nI hd)) 8 (nI dp)) 12 (nI vr)) 16 ls9) (updR (updR (updR R 2 (.ref pq)) 3 (.ref mq)) 4 (va_rf lo)) Z B J u) (fun u => u.1) := by
  intro sz
  refine vx_ofW (cc := cX0_last) (maxL := 3) (ret := none) (by decide) rfl ?_
  intro p e s m args below meth c s₁ B9 hml hnt hv
  obtain ⟨rfl, hsz, hP, hD0, hE, hX⟩ := hv
  have hx := B9.exec
  have hb := B9.bytes
  have hr := B9.returns
  have hts := atoms_spec (ws := Cond.code yX0_last cX0_last 3 none :: pw) B9.pre
  have hq : ∀ w ∈ pw, w.before _ s = true := fun w h => hts w (List.mem_cons_of_mem _ h)
  have hown : s.vm.findClass RX0 = some m.cls := findClass_of_methodNamed B9.named
  have hlocks := B9.notSynchronized
  subst hsz
  have hD := hD0.self (sz := s.heap.size)
  have hA : ∀ q : Nat, s.heap.size ≤ q → va_A w s.heap.size q := fun q h => Or.inr h
  generalize va_A w s.heap.size = A at hD hE hA ⊢
  have hS : va_S A s.heap s.heap [] := va_S.rf
  have hl := lv_entry ([.ref (a 4), .ref q, .int (nI hd)]) (n := 3) (Nat.le_of_ble_eq_true rfl)
  rw [lg_entry_eq]
  generalize (lg_sl ([.ref (a 4), .ref q, .int (nI hd)]) ++ List.replicate (3 - (lg_sl ([.ref (a 4), .ref q, .int (nI hd)])).length) Slot.unset).toArray = ls at hl ⊢
  have hl : lv_has ls 3 [(0, .ref (a 4)), (1, .ref q), (2, .int (nI hd))] := hl
  have hpg := hps.1
  have hp1 := hpg.1
  have hp2 := hpg.2.1
  have hp3 := hpg.2.2.1
  have hp4 := hpg.2.2.2.1
  have hp5 := hpg.2.2.2.2.1
  have hp6 := hpg.2.2.2.2.2.1
  have hp8 := hpg.2.2.2.2.2.2.2.1
  have hp9 := hpg.2.2.2.2.2.2.2.2
  refine lv_aload_n hx hb dX0_last_0 rfl (lv_at hl 0 rfl) ?_
  refine c_get (v := .ref (a 2)) (C := RX0) (Tc := TX0) (N := 13) (ci := 0) hx hb hq pin_wsX00 hown hE hP hO 24 (sg_24 G h0 a _ _ _ _ _) rfl 1 (by decide) (hq _ pw_5) (fun _ h9 => h9) rfl dX0_last_1 ?_
  refine lv_iconst (v := 2) hx hb dX0_last_4 (by decide) ?_
  have hO : OKW G h0 a (upd (upd (upd (upd (upd (upd (upd (upd (upd F 2 (nI sz)) 5 (nI cs)) 6 (nI rg)) 7 (nI hd)) 8 (nI dp)) 12 (nI vr)) 16 ls9) 7 (nI hd)) 8 (nI dp)) (updR (updR (updR R 2 (.ref pq)) 3 (.ref mq)) 4 (va_rf lo)) Z B J K.1 (fun q99 x99 => x99 = rep G a K q99) w := hO.to rfl
  obtain ⟨_, qr4, hqr5⟩ := hO.2.1 13 _ (sg_13 G h0 a _ _ _ _ _)
  refine pc_V0 (G := G) (As := [.int (nI 2)]) (rest := []) hx hb hml hown hq hE hX pX0_al hP hD hS hA hl.1 (K_hold l G h0 a (upd (upd (upd (upd (upd (upd (upd F 2 (nI sz)) 5 (nI cs)) 6 (nI rg)) 7 (nI hd)) 8 (nI dp)) 12 (nI vr)) 16 ls9) (updR (updR (updR R 2 (.ref pq)) 3 (.ref mq)) 4 (va_rf lo)) Z B J K.1 (fun q99 x99 => x99 = rep G a K q99) w 2 hd dp (by omega) (by omega) hO) (gV pw_67 pw_68 pw_69 pw_70 pw_49) hV_X1_hold qr4 1 hqr5 rfl rfl rfl (Nat.le_of_ble_eq_true rfl) dX0_last_5 ⟨(by show 0 + 0 ≤ ((rE (g 2 q) - rS (g 2 q) - 2) + 1); omega), (by show 0 + 0 ≤ (6 * (rE (g 2 q) - rS (g 2 q) - 2) + 6); omega)⟩ ⟨(by show 2 + 1 ≤ (5 * n + 48); omega), (by show 8 + (2 + 11) + 60 ≤ (200 * n + 1160); omega)⟩ (fun v3 u1 H locs hw2 hP hD hS => ?_)
  obtain ⟨w, dp6⟩ := u1
  obtain ⟨hw2, h7, hO⟩ := hw2
  have h7 : dp6 ≤ 1000 := h7
  obtain rfl : v3 = none := hw2
  have hO : OKP G h0 a (upd (upd (upd (upd (upd (upd (upd F 2 (nI sz)) 5 (nI cs)) 6 (nI rg)) 7 (nI (hd + 2))) 8 (nI dp6)) 12 (nI vr)) 16 ls9) (updR (updR (updR R 2 (.ref pq)) 3 (.ref mq)) 4 (va_rf lo)) Z B J K w := hO.to rfl
  refine W.widen (k := 0) (n := 0) (Nat.le_of_ble_eq_true rfl) (Nat.le_of_ble_eq_true rfl) ?_
  refine W.eq (g2 := F0 m 8 ls []) rfl ?_
  refine lv_aload_n hx hb dX0_last_8 rfl (lv_at hl 0 rfl) ?_
  refine lv_aload_n hx hb dX0_last_9 rfl (lv_at hl 1 rfl) ?_
  have hO : OKP G h0 a (upd (upd (upd (upd (upd (upd (upd (upd (upd (upd (upd (upd (upd (upd (upd (upd F 2 (nI sz)) 5 (nI cs)) 6 (nI rg)) 7 (nI hd)) 8 (nI dp)) 12 (nI vr)) 16 ls9) 7 (nI (hd + 2))) 8 (nI dp6)) 2 (nI sz)) 5 (nI cs)) 6 (nI rg)) 7 (nI (hd + 2))) 8 (nI dp6)) 12 (nI vr)) 16 ls9) (updR (updR (updR (updR (updR (updR R 2 (.ref pq)) 3 (.ref mq)) 4 (va_rf lo)) 2 (.ref pq)) 3 (.ref mq)) 4 (va_rf lo)) Z B J K w := hO.to rfl
  obtain ⟨_, qr11, hqr12⟩ := hO.2.1 24 _ (sg_24 G h0 a _ _ _ _ _)
  refine pn_V0 (G := G) (As := [.ref q]) (rest := []) hx hb hml hown hq hE hX pX0_al hP hD hS hA hl.1 (B_block l G h0 a (upd (upd (upd (upd (upd (upd (upd (upd (upd F 2 (nI sz)) 5 (nI cs)) 6 (nI rg)) 7 (nI hd)) 8 (nI dp)) 12 (nI vr)) 16 ls9) 7 (nI (hd + 2))) 8 (nI dp6)) (updR (updR (updR R 2 (.ref pq)) 3 (.ref mq)) 4 (va_rf lo)) Z B J K w pq dr ml nd nm cp it s9 q mq cs vr sz n (hd + 2) dp6 rg ls9 lo g rk (by omega) (BdE.wp BdE.rfl hwp) (BdE.pt BdE.rfl hwp hps) (BdE.rko BdE.rfl hrk) (by omega) (by omega) hng hmq hqT hqL (by omega) (by omega) (by omega) (LpO.be BdE.rfl hlo) hkd ist (IhV.all l G _) hO hl0) (gV pw_307 pw_308 pw_309 pw_63 pw_358) hV_X0_block qr11 0 hqr12 rfl rfl rfl (Nat.le_of_ble_eq_true rfl) dX0_last_10 ⟨(by show 0 + ((rE (g 2 q) - rS (g 2 q) - 2) + 1) ≤ ((rE (g 2 q) - rS (g 2 q) - 2) + 1); omega), (by show 0 + (6 * (rE (g 2 q) - rS (g 2 q) - 2) + 6) ≤ (6 * (rE (g 2 q) - rS (g 2 q) - 2) + 6); omega)⟩ ⟨(by show (5 * n + 46) + 1 ≤ (5 * n + 48); omega), (by show 8 + (5 + 11) + (200 * n + 1120) ≤ (200 * n + 1160); omega)⟩ (fun v10 u8 H locs hw9 hP hD hS => ?_) (fun ux ce9 q9 H9 locs9 hux hP9 hD9 hS9 hce hcv hcl => pb_out ux (ThQ.up (Thx.same (Thx.same (Thx.same (Thx.same (Thx.same (Thx.same (Thx.same (Thx.f (Thx.f Thx.rfl (by omega)) (by omega)) rfl) rfl) rfl) rfl) rfl) rfl) rfl) (show RhX (updR (updR (updR R 2 (.ref pq)) 3 (.ref mq)) 4 (va_rf lo)) (updR (updR (updR (updR (updR (updR R 2 (.ref pq)) 3 (.ref mq)) 4 (va_rf lo)) 2 (.ref pq)) 3 (.ref mq)) 4 (va_rf lo)) from fun k9 hk9 => by unfold updR; simp only [show ¬ k9 = 1 by omega, show ¬ k9 = 2 by omega, show ¬ k9 = 3 by omega, show ¬ k9 = 4 by omega, if_false]) hux) hnt hlocks hce hcv hcl hP9 hD9 hS9 (by show 0 + ((rE (g 2 q) - rS (g 2 q) - 2) + 1) ≤ ((rE (g 2 q) - rS (g 2 q) - 2) + 1); omega) (by show 0 + (6 * (rE (g 2 q) - rS (g 2 q) - 2) + 6) ≤ (6 * (rE (g 2 q) - rS (g 2 q) - 2) + 6); omega))
  obtain ⟨w, K13, B14, cs15, as16, wt17, wf18, dp19, rg20, ls21⟩ := u8
  obtain ⟨hw9, h22, h23, h24, hO⟩ := hw9
  have h22 : BdE K K13 := h22
  have h23 : Bth B B14 := h23
  have h24 : cs15 ≤ 10000 ∧ rg20 ≤ 625 ∧ dp19 ≤ 1000 := h24
  obtain rfl : v10 = none := hw9
  have hf25 : K13.1 pq = 7 := (BdE.T h22 hp1 (by decide))
  have hf26 : K13.2.2.1 18 pq = some (a 1) := (BdE.C h22 (by rw [hp1]; decide) 18).trans hp2
  have hf27 : K13.2.2.1 14 pq = some dr := (BdE.C h22 (by rw [hp1]; decide) 14).trans hp3
  have hf28 : K13.1 dr = 8 := (BdE.T h22 hp4 (by decide))
  have hf29 : K13.2.2.1 15 pq = some ml := (BdE.C h22 (by rw [hp1]; decide) 15).trans hp5
  have hf30 : K13.1 ml = 5 := (BdE.T h22 hp6 (by decide))
  have hf31 : K13.2.1 24 pq = (nI nd) := (BdE.I h22 (by rw [hp1]; decide) (by decide) (by decide)).trans hp8
  have hf32 : K13.1 q = 1 := (BdE.T h22 hqT (by decide))
  have hf33 : K13.1 mq = 3 := (BdE.T h22 hmq (by decide))
  have hO : OKP G h0 a (upd (upd (upd (upd (upd (upd (upd (upd (upd (upd F 2 (nI sz)) 5 (nI cs15)) 6 (nI rg20)) 7 (nI (hd + 2))) 8 (nI dp19)) 12 (nI vr)) 13 as16) 14 wt17) 15 wf18) 16 ls21) (updR (updR (updR R 2 (.ref pq)) 3 (.ref mq)) 4 (va_rf lo)) Z B14 J K13 w := hO.to rfl
  refine W.widen (k := (rE (g 2 q) - rS (g 2 q) - 2)) (n := (6 * (rE (g 2 q) - rS (g 2 q) - 2))) (by show 0 + (rE (g 2 q) - rS (g 2 q) - 2) ≤ (rE (g 2 q) - rS (g 2 q) - 2); omega) (by show 0 + (6 * (rE (g 2 q) - rS (g 2 q) - 2)) ≤ (6 * (rE (g 2 q) - rS (g 2 q) - 2)); omega) ?_
  refine W.eq (g2 := F0 m 13 ls []) rfl ?_
  have hbe34 := BdE.trans BdE.rfl h22
  have hbb35 : Bth B B14 := Bth.trans (show Thx (upd (upd (upd (upd (upd (upd (upd F 2 (nI sz)) 5 (nI cs)) 6 (nI rg)) 7 (nI hd)) 8 (nI dp)) 12 (nI vr)) 16 ls9) (upd (upd (upd (upd (upd (upd (upd (upd (upd F 2 (nI sz)) 5 (nI cs)) 6 (nI rg)) 7 (nI hd)) 8 (nI dp)) 12 (nI vr)) 16 ls9) 7 (nI (hd + 2))) 8 (nI dp6)) B B from (Thx.f (Thx.f Thx.rfl (by omega)) (by omega))).2 h23
  have hng36 : Nng (B14 18) := h23.2 hng
  refine lv_aload_n hx hb dX0_last_13 rfl (lv_at hl 0 rfl) ?_
  refine c_get (v := .ref (a 2)) (C := RX0) (Tc := TX0) (N := 13) (ci := 0) hx hb hq pin_wsX00 hown hE hP hO 24 (sg_24 G h0 a _ _ _ _ _) rfl 1 (by decide) (hq _ pw_5) (fun _ h9 => h9) rfl dX0_last_14 ?_
  refine lv_bipush (v := 30) hx hb dX0_last_17 (by decide) ?_
  refine lv_iload_n hx hb dX0_last_19 rfl (lv_at hl 2 rfl) ?_
  refine lv_iconst (v := 0) hx hb dX0_last_20 (by decide) ?_
  have hO : OKW G h0 a (upd (upd (upd (upd (upd (upd (upd (upd (upd (upd (upd F 2 (nI sz)) 5 (nI cs15)) 6 (nI rg20)) 7 (nI (hd + 2))) 8 (nI dp19)) 12 (nI vr)) 13 as16) 14 wt17) 15 wf18) 16 ls21) 5 (nI cs15)) (updR (updR (updR R 2 (.ref pq)) 3 (.ref mq)) 4 (va_rf lo)) Z B14 J K13.1 (fun q99 x99 => x99 = rep G a K13 q99) w := hO.to rfl
  obtain ⟨_, qr40, hqr41⟩ := hO.2.1 13 _ (sg_13 G h0 a _ _ _ _ _)
  refine pc_V0 (G := G) (As := [.int 30, .int (nI hd), .int (nI 0)]) (rest := []) hx hb hml hown hq hE hX pX0_al hP hD hS hA hl.1 (K_emit l G h0 a (upd (upd (upd (upd (upd (upd (upd (upd (upd (upd F 2 (nI sz)) 5 (nI cs15)) 6 (nI rg20)) 7 (nI (hd + 2))) 8 (nI dp19)) 12 (nI vr)) 13 as16) 14 wt17) 15 wf18) 16 ls21) (updR (updR (updR R 2 (.ref pq)) 3 (.ref mq)) 4 (va_rf lo)) Z B14 J K13.1 (fun q99 x99 => x99 = rep G a K13 q99) w 30 (nI hd) 0 cs15 (by omega) (by omega) hng36 hO) (gV pw_129 pw_130 pw_131 pw_70 pw_115) hV_X1_emit qr40 1 hqr41 rfl rfl rfl (Nat.le_of_ble_eq_true rfl) dX0_last_21 ⟨(by show (rE (g 2 q) - rS (g 2 q) - 2) + 0 ≤ ((rE (g 2 q) - rS (g 2 q) - 2) + 1); omega), (by show (6 * (rE (g 2 q) - rS (g 2 q) - 2)) + 0 ≤ (6 * (rE (g 2 q) - rS (g 2 q) - 2) + 6); omega)⟩ ⟨(by show 2 + 1 ≤ (5 * n + 48); omega), (by show 8 + (4 + 11) + 60 ≤ (200 * n + 1160); omega)⟩ (fun v39 u37 H locs hw38 hP hD hS => ?_)
  obtain ⟨w, cs42, f43, f44, f45, f46⟩ := u37
  obtain ⟨hw38, h47, h48, hO⟩ := hw38
  have h47 : cs15 ≤ cs42 ∧ cs42 ≤ cs15 + 1 ∧ cs42 ≤ 10000 := h47
  have h48 : Nng f45 := h48
  obtain rfl : v39 = none := hw38
  have hO : OKP G h0 a (upd (upd (upd (upd (upd (upd (upd (upd (upd (upd F 2 (nI sz)) 5 (nI cs42)) 6 (nI rg20)) 7 (nI (hd + 2))) 8 (nI dp19)) 12 (nI vr)) 13 as16) 14 wt17) 15 wf18) 16 ls21) (updR (updR (updR R 2 (.ref pq)) 3 (.ref mq)) 4 (va_rf lo)) Z (updA (updA (updA (updA B14 16 f43) 17 f44) 18 f45) 19 f46) J K13 w := hO.to rfl
  refine W.widen (k := (rE (g 2 q) - rS (g 2 q) - 2)) (n := (6 * (rE (g 2 q) - rS (g 2 q) - 2))) (by show (rE (g 2 q) - rS (g 2 q) - 2) + 0 ≤ (rE (g 2 q) - rS (g 2 q) - 2); omega) (by show (6 * (rE (g 2 q) - rS (g 2 q) - 2)) + 0 ≤ (6 * (rE (g 2 q) - rS (g 2 q) - 2)); omega) ?_
  refine W.eq (g2 := F0 m 24 ls []) rfl ?_
  refine lv_aload_n hx hb dX0_last_24 rfl (lv_at hl 0 rfl) ?_
  refine c_get (v := .ref (a 2)) (C := RX0) (Tc := TX0) (N := 13) (ci := 0) hx hb hq pin_wsX00 hown hE hP hO 24 (sg_24 G h0 a _ _ _ _ _) rfl 1 (by decide) (hq _ pw_5) (fun _ h9 => h9) rfl dX0_last_25 ?_
  refine lv_iload_n hx hb dX0_last_28 rfl (lv_at hl 2 rfl) ?_
  refine c_put (v := .int (nI hd)) (ty := .int) (C := RX1) (Tc := TX1) (N := 13) (ci := 1) hx hb hq pin_wsX10 tyX1 tyX1_ok nmX1 hown hE hP hD hS hO 13 (sg_13 G h0 a _ _ _ _ _) rfl 11 (by decide) (hq _ pw_54) (fun _ h9 => h9) rfl (by decide +kernel) rfl rfl (Nat.le_of_ble_eq_true rfl) (sf_7 G h0 a _ _ _ _ _ (nI hd)) dX0_last_29 (fun H locs w hP hD hS hO => ?_)
  refine W_size (fun hz1 hz2 => ?_)
  refine vx_ret ?_
  have hz49 : BdE K K13 := hbe34
  have hz50 : Bth B (updA (updA (updA (updA B14 16 f43) 17 f44) 18 f45) 19 f46) := (show Thx (upd (upd (upd (upd (upd (upd (upd F 2 (nI sz)) 5 (nI cs)) 6 (nI rg)) 7 (nI hd)) 8 (nI dp)) 12 (nI vr)) 16 ls9) (upd (upd (upd (upd (upd (upd (upd (upd (upd (upd (upd (upd (upd (upd F 2 (nI sz)) 5 (nI cs)) 6 (nI rg)) 7 (nI hd)) 8 (nI dp)) 12 (nI vr)) 16 ls9) 5 (nI cs42)) 6 (nI rg20)) 8 (nI dp19)) 13 as16) 14 wt17) 15 wf18) 16 ls21) B (updA (updA (updA (updA B14 16 f43) 17 f44) 18 f45) 19 f46) from (Thx.b (Thx.b8 (Thx.b (Thx.b (Thx.f (Thx.f (Thx.f (Thx.f (Thx.f (Thx.f (Thx.f (Bth.thx hbb35) (by omega)) (by omega)) (by omega)) (by omega)) (by omega)) (by omega)) (by omega)) (by omega) (by decide)) (by omega) (by decide)) h48) (by omega) (by decide))).2
  have hz51 : cs42 ≤ 10000 ∧ rg20 ≤ 625 ∧ dp19 ≤ 1000 := (by omega)
  have hO : OKP G h0 a (upd (upd (upd (upd (upd (upd (upd (upd (upd (upd F 2 (nI sz)) 5 (nI cs42)) 6 (nI rg20)) 7 (nI hd)) 8 (nI dp19)) 12 (nI vr)) 13 as16) 14 wt17) 15 wf18) 16 ls21) (updR (updR (updR R 2 (.ref pq)) 3 (.ref mq)) 4 (va_rf lo)) Z (updA (updA (updA (updA B14 16 f43) 17 f44) 18 f45) 19 f46) J K13 w := hO.to rfl
  refine W.widen (k := ((rE (g 2 q) - rS (g 2 q) - 2) + 1)) (n := (6 * (rE (g 2 q) - rS (g 2 q) - 2) + 6)) (by omega) (by omega) ?_
  have hzz1 : H.size ≤ s.heap.size + ((rE (g 2 q) - rS (g 2 q) - 2)) := (by have z : (rE (g 2 q) - rS (g 2 q) - 2) ≤ (rE (g 2 q) - rS (g 2 q) - 2) := (by omega); omega)
  have hzz2 : hSl H ≤ hSl s.heap + ((6 * (rE (g 2 q) - rS (g 2 q) - 2))) := (by have z : (6 * (rE (g 2 q) - rS (g 2 q) - 2)) ≤ (6 * (rE (g 2 q) - rS (g 2 q) - 2)) := (by omega); omega)
  exact W.vret hx hb hr (fun t99 ht99 hW99 => ⟨⟨_, (w, (K13, (updA (updA (updA (updA B14 16 f43) 17 f44) 18 f45) 19 f46), cs42, as16, wt17, wf18, dp19, rg20, ls21)), rfl, ⟨rfl, hz49, hz50, hz51, hO⟩, by rw [ht99]; exact hP, hD, by rw [ht99]; exact hzz1, by rw [ht99]; exact hzz2⟩, hS.F ht99⟩) hS.2.2 dX0_last_32
