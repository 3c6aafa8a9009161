def PlK (x : Int32) : Prop := x = 5 ∨ x = 12 ∨ x = 14
/-- a Loop, or nothing -/
def LpO (K : PK) (o : Option Nat) : Prop := ∀ x : Nat, o = some x → K.1 x = 9
theorem LpO.be {K K1 : PK} {o : Option Nat} (hb : BdE K K1) (h : LpO K o) : LpO K1 o := fun x hx => hb.T (h x hx) (by decide)
theorem dX0_local_0 : decode cX0_local 0 = .ok (.aload_n 0, 1) := by decide +kernel
theorem dX0_local_1 : decode cX0_local 1 = .ok (.getfield 9, 3) := by decide +kernel
theorem dX0_local_4 : decode cX0_local 4 = .ok (.aload_n 1, 1) := by decide +kernel
theorem dX0_local_5 : decode cX0_local 5 = .ok (.getfield 117, 3) := by decide +kernel
theorem dX0_local_8 : decode cX0_local 8 = .ok (.invokevirtual 120, 3) := by decide +kernel
theorem dX0_local_11 : decode cX0_local 11 = .ok (.istore_n 2, 1) := by decide +kernel
theorem dX0_local_12 : decode cX0_local 12 = .ok (.aload_n 0, 1) := by decide +kernel
theorem dX0_local_13 : decode cX0_local 13 = .ok (.aload_n 1, 1) := by decide +kernel
theorem dX0_local_14 : decode cX0_local 14 = .ok (.getfield 114, 3) := by decide +kernel
theorem dX0_local_17 : decode cX0_local 17 = .ok (.iload_n 2, 1) := by decide +kernel
theorem dX0_local_18 : decode cX0_local 18 = .ok (.invokevirtual 126, 3) := by decide +kernel
theorem dX0_local_21 : decode cX0_local 21 = .ok (.istore_n 3, 1) := by decide +kernel
theorem dX0_local_22 : decode cX0_local 22 = .ok (.aload_n 0, 1) := by decide +kernel
theorem dX0_local_23 : decode cX0_local 23 = .ok (.getfield 26, 3) := by decide +kernel
theorem dX0_local_26 : decode cX0_local 26 = .ok (.iload_n 3, 1) := by decide +kernel
theorem dX0_local_27 : decode cX0_local 27 = .ok (.iaload, 1) := by decide +kernel
theorem dX0_local_28 : decode cX0_local 28 = .ok (.istore 4, 2) := by decide +kernel
theorem dX0_local_30 : decode cX0_local 30 = .ok (.aload_n 0, 1) := by decide +kernel
theorem dX0_local_31 : decode cX0_local 31 = .ok (.getfield 15, 3) := by decide +kernel
theorem dX0_local_34 : decode cX0_local 34 = .ok (.iconst 4, 1) := by decide +kernel
theorem dX0_local_35 : decode cX0_local 35 = .ok (.iload 4, 2) := by decide +kernel
theorem dX0_local_37 : decode cX0_local 37 = .ok (.iconst 0, 1) := by decide +kernel
theorem dX0_local_38 : decode cX0_local 38 = .ok (.invokevirtual 140, 3) := by decide +kernel
theorem dX0_local_41 : decode cX0_local 41 = .ok (.aload_n 1, 1) := by decide +kernel
theorem dX0_local_42 : decode cX0_local 42 = .ok (.getfield 165, 3) := by decide +kernel
theorem dX0_local_45 : decode cX0_local 45 = .ok (.ifnull 43, 3) := by decide +kernel
theorem dX0_local_88 : decode cX0_local 88 = .ok (.return_, 1) := by decide +kernel
theorem dX0_local_48 : decode cX0_local 48 = .ok (.aload_n 0, 1) := by decide +kernel
theorem dX0_local_49 : decode cX0_local 49 = .ok (.aload_n 1, 1) := by decide +kernel
theorem dX0_local_50 : decode cX0_local 50 = .ok (.getfield 165, 3) := by decide +kernel
theorem dX0_local_53 : decode cX0_local 53 = .ok (.aload_n 0, 1) := by decide +kernel
theorem dX0_local_54 : decode cX0_local 54 = .ok (.aload_n 1, 1) := by decide +kernel
theorem dX0_local_55 : decode cX0_local 55 = .ok (.getfield 165, 3) := by decide +kernel
theorem dX0_local_58 : decode cX0_local 58 = .ok (.invokevirtual 209, 3) := by decide +kernel
theorem dX0_local_61 : decode cX0_local 61 = .ok (.iload_n 2, 1) := by decide +kernel
theorem dX0_local_62 : decode cX0_local 62 = .ok (.invokevirtual 213, 3) := by decide +kernel
theorem dX0_local_65 : decode cX0_local 65 = .ok (.aload_n 0, 1) := by decide +kernel
theorem dX0_local_66 : decode cX0_local 66 = .ok (.getfield 15, 3) := by decide +kernel
theorem dX0_local_69 : decode cX0_local 69 = .ok (.iconst 3, 1) := by decide +kernel
theorem dX0_local_70 : decode cX0_local 70 = .ok (.iload 4, 2) := by decide +kernel
theorem dX0_local_72 : decode cX0_local 72 = .ok (.iconst 0, 1) := by decide +kernel
theorem dX0_local_73 : decode cX0_local 73 = .ok (.invokevirtual 140, 3) := by decide +kernel
theorem dX0_local_76 : decode cX0_local 76 = .ok (.aload_n 0, 1) := by decide +kernel
theorem dX0_local_77 : decode cX0_local 77 = .ok (.dup, 1) := by decide +kernel
theorem dX0_local_78 : decode cX0_local 78 = .ok (.getfield 94, 3) := by decide +kernel
theorem dX0_local_81 : decode cX0_local 81 = .ok (.iconst 1, 1) := by decide +kernel
theorem dX0_local_82 : decode cX0_local 82 = .ok (.iload_n 3, 1) := by decide +kernel
theorem dX0_local_83 : decode cX0_local 83 = .ok (.ishl, 1) := by decide +kernel
theorem dX0_local_84 : decode cX0_local 84 = .ok (.ior, 1) := by decide +kernel
theorem dX0_local_85 : decode cX0_local 85 = .ok (.putfield 94, 3) := by decide +kernel
theorem hV_X0_declare : yX0_declare.cls = RX0 ∧ yX0_declare.cls ≠ "java/lang/invoke/MethodHandle" ∧ yX0_declare.cls ≠ "java/lang/invoke/VarHandle" ∧ (parseMethodDescriptor yX0_declare.desc).map (fun d => d.parameters.length) = some 2 := by decide +kernel
set_option maxHeartbeats 16000000 in
set_option maxRecDepth 100000 in
theorem B_local (l : Launch) (G : pT) (h0 : Nat) (a : Nat → Nat) (F : Nat → Int32) (R : Nat → Value) (Z : Int64) (B : Nat → Nat → Int32) (J : Nat → Nat → Int64) (K : PK) (w : va_W) (pq : Nat) (dr : Nat) (ml : Nat) (nd : Nat) (nm : Nat) (cp : Nat) (it : Nat → Nat) (s9 : Nat) (q : Nat) (mq : Nat) (cs : Nat) (vr : Nat) (sz : Nat) (n : Nat) (hd : Nat) (dp : Nat) (rg : Nat) (ls9 : Int32) (lo : Option Nat) (g : Nat → Nat → Nat) (rk : Nat → Nat) (hsz : sz ≤ 5000) (hwp : WPr G K g) (hps : PgT G K g (a 1) pq dr ml nd nm cp it s9) (hrk : RkO K rk) (hcs : cs ≤ 10000) (hvr : vr ≤ 30) (hng : Nng (B 18)) (hmq : K.1 mq = 3) (hqT : K.1 q = 1) (hqL : 1 ≤ g 0 q ∧ g 0 q ≤ n) (hdp : dp ≤ 1000) (hrg : rg ≤ 625) (hhd : hd + 2 * n + 30 ≤ 900 + vr) (hlo : LpO K lo) (ihv : IhV l G n) (hO : OKP G h0 a (upd (upd (upd (upd (upd (upd (upd F 2 (nI sz)) 5 (nI cs)) 6 (nI rg)) 7 (nI hd)) 8 (nI dp)) 12 (nI vr)) 16 ls9) (updR (updR (updR R 2 (.ref pq)) 3 (.ref mq)) 4 (va_rf lo)) Z B J K w) (hl0 : l.stackTraces = false) : PBn l G pX0 yX0_local cX0_local 5 none ({ frames := (5 * n + 33), cells := 1, slots := 6, locals := (200 * n + 560) }) [.ref (a 4), .ref q] w (fun (v : Option Value) (u : va_W × (PK × (Nat → Nat → Int32) × Nat × Int32 × Int32 × Int32 × Nat × Nat × Nat × Nat × Int32)) => v = none ∧ (BdE K u.2.1) ∧ (Bth B u.2.2.1) ∧ (u.2.2.2.1 ≤ 10000 ∧ u.2.2.2.2.2.2.2.2.2.2.1 ≤ 625 ∧ u.2.2.2.2.2.2.2.2.2.1 ≤ 1000) ∧ (vr ≤ u.2.2.2.2.2.2.2.1 ∧ u.2.2.2.2.2.2.2.1 ≤ 30 ∧ u.2.2.2.2.2.2.2.2.1 + vr = hd + u.2.2.2.2.2.2.2.1) ∧ (OKP G h0 a (upd (upd (upd (upd (upd (upd (upd (upd (upd (upd F 2 (nI sz)) 5 (nI u.2.2.2.1)) 6 (nI u.2.2.2.2.2.2.2.2.2.2.1)) 7 (nI u.2.2.2.2.2.2.2.2.1)) 8 (nI u.2.2.2.2.2.2.2.2.2.1)) 12 (nI u.2.2.2.2.2.2.2.1)) 13 u.2.2.2.2.1) 14 u.2.2.2.2.2.1) 15 u.2.2.2.2.2.2.1) 16 u.2.2.2.2.2.2.2.2.2.2.2) (updR (updR (updR R 2 (.ref pq)) 3 (.ref mq)) 4 (va_rf lo)) Z u.2.2.1 J u.2.1 u.1)) (fun u => u.1) (fun (u : va_W × (PK × (Nat → Nat → Int32) × Nat × Int32 × Int32 × Int32 × Nat × Nat × Nat × Nat × Int32)) => 0) (fun (u : va_W × (PK × (Nat → Nat → Int32) × Nat × Int32 × Int32 × Int32 × Nat × Nat × Nat × Nat × Int32)) => 0) (fun (u : va_W × (Nat → Int32) × (Nat → Value) × (Nat → Nat → Int32)) => ThQ G h0 a (upd (upd (upd (upd (upd (upd (upd F 2 (nI sz)) 5 (nI cs)) 6 (nI rg)) 7 (nI hd)) 8 (nI dp)) 12 (nI vr)) 16 ls9) (updR (updR (updR R 2 (.ref pq)) 3 (.ref mq)) 4 (va_rf lo)) Z B J u) (fun u => u.1) := by
  intro sz
  refine vx_ofW (cc := cX0_local) (maxL := 5) (ret := none) (by decide) rfl ?_
  intro p e s m args below meth c s₁ B9 hml hnt hv
  obtain ⟨rfl, hsz, hP, hD0, hE, hX⟩ := hv
  have hx := B9.exec
  have hb := B9.bytes
  have hr := B9.returns
  have hts := atoms_spec (ws := Cond.code yX0_local cX0_local 5 none :: pw) B9.pre
  have hq : ∀ w ∈ pw, w.before _ s = true := fun w h => hts w (List.mem_cons_of_mem _ h)
  have hown : s.vm.findClass RX0 = some m.cls := findClass_of_methodNamed B9.named
  have hlocks := B9.notSynchronized
  subst hsz
  have hD := hD0.self (sz := s.heap.size)
  have hA : ∀ q : Nat, s.heap.size ≤ q → va_A w s.heap.size q := fun q h => Or.inr h
  generalize va_A w s.heap.size = A at hD hE hA ⊢
  have hS : va_S A s.heap s.heap [] := va_S.rf
  have hl := lv_entry ([.ref (a 4), .ref q]) (n := 5) (Nat.le_of_ble_eq_true rfl)
  rw [lg_entry_eq]
  generalize (lg_sl ([.ref (a 4), .ref q]) ++ List.replicate (5 - (lg_sl ([.ref (a 4), .ref q])).length) Slot.unset).toArray = ls at hl ⊢
  have hl : lv_has ls 5 [(0, .ref (a 4)), (1, .ref q)] := hl
  have hpg := hps.1
  have hp1 := hpg.1
  have hp2 := hpg.2.1
  have hp3 := hpg.2.2.1
  have hp4 := hpg.2.2.2.1
  have hp5 := hpg.2.2.2.2.1
  have hp6 := hpg.2.2.2.2.2.1
  have hp8 := hpg.2.2.2.2.2.2.2.1
  have hp9 := hpg.2.2.2.2.2.2.2.2
  refine lv_aload_n hx hb dX0_local_0 rfl (lv_at hl 0 rfl) ?_
  refine c_get (v := .ref (a 1)) (C := RX0) (Tc := TX0) (N := 13) (ci := 0) hx hb hq pin_wsX00 hown hE hP hO 24 (sg_24 G h0 a _ _ _ _ _) rfl 0 (by decide) (hq _ pw_4) (fun _ h9 => h9) rfl dX0_local_1 ?_
  refine lv_aload_n hx hb dX0_local_4 rfl (lv_at hl 1 rfl) ?_
  refine p_get (v := .int (K.2.1 2 q)) (C := RX7) (Tc := TX7) (N := 11) (ci := 13) hx hb hq pin_wsX70 hown hE hP hO (by rw [hqT]; decide) (rep_1 hqT) rfl 2 (by decide) (hq _ pw_82) (fun _ h9 => h9) rfl dX0_local_5 ?_
  have hO : OKW G h0 a (upd (upd (upd (upd (upd (upd (upd (upd F 2 (nI sz)) 5 (nI cs)) 6 (nI rg)) 7 (nI hd)) 8 (nI dp)) 12 (nI vr)) 16 ls9) 2 (nI sz)) (updR (updR (updR R 2 (.ref pq)) 3 (.ref mq)) 4 (va_rf lo)) Z B J K.1 (fun q99 x99 => x99 = rep G a K q99) w := hO.to rfl
  obtain ⟨_, qr4, hqr5⟩ := hO.2.1 2 _ (sg_2 G h0 a _ _ _ _ _)
  refine pc_V0 (G := G) (As := [.int (K.2.1 2 q)]) (rest := []) hx hb hml hown hq hE hX pX0_al hP hD hS hA hl.1 (K_typeAt l G h0 a (upd (upd (upd (upd (upd (upd (upd F 2 (nI sz)) 5 (nI cs)) 6 (nI rg)) 7 (nI hd)) 8 (nI dp)) 12 (nI vr)) 16 ls9) (updR (updR (updR R 2 (.ref pq)) 3 (.ref mq)) 4 (va_rf lo)) Z B J K.1 (fun q99 x99 => x99 = rep G a K q99) w (K.2.1 2 q) sz (by omega) hO) (gV pw_92 pw_93 pw_94 pw_59 pw_36) hV_X10_typeAt qr4 7 hqr5 rfl rfl rfl (Nat.le_of_ble_eq_true rfl) dX0_local_8 ⟨(by show 0 + 0 ≤ 1; omega), (by show 0 + 0 ≤ 6; omega)⟩ ⟨(by show 2 + 1 ≤ (5 * n + 33); omega), (by show 8 + (2 + 11) + 60 ≤ (200 * n + 560); omega)⟩ (fun v3 u1 H locs hw2 hP hD hS => ?_)
  obtain ⟨w, r6⟩ := u1
  obtain ⟨hw2, hO⟩ := hw2
  obtain rfl : v3 = some (.int r6) := hw2
  have hO : OKP G h0 a (upd (upd (upd (upd (upd (upd (upd F 2 (nI sz)) 5 (nI cs)) 6 (nI rg)) 7 (nI hd)) 8 (nI dp)) 12 (nI vr)) 16 ls9) (updR (updR (updR R 2 (.ref pq)) 3 (.ref mq)) 4 (va_rf lo)) Z B J K w := hO.to rfl
  refine W.widen (k := 0) (n := 0) (Nat.le_of_ble_eq_true rfl) (Nat.le_of_ble_eq_true rfl) ?_
  refine W.eq (g2 := F0 m 11 ls [.int r6]) rfl ?_
  refine lv_istore_n (lv' := [(2, .int r6), (0, .ref (a 4)), (1, .ref q)]) hx hb dX0_local_11 rfl hl (by decide) rfl (fun ls hl => ?_)
  refine lv_aload_n hx hb dX0_local_12 rfl (lv_at hl 1 rfl) ?_
  refine lv_aload_n hx hb dX0_local_13 rfl (lv_at hl 2 rfl) ?_
  refine p_get (v := .int (K.2.1 1 q)) (C := RX7) (Tc := TX7) (N := 11) (ci := 13) hx hb hq pin_wsX70 hown hE hP hO (by rw [hqT]; decide) (rep_1 hqT) rfl 1 (by decide) (hq _ pw_81) (fun _ h9 => h9) rfl dX0_local_14 ?_
  refine lv_iload_n hx hb dX0_local_17 rfl (lv_at hl 0 rfl) ?_
  have hO : OKW G h0 a (upd (upd (upd (upd (upd (upd (upd (upd (upd (upd (upd F 2 (nI sz)) 5 (nI cs)) 6 (nI rg)) 7 (nI hd)) 8 (nI dp)) 12 (nI vr)) 16 ls9) 2 (nI sz)) 7 (nI hd)) 8 (nI dp)) 12 (nI vr)) (updR (updR (updR R 2 (.ref pq)) 3 (.ref mq)) 4 (va_rf lo)) Z B J K.1 (fun q99 x99 => x99 = rep G a K q99) w := hO.to rfl
  obtain ⟨_, qr10, hqr11⟩ := hO.2.1 24 _ (sg_24 G h0 a _ _ _ _ _)
  refine pn_V0 (G := G) (As := [.int (K.2.1 1 q), .int r6]) (rest := []) hx hb hml hown hq hE hX pX0_al hP hD hS hA hl.1 (B_declare l G h0 a (upd (upd (upd (upd (upd (upd (upd F 2 (nI sz)) 5 (nI cs)) 6 (nI rg)) 7 (nI hd)) 8 (nI dp)) 12 (nI vr)) 16 ls9) (updR (updR (updR R 2 (.ref pq)) 3 (.ref mq)) 4 (va_rf lo)) Z B J K.1 (fun q99 x99 => x99 = rep G a K q99) w (K.2.1 1 q) r6 vr hd dp sz (by omega) (by omega) (by omega) (by omega) hO hl0) (gV pw_95 pw_96 pw_97 pw_63 pw_71) hV_X0_declare qr10 0 hqr11 rfl rfl rfl (Nat.le_of_ble_eq_true rfl) dX0_local_18 ⟨(by show 0 + 1 ≤ 1; omega), (by show 0 + 6 ≤ 6; omega)⟩ ⟨(by show 7 + 1 ≤ (5 * n + 33); omega), (by show 8 + (4 + 11) + 122 ≤ (200 * n + 560); omega)⟩ (fun v9 u7 H locs hw8 hP hD hS => ?_) (fun ux ce9 q9 H9 locs9 hux hP9 hD9 hS9 hce hcv hcl => pb_out ux (ThQ.up (Thx.same (Thx.same (Thx.same (Thx.same Thx.rfl rfl) rfl) rfl) rfl) RhX.rfl hux) hnt hlocks hce hcv hcl hP9 hD9 hS9 (by show 0 + 1 ≤ 1; omega) (by show 0 + 6 ≤ 6; omega))
  obtain ⟨w, dp12, as13, f14, f15, f16⟩ := u7
  obtain ⟨hw8, h17, h18, hO⟩ := hw8
  have h17 : vr + 1 ≤ 30 := h17
  have h18 : dp12 ≤ 1000 := h18
  obtain rfl : v9 = some (.int (nI vr)) := hw8
  have hO : OKP G h0 a (upd (upd (upd (upd (upd (upd (upd (upd F 2 (nI sz)) 5 (nI cs)) 6 (nI rg)) 7 (nI (hd + 1))) 8 (nI dp12)) 12 (nI (vr + 1))) 13 as13) 16 ls9) (updR (updR (updR R 2 (.ref pq)) 3 (.ref mq)) 4 (va_rf lo)) Z (updA (updA (updA B 25 f14) 26 f15) 27 f16) J K w := hO.to rfl
  refine W.widen (k := 0) (n := 0) (by show 0 + 0 ≤ 0; omega) (by show 0 + 0 ≤ 0; omega) ?_
  refine W.eq (g2 := F0 m 21 ls [.int (nI vr)]) rfl ?_
  refine lv_istore_n (lv' := [(3, .int (nI vr)), (2, .int r6), (0, .ref (a 4)), (1, .ref q)]) hx hb dX0_local_21 rfl hl (by decide) rfl (fun ls hl => ?_)
  refine lv_aload_n hx hb dX0_local_22 rfl (lv_at hl 2 rfl) ?_
  refine c_get (v := .ref (a 27)) (C := RX0) (Tc := TX0) (N := 13) (ci := 0) hx hb hq pin_wsX00 hown hE hP hO 24 (sg_24 G h0 a _ _ _ _ _) rfl 4 (by decide) (hq _ pw_9) (fun _ h9 => h9) rfl dX0_local_23 ?_
  refine lv_iload_n hx hb dX0_local_26 rfl (lv_at hl 0 rfl) ?_
  refine c_ldi (f := f16) (n := 30) (t0 := 0) hx hb hE hP hO 27 (sg_27 G h0 a _ _ _ _ _) rfl (vp_in_nI (by omega) (by decide)) dX0_local_27 ?_
  rw [(nI_clamp (show vr < 2 ^ 31 by omega))]
  refine lv_istore (lv' := [(4, .int (f16 vr)), (3, .int (nI vr)), (2, .int r6), (0, .ref (a 4)), (1, .ref q)]) hx hb dX0_local_28 hl (by decide) rfl (fun ls hl => ?_)
  refine lv_aload_n hx hb dX0_local_30 rfl (lv_at hl 3 rfl) ?_
  refine c_get (v := .ref (a 2)) (C := RX0) (Tc := TX0) (N := 13) (ci := 0) hx hb hq pin_wsX00 hown hE hP hO 24 (sg_24 G h0 a _ _ _ _ _) rfl 1 (by decide) (hq _ pw_5) (fun _ h9 => h9) rfl dX0_local_31 ?_
  refine lv_iconst (v := 4) hx hb dX0_local_34 (by decide) ?_
  refine lv_iload hx hb dX0_local_35 (lv_at hl 0 rfl) ?_
  refine lv_iconst (v := 0) hx hb dX0_local_37 (by decide) ?_
  have hO : OKW G h0 a (upd (upd (upd (upd (upd (upd (upd (upd (upd F 2 (nI sz)) 5 (nI cs)) 6 (nI rg)) 7 (nI (hd + 1))) 8 (nI dp12)) 12 (nI (vr + 1))) 13 as13) 16 ls9) 5 (nI cs)) (updR (updR (updR R 2 (.ref pq)) 3 (.ref mq)) 4 (va_rf lo)) Z (updA (updA (updA B 25 f14) 26 f15) 27 f16) J K.1 (fun q99 x99 => x99 = rep G a K q99) w := hO.to rfl
  obtain ⟨_, qr22, hqr23⟩ := hO.2.1 13 _ (sg_13 G h0 a _ _ _ _ _)
  refine pc_V0 (G := G) (As := [.int 4, .int (f16 vr), .int (nI 0)]) (rest := []) hx hb hml hown hq hE hX pX0_al hP hD hS hA hl.1 (K_emit l G h0 a (upd (upd (upd (upd (upd (upd (upd (upd F 2 (nI sz)) 5 (nI cs)) 6 (nI rg)) 7 (nI (hd + 1))) 8 (nI dp12)) 12 (nI (vr + 1))) 13 as13) 16 ls9) (updR (updR (updR R 2 (.ref pq)) 3 (.ref mq)) 4 (va_rf lo)) Z (updA (updA (updA B 25 f14) 26 f15) 27 f16) J K.1 (fun q99 x99 => x99 = rep G a K q99) w 4 (f16 vr) 0 cs (by omega) (by omega) hng hO) (gV pw_129 pw_130 pw_131 pw_70 pw_115) hV_X1_emit qr22 1 hqr23 rfl rfl rfl (Nat.le_of_ble_eq_true rfl) dX0_local_38 ⟨(by show 0 + 0 ≤ 1; omega), (by show 0 + 0 ≤ 6; omega)⟩ ⟨(by show 2 + 1 ≤ (5 * n + 33); omega), (by show 8 + (4 + 11) + 60 ≤ (200 * n + 560); omega)⟩ (fun v21 u19 H locs hw20 hP hD hS => ?_)
  obtain ⟨w, cs24, f25, f26, f27, f28⟩ := u19
  obtain ⟨hw20, h29, h30, hO⟩ := hw20
  have h29 : cs ≤ cs24 ∧ cs24 ≤ cs + 1 ∧ cs24 ≤ 10000 := h29
  have h30 : Nng f27 := h30
  obtain rfl : v21 = none := hw20
  have hO : OKP G h0 a (upd (upd (upd (upd (upd (upd (upd (upd F 2 (nI sz)) 5 (nI cs24)) 6 (nI rg)) 7 (nI (hd + 1))) 8 (nI dp12)) 12 (nI (vr + 1))) 13 as13) 16 ls9) (updR (updR (updR R 2 (.ref pq)) 3 (.ref mq)) 4 (va_rf lo)) Z (updA (updA (updA (updA (updA (updA (updA B 16 f25) 17 f26) 18 f27) 19 f28) 25 f14) 26 f15) 27 f16) J K w := hO.to rfl
  refine W.widen (k := 0) (n := 0) (Nat.le_of_ble_eq_true rfl) (Nat.le_of_ble_eq_true rfl) ?_
  refine W.eq (g2 := F0 m 41 ls []) rfl ?_
  refine lv_aload_n hx hb dX0_local_41 rfl (lv_at hl 4 rfl) ?_
  rcases ho32 : K.2.2.1 0 q with _ | o31
  · skip
    refine p_get (v := .null) (C := RX7) (Tc := TX7) (N := 11) (ci := 13) hx hb hq pin_wsX70 hown hE hP hO (by rw [hqT]; decide) (rep_1 hqT) rfl 6 (by decide) (hq _ pw_180) (fun _ h9 => h9) (congrArg (fun z => some (va_rf z)) ho32) dX0_local_42 ?_
    refine lv_ifnullN (tgt := 88) hx hb dX0_local_45 (by decide) ?_
    refine W_size (fun hz1 hz2 => ?_)
    refine vx_ret ?_
    have hz33 : BdE K K := BdE.rfl
    have hz34 : Bth B (updA (updA (updA (updA (updA (updA (updA B 16 f25) 17 f26) 18 f27) 19 f28) 25 f14) 26 f15) 27 f16) := (show Thx (upd (upd (upd (upd (upd (upd (upd F 2 (nI sz)) 5 (nI cs)) 6 (nI rg)) 7 (nI hd)) 8 (nI dp)) 12 (nI vr)) 16 ls9) (upd (upd (upd (upd (upd (upd (upd (upd (upd (upd (upd (upd F 2 (nI sz)) 5 (nI cs)) 6 (nI rg)) 7 (nI hd)) 8 (nI dp)) 12 (nI vr)) 16 ls9) 5 (nI cs24)) 7 (nI (hd + 1))) 8 (nI dp12)) 12 (nI (vr + 1))) 13 as13) B (updA (updA (updA (updA (updA (updA (updA B 16 f25) 17 f26) 18 f27) 19 f28) 25 f14) 26 f15) 27 f16) from (Thx.b (Thx.b (Thx.b (Thx.b (Thx.b8 (Thx.b (Thx.b (Thx.f (Thx.f (Thx.f (Thx.f (Thx.f Thx.rfl (by omega)) (by omega)) (by omega)) (by omega)) (by omega)) (by omega) (by decide)) (by omega) (by decide)) h30) (by omega) (by decide)) (by omega) (by decide)) (by omega) (by decide)) (by omega) (by decide))).2
    have hz35 : cs24 ≤ 10000 ∧ rg ≤ 625 ∧ dp12 ≤ 1000 := (by omega)
    have hz36 : vr ≤ (vr + 1) ∧ (vr + 1) ≤ 30 ∧ (hd + 1) + vr = hd + (vr + 1) := (by omega)
    have hO : OKP G h0 a (upd (upd (upd (upd (upd (upd (upd (upd (upd (upd F 2 (nI sz)) 5 (nI cs24)) 6 (nI rg)) 7 (nI (hd + 1))) 8 (nI dp12)) 12 (nI (vr + 1))) 13 as13) 14 (F 14)) 15 (F 15)) 16 ls9) (updR (updR (updR R 2 (.ref pq)) 3 (.ref mq)) 4 (va_rf lo)) Z (updA (updA (updA (updA (updA (updA (updA B 16 f25) 17 f26) 18 f27) 19 f28) 25 f14) 26 f15) 27 f16) J K w := hO.to rfl
    refine W.widen (k := 1) (n := 6) (by omega) (by omega) ?_
    have hzz1 : H.size ≤ s.heap.size + (0) := (by have z : 0 ≤ 0 := (by omega); omega)
    have hzz2 : hSl H ≤ hSl s.heap + (0) := (by have z : 0 ≤ 0 := (by omega); omega)
    exact W.vret hx hb hr (fun t99 ht99 hW99 => ⟨⟨_, (w, (K, (updA (updA (updA (updA (updA (updA (updA B 16 f25) 17 f26) 18 f27) 19 f28) 25 f14) 26 f15) 27 f16), cs24, as13, (F 14), (F 15), (vr + 1), (hd + 1), dp12, rg, ls9)), rfl, ⟨rfl, hz33, hz34, hz35, hz36, hO⟩, by rw [ht99]; exact hP, hD, by rw [ht99]; exact hzz1, by rw [ht99]; exact hzz2⟩, hS.F ht99⟩) hS.2.2 dX0_local_88
  · have hcz := (hwp.1 q hqT hqL.1).2.1 0 o31 (by decide) ho32
    have hcT := hcz.1
    have hcv : 1 ≤ g 0 o31 ∧ g 0 o31 + 1 ≤ n := ⟨hcz.2.1, (by have z := hcz.2.2.1; omega)⟩
    refine p_get (v := .ref o31) (C := RX7) (Tc := TX7) (N := 11) (ci := 13) hx hb hq pin_wsX70 hown hE hP hO (by rw [hqT]; decide) (rep_1 hqT) rfl 6 (by decide) (hq _ pw_180) (fun _ h9 => h9) (congrArg (fun z => some (va_rf z)) ho32) dX0_local_42 ?_
    refine lv_ifnull hx hb dX0_local_45 ?_
    refine lv_aload_n hx hb dX0_local_48 rfl (lv_at hl 3 rfl) ?_
    refine lv_aload_n hx hb dX0_local_49 rfl (lv_at hl 4 rfl) ?_
    refine p_get (v := .ref o31) (C := RX7) (Tc := TX7) (N := 11) (ci := 13) hx hb hq pin_wsX70 hown hE hP hO (by rw [hqT]; decide) (rep_1 hqT) rfl 6 (by decide) (hq _ pw_180) (fun _ h9 => h9) (congrArg (fun z => some (va_rf z)) ho32) dX0_local_50 ?_
    refine lv_aload_n hx hb dX0_local_53 rfl (lv_at hl 3 rfl) ?_
    refine lv_aload_n hx hb dX0_local_54 rfl (lv_at hl 4 rfl) ?_
    refine p_get (v := .ref o31) (C := RX7) (Tc := TX7) (N := 11) (ci := 13) hx hb hq pin_wsX70 hown hE hP hO (by rw [hqT]; decide) (rep_1 hqT) rfl 6 (by decide) (hq _ pw_180) (fun _ h9 => h9) (congrArg (fun z => some (va_rf z)) ho32) dX0_local_55 ?_
    have hO : OKP G h0 a (upd (upd (upd (upd (upd (upd (upd (upd (upd (upd (upd (upd (upd (upd (upd F 2 (nI sz)) 5 (nI cs)) 6 (nI rg)) 7 (nI hd)) 8 (nI dp)) 12 (nI vr)) 16 ls9) 5 (nI cs24)) 7 (nI (hd + 1))) 8 (nI dp12)) 12 (nI (vr + 1))) 13 as13) 2 (nI sz)) 5 (nI cs24)) 12 (nI (vr + 1))) (updR (updR (updR (updR (updR R 2 (.ref pq)) 3 (.ref mq)) 4 (va_rf lo)) 2 (.ref pq)) 3 (.ref mq)) Z (updA (updA (updA (updA (updA (updA (updA B 16 f25) 17 f26) 18 f27) 19 f28) 25 f14) 26 f15) 27 f16) J K w := hO.to rfl
    obtain ⟨_, qr40, hqr41⟩ := hO.2.1 24 _ (sg_24 G h0 a _ _ _ _ _)
    refine pn_V0 (G := G) (As := [.ref o31]) (rest := [.ref o31, .ref (a 4)]) hx hb hml hown hq hE hX pX0_al hP hD hS hA hl.1 ((ihv (by omega)) h0 a (upd (upd (upd (upd (upd (upd (upd (upd (upd (upd (upd (upd F 2 (nI sz)) 5 (nI cs)) 6 (nI rg)) 7 (nI hd)) 8 (nI dp)) 12 (nI vr)) 16 ls9) 5 (nI cs24)) 7 (nI (hd + 1))) 8 (nI dp12)) 12 (nI (vr + 1))) 13 as13) (updR (updR (updR R 2 (.ref pq)) 3 (.ref mq)) 4 (va_rf lo)) Z (updA (updA (updA (updA (updA (updA (updA B 16 f25) 17 f26) 18 f27) 19 f28) 25 f14) 26 f15) 27 f16) J K w pq dr ml nd nm cp it s9 o31 mq cs24 (vr + 1) sz g rk (by omega) (BdE.wp BdE.rfl hwp) (BdE.pt BdE.rfl hwp hps) (BdE.rko BdE.rfl hrk) (by omega) (by omega) h30 hmq hcT ⟨hcv.1, (by have z9 := hcv; omega)⟩ hO hl0) (gV pw_173 pw_174 pw_175 pw_63 pw_224) hV_X0_value qr40 0 hqr41 rfl rfl rfl (Nat.le_of_ble_eq_true rfl) dX0_local_58 ⟨(by show 0 + 1 ≤ 1; omega), (by show 0 + 6 ≤ 6; omega)⟩ ⟨(by show (5 * (n - 1) + 34) + 1 ≤ (5 * n + 33); omega), (by show 8 + (3 + 11) + (200 * (n - 1) + 600) ≤ (200 * n + 560); omega)⟩ (fun v39 u37 H locs hw38 hP hD hS => ?_) (fun ux ce9 q9 H9 locs9 hux hP9 hD9 hS9 hce hcv hcl => pb_out ux (ThQ.up (Thx.same (Thx.same (Thx.same (Thx.b (Thx.b (Thx.b (Thx.b (Thx.b8 (Thx.b (Thx.b (Thx.f (Thx.f (Thx.f (Thx.f (Thx.f Thx.rfl (by omega)) (by omega)) (by omega)) (by omega)) (by omega)) (by omega) (by decide)) (by omega) (by decide)) h30) (by omega) (by decide)) (by omega) (by decide)) (by omega) (by decide)) (by omega) (by decide)) rfl) rfl) rfl) (show RhX (updR (updR (updR R 2 (.ref pq)) 3 (.ref mq)) 4 (va_rf lo)) (updR (updR (updR (updR (updR R 2 (.ref pq)) 3 (.ref mq)) 4 (va_rf lo)) 2 (.ref pq)) 3 (.ref mq)) from fun k9 hk9 => by unfold updR; simp only [show ¬ k9 = 1 by omega, show ¬ k9 = 2 by omega, show ¬ k9 = 3 by omega, show ¬ k9 = 4 by omega, if_false]) hux) hnt hlocks hce hcv hcl hP9 hD9 hS9 (by show 0 + 1 ≤ 1; omega) (by show 0 + 6 ≤ 6; omega))
    obtain ⟨w, K42, B43, cs44, as45, wt46, wf47, r48⟩ := u37
    obtain ⟨hw38, h49, h50, h51, hO⟩ := hw38
    have h49 : BdE K K42 := h49
    have h50 : Bth (updA (updA (updA (updA (updA (updA (updA B 16 f25) 17 f26) 18 f27) 19 f28) 25 f14) 26 f15) 27 f16) B43 := h50
    have h51 : cs44 ≤ 10000 := h51
    obtain rfl : v39 = some (.int r48) := hw38
    have hf52 : K42.1 pq = 7 := (BdE.T h49 hp1 (by decide))
    have hf53 : K42.2.2.1 18 pq = some (a 1) := (BdE.C h49 (by rw [hp1]; decide) 18).trans hp2
    have hf54 : K42.2.2.1 14 pq = some dr := (BdE.C h49 (by rw [hp1]; decide) 14).trans hp3
    have hf55 : K42.1 dr = 8 := (BdE.T h49 hp4 (by decide))
    have hf56 : K42.2.2.1 15 pq = some ml := (BdE.C h49 (by rw [hp1]; decide) 15).trans hp5
    have hf57 : K42.1 ml = 5 := (BdE.T h49 hp6 (by decide))
    have hf58 : K42.2.1 24 pq = (nI nd) := (BdE.I h49 (by rw [hp1]; decide) (by decide) (by decide)).trans hp8
    have hf59 : K42.1 q = 1 := (BdE.T h49 hqT (by decide))
    have hf60 : K42.1 mq = 3 := (BdE.T h49 hmq (by decide))
    have hf61 : K42.2.2.1 0 q = some o31 := (BdE.C h49 (by rw [hqT]; decide) 0).trans ho32
    have hf62 : K42.1 o31 = 1 := (BdE.T h49 hcT (by decide))
    have hO : OKP G h0 a (upd (upd (upd (upd (upd (upd (upd (upd (upd (upd F 2 (nI sz)) 5 (nI cs44)) 6 (nI rg)) 7 (nI (hd + 1))) 8 (nI dp12)) 12 (nI (vr + 1))) 13 as45) 14 wt46) 15 wf47) 16 ls9) (updR (updR (updR R 2 (.ref pq)) 3 (.ref mq)) 4 (va_rf lo)) Z B43 J K42 w := hO.to rfl
    refine W.widen (k := 0) (n := 0) (by show 0 + 0 ≤ 0; omega) (by show 0 + 0 ≤ 0; omega) ?_
    refine W.eq (g2 := F0 m 61 ls [.int r48, .ref o31, .ref (a 4)]) rfl ?_
    have hbe63 := BdE.trans BdE.rfl h49
    have hbb64 : Bth B B43 := Bth.trans (show Thx (upd (upd (upd (upd (upd (upd (upd F 2 (nI sz)) 5 (nI cs)) 6 (nI rg)) 7 (nI hd)) 8 (nI dp)) 12 (nI vr)) 16 ls9) (upd (upd (upd (upd (upd (upd (upd (upd (upd (upd (upd (upd F 2 (nI sz)) 5 (nI cs)) 6 (nI rg)) 7 (nI hd)) 8 (nI dp)) 12 (nI vr)) 16 ls9) 5 (nI cs24)) 7 (nI (hd + 1))) 8 (nI dp12)) 12 (nI (vr + 1))) 13 as13) B (updA (updA (updA (updA (updA (updA (updA B 16 f25) 17 f26) 18 f27) 19 f28) 25 f14) 26 f15) 27 f16) from (Thx.b (Thx.b (Thx.b (Thx.b (Thx.b8 (Thx.b (Thx.b (Thx.f (Thx.f (Thx.f (Thx.f (Thx.f Thx.rfl (by omega)) (by omega)) (by omega)) (by omega)) (by omega)) (by omega) (by decide)) (by omega) (by decide)) h30) (by omega) (by decide)) (by omega) (by decide)) (by omega) (by decide)) (by omega) (by decide))).2 h50
    have hng65 : Nng (B43 18) := h50.2 h30
    refine lv_iload_n hx hb dX0_local_61 rfl (lv_at hl 2 rfl) ?_
    have hO : OKP G h0 a (upd (upd (upd (upd (upd (upd (upd (upd (upd (upd (upd (upd (upd (upd (upd F 2 (nI sz)) 5 (nI cs)) 6 (nI rg)) 7 (nI hd)) 8 (nI dp)) 12 (nI vr)) 16 ls9) 5 (nI cs44)) 7 (nI (hd + 1))) 8 (nI dp12)) 12 (nI (vr + 1))) 13 as45) 14 wt46) 15 wf47) 2 (nI sz)) (updR (updR (updR (updR R 2 (.ref pq)) 3 (.ref mq)) 4 (va_rf lo)) 2 (.ref pq)) Z B43 J K42 w := hO.to rfl
    obtain ⟨_, qr69, hqr70⟩ := hO.2.1 24 _ (sg_24 G h0 a _ _ _ _ _)
    refine pn_V0 (G := G) (As := [.ref o31, .int r48, .int r6]) (rest := []) hx hb hml hown hq hE hX pX0_al hP hD hS hA hl.1 (B_fit l G h0 a (upd (upd (upd (upd (upd (upd (upd (upd (upd (upd (upd (upd (upd (upd F 2 (nI sz)) 5 (nI cs)) 6 (nI rg)) 7 (nI hd)) 8 (nI dp)) 12 (nI vr)) 16 ls9) 5 (nI cs44)) 7 (nI (hd + 1))) 8 (nI dp12)) 12 (nI (vr + 1))) 13 as45) 14 wt46) 15 wf47) (updR (updR (updR R 2 (.ref pq)) 3 (.ref mq)) 4 (va_rf lo)) Z B43 J K42 w pq dr ml nd o31 sz r48 r6 g (by omega) (BdE.pt hbe63 hwp hps).1 (BdE.pt hbe63 hwp hps).2.1 hf62 hO hl0) (gV pw_176 pw_177 pw_178 pw_63 pw_114) hV_X0_fit qr69 0 hqr70 rfl rfl rfl (Nat.le_of_ble_eq_true rfl) dX0_local_62 ⟨(by show 0 + 1 ≤ 1; omega), (by show 0 + 6 ≤ 6; omega)⟩ ⟨(by show 7 + 1 ≤ (5 * n + 33); omega), (by show 8 + (4 + 11) + 122 ≤ (200 * n + 560); omega)⟩ (fun v68 u66 H locs hw67 hP hD hS => ?_) (fun ux ce9 q9 H9 locs9 hux hP9 hD9 hS9 hce hcv hcl => pb_out ux (ThQ.up (Thx.same (Thx.f (Thx.f (Thx.f (Thx.f (Thx.f (Thx.f (Thx.f (Bth.thx hbb64) (by omega)) (by omega)) (by omega)) (by omega)) (by omega)) (by omega)) (by omega)) rfl) (show RhX (updR (updR (updR R 2 (.ref pq)) 3 (.ref mq)) 4 (va_rf lo)) (updR (updR (updR (updR R 2 (.ref pq)) 3 (.ref mq)) 4 (va_rf lo)) 2 (.ref pq)) from fun k9 hk9 => by unfold updR; simp only [show ¬ k9 = 1 by omega, show ¬ k9 = 2 by omega, show ¬ k9 = 3 by omega, show ¬ k9 = 4 by omega, if_false]) hux) hnt hlocks hce hcv hcl hP9 hD9 hS9 (by show 0 + 1 ≤ 1; omega) (by show 0 + 6 ≤ 6; omega))
    obtain ⟨w, _⟩ := u66
    obtain ⟨hw67, hO⟩ := hw67
    obtain rfl : v68 = none := hw67
    have hO : OKP G h0 a (upd (upd (upd (upd (upd (upd (upd (upd (upd (upd F 2 (nI sz)) 5 (nI cs44)) 6 (nI rg)) 7 (nI (hd + 1))) 8 (nI dp12)) 12 (nI (vr + 1))) 13 as45) 14 wt46) 15 wf47) 16 ls9) (updR (updR (updR R 2 (.ref pq)) 3 (.ref mq)) 4 (va_rf lo)) Z B43 J K42 w := hO.to rfl
    refine W.widen (k := 0) (n := 0) (by show 0 + 0 ≤ 0; omega) (by show 0 + 0 ≤ 0; omega) ?_
    refine W.eq (g2 := F0 m 65 ls []) rfl ?_
    refine lv_aload_n hx hb dX0_local_65 rfl (lv_at hl 3 rfl) ?_
    refine c_get (v := .ref (a 2)) (C := RX0) (Tc := TX0) (N := 13) (ci := 0) hx hb hq pin_wsX00 hown hE hP hO 24 (sg_24 G h0 a _ _ _ _ _) rfl 1 (by decide) (hq _ pw_5) (fun _ h9 => h9) rfl dX0_local_66 ?_
    refine lv_iconst (v := 3) hx hb dX0_local_69 (by decide) ?_
    refine lv_iload hx hb dX0_local_70 (lv_at hl 0 rfl) ?_
    refine lv_iconst (v := 0) hx hb dX0_local_72 (by decide) ?_
    have hO : OKW G h0 a (upd (upd (upd (upd (upd (upd (upd (upd (upd (upd (upd F 2 (nI sz)) 5 (nI cs44)) 6 (nI rg)) 7 (nI (hd + 1))) 8 (nI dp12)) 12 (nI (vr + 1))) 13 as45) 14 wt46) 15 wf47) 16 ls9) 5 (nI cs44)) (updR (updR (updR R 2 (.ref pq)) 3 (.ref mq)) 4 (va_rf lo)) Z B43 J K42.1 (fun q99 x99 => x99 = rep G a K42 q99) w := hO.to rfl
    obtain ⟨_, qr74, hqr75⟩ := hO.2.1 13 _ (sg_13 G h0 a _ _ _ _ _)
    refine pc_V0 (G := G) (As := [.int 3, .int (f16 vr), .int (nI 0)]) (rest := []) hx hb hml hown hq hE hX pX0_al hP hD hS hA hl.1 (K_emit l G h0 a (upd (upd (upd (upd (upd (upd (upd (upd (upd (upd F 2 (nI sz)) 5 (nI cs44)) 6 (nI rg)) 7 (nI (hd + 1))) 8 (nI dp12)) 12 (nI (vr + 1))) 13 as45) 14 wt46) 15 wf47) 16 ls9) (updR (updR (updR R 2 (.ref pq)) 3 (.ref mq)) 4 (va_rf lo)) Z B43 J K42.1 (fun q99 x99 => x99 = rep G a K42 q99) w 3 (f16 vr) 0 cs44 (by omega) (by omega) hng65 hO) (gV pw_129 pw_130 pw_131 pw_70 pw_115) hV_X1_emit qr74 1 hqr75 rfl rfl rfl (Nat.le_of_ble_eq_true rfl) dX0_local_73 ⟨(by show 0 + 0 ≤ 1; omega), (by show 0 + 0 ≤ 6; omega)⟩ ⟨(by show 2 + 1 ≤ (5 * n + 33); omega), (by show 8 + (4 + 11) + 60 ≤ (200 * n + 560); omega)⟩ (fun v73 u71 H locs hw72 hP hD hS => ?_)
    obtain ⟨w, cs76, f77, f78, f79, f80⟩ := u71
    obtain ⟨hw72, h81, h82, hO⟩ := hw72
    have h81 : cs44 ≤ cs76 ∧ cs76 ≤ cs44 + 1 ∧ cs76 ≤ 10000 := h81
    have h82 : Nng f79 := h82
    obtain rfl : v73 = none := hw72
    have hO : OKP G h0 a (upd (upd (upd (upd (upd (upd (upd (upd (upd (upd F 2 (nI sz)) 5 (nI cs76)) 6 (nI rg)) 7 (nI (hd + 1))) 8 (nI dp12)) 12 (nI (vr + 1))) 13 as45) 14 wt46) 15 wf47) 16 ls9) (updR (updR (updR R 2 (.ref pq)) 3 (.ref mq)) 4 (va_rf lo)) Z (updA (updA (updA (updA B43 16 f77) 17 f78) 18 f79) 19 f80) J K42 w := hO.to rfl
    refine W.widen (k := 0) (n := 0) (Nat.le_of_ble_eq_true rfl) (Nat.le_of_ble_eq_true rfl) ?_
    refine W.eq (g2 := F0 m 76 ls []) rfl ?_
    refine lv_aload_n hx hb dX0_local_76 rfl (lv_at hl 3 rfl) ?_
    refine lv_dup hx hb dX0_local_77 rfl ?_
    refine c_get (v := .int as45) (C := RX0) (Tc := TX0) (N := 13) (ci := 0) hx hb hq pin_wsX00 hown hE hP hO 24 (sg_24 G h0 a _ _ _ _ _) rfl 8 (by decide) (hq _ pw_55) (fun _ h9 => h9) rfl dX0_local_78 ?_
    refine lv_iconst (v := 1) hx hb dX0_local_81 (by decide) ?_
    refine lv_iload_n hx hb dX0_local_82 rfl (lv_at hl 1 rfl) ?_
    refine lv_ishl hx hb dX0_local_83 ?_
    refine lv_topi (fun x83 e84 => ?_)
    refine lv_ior hx hb dX0_local_84 ?_
    refine lv_topi (fun x85 e86 => ?_)
    refine c_put (v := .int x85) (ty := .int) (C := RX0) (Tc := TX0) (N := 13) (ci := 0) hx hb hq pin_wsX00 tyX0 tyX0_ok nmX0 hown hE hP hD hS hO 24 (sg_24 G h0 a _ _ _ _ _) rfl 8 (by decide) (hq _ pw_55) (fun _ h9 => h9) rfl (by decide +kernel) rfl rfl (Nat.le_of_ble_eq_true rfl) (sf_13 G h0 a _ _ _ _ _ x85) dX0_local_85 (fun H locs w hP hD hS hO => ?_)
    refine W_size (fun hz1 hz2 => ?_)
    refine vx_ret ?_
    have hz87 : BdE K K42 := hbe63
    have hz88 : Bth B (updA (updA (updA (updA B43 16 f77) 17 f78) 18 f79) 19 f80) := (show Thx (upd (upd (upd (upd (upd (upd (upd F 2 (nI sz)) 5 (nI cs)) 6 (nI rg)) 7 (nI hd)) 8 (nI dp)) 12 (nI vr)) 16 ls9) (upd (upd (upd (upd (upd (upd (upd (upd (upd (upd (upd (upd (upd (upd F 2 (nI sz)) 5 (nI cs)) 6 (nI rg)) 7 (nI hd)) 8 (nI dp)) 12 (nI vr)) 16 ls9) 5 (nI cs76)) 7 (nI (hd + 1))) 8 (nI dp12)) 12 (nI (vr + 1))) 13 x85) 14 wt46) 15 wf47) B (updA (updA (updA (updA B43 16 f77) 17 f78) 18 f79) 19 f80) from (Thx.b (Thx.b8 (Thx.b (Thx.b (Thx.f (Thx.f (Thx.f (Thx.f (Thx.f (Thx.f (Thx.f (Bth.thx hbb64) (by omega)) (by omega)) (by omega)) (by omega)) (by omega)) (by omega)) (by omega)) (by omega) (by decide)) (by omega) (by decide)) h82) (by omega) (by decide))).2
    have hz89 : cs76 ≤ 10000 ∧ rg ≤ 625 ∧ dp12 ≤ 1000 := (by omega)
    have hz90 : vr ≤ (vr + 1) ∧ (vr + 1) ≤ 30 ∧ (hd + 1) + vr = hd + (vr + 1) := (by omega)
    have hO : OKP G h0 a (upd (upd (upd (upd (upd (upd (upd (upd (upd (upd F 2 (nI sz)) 5 (nI cs76)) 6 (nI rg)) 7 (nI (hd + 1))) 8 (nI dp12)) 12 (nI (vr + 1))) 13 x85) 14 wt46) 15 wf47) 16 ls9) (updR (updR (updR R 2 (.ref pq)) 3 (.ref mq)) 4 (va_rf lo)) Z (updA (updA (updA (updA B43 16 f77) 17 f78) 18 f79) 19 f80) J K42 w := hO.to rfl
    refine W.widen (k := 1) (n := 6) (by omega) (by omega) ?_
    have hzz1 : H.size ≤ s.heap.size + (0) := (by have z : 0 ≤ 0 := (by omega); omega)
    have hzz2 : hSl H ≤ hSl s.heap + (0) := (by have z : 0 ≤ 0 := (by omega); omega)
    exact W.vret hx hb hr (fun t99 ht99 hW99 => ⟨⟨_, (w, (K42, (updA (updA (updA (updA B43 16 f77) 17 f78) 18 f79) 19 f80), cs76, x85, wt46, wf47, (vr + 1), (hd + 1), dp12, rg, ls9)), rfl, ⟨rfl, hz87, hz88, hz89, hz90, hO⟩, by rw [ht99]; exact hP, hD, by rw [ht99]; exact hzz1, by rw [ht99]; exact hzz2⟩, hS.F ht99⟩) hS.2.2 dX0_local_88
theorem dX0_throwStatement_0 : decode cX0_throwStatement 0 = .ok (.aload_n 0, 1) := by decide +kernel
theorem dX0_throwStatement_1 : decode cX0_throwStatement 1 = .ok (.getfield 29, 3) := by decide +kernel
theorem dX0_throwStatement_4 : decode cX0_throwStatement 4 = .ok (.aload_n 0, 1) := by decide +kernel
theorem dX0_throwStatement_5 : decode cX0_throwStatement 5 = .ok (.aload_n 1, 1) := by decide +kernel
theorem dX0_throwStatement_6 : decode cX0_throwStatement 6 = .ok (.getfield 165, 3) := by decide +kernel
theorem dX0_throwStatement_9 : decode cX0_throwStatement 9 = .ok (.invokevirtual 209, 3) := by decide +kernel
theorem dX0_throwStatement_12 : decode cX0_throwStatement 12 = .ok (.invokevirtual 44, 3) := by decide +kernel
theorem dX0_throwStatement_15 : decode cX0_throwStatement 15 = .ok (.astore_n 2, 1) := by decide +kernel
theorem dX0_throwStatement_16 : decode cX0_throwStatement 16 = .ok (.aload_n 2, 1) := by decide +kernel
theorem dX0_throwStatement_17 : decode cX0_throwStatement 17 = .ok (.ifnull 10, 3) := by decide +kernel
theorem dX0_throwStatement_27 : decode cX0_throwStatement 27 = .ok (.aload_n 0, 1) := by decide +kernel
theorem dX0_throwStatement_28 : decode cX0_throwStatement 28 = .ok (.getfield 9, 3) := by decide +kernel
theorem dX0_throwStatement_31 : decode cX0_throwStatement 31 = .ok (.bipush 11, 2) := by decide +kernel
theorem dX0_throwStatement_33 : decode cX0_throwStatement 33 = .ok (.aload_n 1, 1) := by decide +kernel
theorem dX0_throwStatement_34 : decode cX0_throwStatement 34 = .ok (.getfield 165, 3) := by decide +kernel
theorem dX0_throwStatement_37 : decode cX0_throwStatement 37 = .ok (.getfield 117, 3) := by decide +kernel
theorem dX0_throwStatement_40 : decode cX0_throwStatement 40 = .ok (.invokevirtual 136, 3) := by decide +kernel
theorem dX0_throwStatement_20 : decode cX0_throwStatement 20 = .ok (.aload_n 2, 1) := by decide +kernel
theorem dX0_throwStatement_21 : decode cX0_throwStatement 21 = .ok (.getfield 280, 3) := by decide +kernel
theorem dX0_throwStatement_24 : decode cX0_throwStatement 24 = .ok (.ifCond .eq 19, 3) := by decide +kernel
theorem dX0_throwStatement_43 : decode cX0_throwStatement 43 = .ok (.aload_n 0, 1) := by decide +kernel
theorem dX0_throwStatement_44 : decode cX0_throwStatement 44 = .ok (.getfield 15, 3) := by decide +kernel
theorem dX0_throwStatement_47 : decode cX0_throwStatement 47 = .ok (.bipush 25, 2) := by decide +kernel
theorem dX0_throwStatement_49 : decode cX0_throwStatement 49 = .ok (.iconst 0, 1) := by decide +kernel
theorem dX0_throwStatement_50 : decode cX0_throwStatement 50 = .ok (.iconst 0, 1) := by decide +kernel
theorem dX0_throwStatement_51 : decode cX0_throwStatement 51 = .ok (.invokevirtual 140, 3) := by decide +kernel
theorem dX0_throwStatement_54 : decode cX0_throwStatement 54 = .ok (.aload_n 0, 1) := by decide +kernel
theorem dX0_throwStatement_55 : decode cX0_throwStatement 55 = .ok (.iconst (-1), 1) := by decide +kernel
theorem dX0_throwStatement_56 : decode cX0_throwStatement 56 = .ok (.putfield 94, 3) := by decide +kernel
theorem dX0_throwStatement_59 : decode cX0_throwStatement 59 = .ok (.return_, 1) := by decide +kernel
set_option maxHeartbeats 16000000 in
set_option maxRecDepth 100000 in
theorem B_throw (l : Launch) (G : pT) (h0 : Nat) (a : Nat → Nat) (F : Nat → Int32) (R : Nat → Value) (Z : Int64) (B : Nat → Nat → Int32) (J : Nat → Nat → Int64) (K : PK) (w : va_W) (pq : Nat) (dr : Nat) (ml : Nat) (nd : Nat) (nm : Nat) (cp : Nat) (it : Nat → Nat) (s9 : Nat) (q : Nat) (mq : Nat) (cs : Nat) (vr : Nat) (sz : Nat) (n : Nat) (q1 : Nat) (hd : Nat) (dp : Nat) (rg : Nat) (ls9 : Int32) (lo : Option Nat) (g : Nat → Nat → Nat) (rk : Nat → Nat) (hsz : sz ≤ 5000) (hwp : WPr G K g) (hps : PgT G K g (a 1) pq dr ml nd nm cp it s9) (hrk : RkO K rk) (hcs : cs ≤ 10000) (hvr : vr ≤ 30) (hng : Nng (B 18)) (hmq : K.1 mq = 3) (hqT : K.1 q = 1) (hqL : 1 ≤ g 0 q ∧ g 0 q ≤ n) (hc0 : K.2.2.1 0 q = some q1) (ht0 : K.1 q1 = 1) (hv0 : 1 ≤ g 0 q1 ∧ g 0 q1 + 1 ≤ n) (hdp : dp ≤ 1000) (hrg : rg ≤ 625) (hhd : hd + 2 * n + 30 ≤ 900 + vr) (hlo : LpO K lo) (ihv : IhV l G n) (hO : OKP G h0 a (upd (upd (upd (upd (upd (upd (upd F 2 (nI sz)) 5 (nI cs)) 6 (nI rg)) 7 (nI hd)) 8 (nI dp)) 12 (nI vr)) 16 ls9) (updR (updR (updR R 2 (.ref pq)) 3 (.ref mq)) 4 (va_rf lo)) Z B J K w) (hl0 : l.stackTraces = false) : PBn l G pX0 yX0_throwStatement cX0_throwStatement 3 none ({ frames := (5 * n + 33), cells := 1, slots := 6, locals := (200 * n + 560) }) [.ref (a 4), .ref q] w (fun (v : Option Value) (u : va_W × (PK × (Nat → Nat → Int32) × Nat × Int32 × Int32 × Int32 × Nat × Nat × Nat × Nat × Int32)) => v = none ∧ (BdE K u.2.1) ∧ (Bth B u.2.2.1) ∧ (u.2.2.2.1 ≤ 10000 ∧ u.2.2.2.2.2.2.2.2.2.2.1 ≤ 625 ∧ u.2.2.2.2.2.2.2.2.2.1 ≤ 1000) ∧ (vr ≤ u.2.2.2.2.2.2.2.1 ∧ u.2.2.2.2.2.2.2.1 ≤ 30 ∧ u.2.2.2.2.2.2.2.2.1 + vr = hd + u.2.2.2.2.2.2.2.1) ∧ (OKP G h0 a (upd (upd (upd (upd (upd (upd (upd (upd (upd (upd F 2 (nI sz)) 5 (nI u.2.2.2.1)) 6 (nI u.2.2.2.2.2.2.2.2.2.2.1)) 7 (nI u.2.2.2.2.2.2.2.2.1)) 8 (nI u.2.2.2.2.2.2.2.2.2.1)) 12 (nI u.2.2.2.2.2.2.2.1)) 13 u.2.2.2.2.1) 14 u.2.2.2.2.2.1) 15 u.2.2.2.2.2.2.1) 16 u.2.2.2.2.2.2.2.2.2.2.2) (updR (updR (updR R 2 (.ref pq)) 3 (.ref mq)) 4 (va_rf lo)) Z u.2.2.1 J u.2.1 u.1)) (fun u => u.1) (fun (u : va_W × (PK × (Nat → Nat → Int32) × Nat × Int32 × Int32 × Int32 × Nat × Nat × Nat × Nat × Int32)) => 0) (fun (u : va_W × (PK × (Nat → Nat → Int32) × Nat × Int32 × Int32 × Int32 × Nat × Nat × Nat × Nat × Int32)) => 0) (fun (u : va_W × (Nat → Int32) × (Nat → Value) × (Nat → Nat → Int32)) => ThQ G h0 a (upd (upd (upd (upd (upd (upd (upd F 2 (nI sz)) 5 (nI cs)) 6 (nI rg)) 7 (nI hd)) 8 (nI dp)) 12 (nI vr)) 16 ls9) (updR (updR (updR R 2 (.ref pq)) 3 (.ref mq)) 4 (va_rf lo)) Z B J u) (fun u => u.1) := by
  intro sz
  refine vx_ofW (cc := cX0_throwStatement) (maxL := 3) (ret := none) (by decide) rfl ?_
  intro p e s m args below meth c s₁ B9 hml hnt hv
  obtain ⟨rfl, hsz, hP, hD0, hE, hX⟩ := hv
  have hx := B9.exec
  have hb := B9.bytes
  have hr := B9.returns
  have hts := atoms_spec (ws := Cond.code yX0_throwStatement cX0_throwStatement 3 none :: pw) B9.pre
  have hq : ∀ w ∈ pw, w.before _ s = true := fun w h => hts w (List.mem_cons_of_mem _ h)
  have hown : s.vm.findClass RX0 = some m.cls := findClass_of_methodNamed B9.named
  have hlocks := B9.notSynchronized
  subst hsz
  have hD := hD0.self (sz := s.heap.size)
  have hA : ∀ q : Nat, s.heap.size ≤ q → va_A w s.heap.size q := fun q h => Or.inr h
  generalize va_A w s.heap.size = A at hD hE hA ⊢
  have hS : va_S A s.heap s.heap [] := va_S.rf
  have hl := lv_entry ([.ref (a 4), .ref q]) (n := 3) (Nat.le_of_ble_eq_true rfl)
  rw [lg_entry_eq]
  generalize (lg_sl ([.ref (a 4), .ref q]) ++ List.replicate (3 - (lg_sl ([.ref (a 4), .ref q])).length) Slot.unset).toArray = ls at hl ⊢
  have hl : lv_has ls 3 [(0, .ref (a 4)), (1, .ref q)] := hl
  have hpg := hps.1
  have hp1 := hpg.1
  have hp2 := hpg.2.1
  have hp3 := hpg.2.2.1
  have hp4 := hpg.2.2.2.1
  have hp5 := hpg.2.2.2.2.1
  have hp6 := hpg.2.2.2.2.2.1
  have hp8 := hpg.2.2.2.2.2.2.2.1
  have hp9 := hpg.2.2.2.2.2.2.2.2
  refine lv_aload_n hx hb dX0_throwStatement_0 rfl (lv_at hl 0 rfl) ?_
  refine c_get (v := .ref pq) (C := RX0) (Tc := TX0) (N := 13) (ci := 0) hx hb hq pin_wsX00 hown hE hP hO 24 (sg_24 G h0 a _ _ _ _ _) rfl 6 (by decide) (hq _ pw_110) (fun _ h9 => h9) rfl dX0_throwStatement_1 ?_
  refine lv_aload_n hx hb dX0_throwStatement_4 rfl (lv_at hl 0 rfl) ?_
  refine lv_aload_n hx hb dX0_throwStatement_5 rfl (lv_at hl 1 rfl) ?_
  refine p_get (v := .ref q1) (C := RX7) (Tc := TX7) (N := 11) (ci := 13) hx hb hq pin_wsX70 hown hE hP hO (by rw [hqT]; decide) (rep_1 hqT) rfl 6 (by decide) (hq _ pw_180) (fun _ h9 => h9) (congrArg (fun z => some (va_rf z)) hc0) dX0_throwStatement_6 ?_
  have hO : OKP G h0 a (upd (upd (upd (upd (upd (upd (upd (upd (upd (upd F 2 (nI sz)) 5 (nI cs)) 6 (nI rg)) 7 (nI hd)) 8 (nI dp)) 12 (nI vr)) 16 ls9) 2 (nI sz)) 5 (nI cs)) 12 (nI vr)) (updR (updR (updR (updR (updR R 2 (.ref pq)) 3 (.ref mq)) 4 (va_rf lo)) 2 (.ref pq)) 3 (.ref mq)) Z B J K w := hO.to rfl
  obtain ⟨_, qr4, hqr5⟩ := hO.2.1 24 _ (sg_24 G h0 a _ _ _ _ _)
  refine pn_V0 (G := G) (As := [.ref q1]) (rest := [.ref pq]) hx hb hml hown hq hE hX pX0_al hP hD hS hA hl.1 ((ihv (by omega)) h0 a (upd (upd (upd (upd (upd (upd (upd F 2 (nI sz)) 5 (nI cs)) 6 (nI rg)) 7 (nI hd)) 8 (nI dp)) 12 (nI vr)) 16 ls9) (updR (updR (updR R 2 (.ref pq)) 3 (.ref mq)) 4 (va_rf lo)) Z B J K w pq dr ml nd nm cp it s9 q1 mq cs vr sz g rk (by omega) (BdE.wp BdE.rfl hwp) (BdE.pt BdE.rfl hwp hps) (BdE.rko BdE.rfl hrk) (by omega) (by omega) hng hmq ht0 ⟨hv0.1, (by have z9 := hv0; omega)⟩ hO hl0) (gV pw_173 pw_174 pw_175 pw_63 pw_224) hV_X0_value qr4 0 hqr5 rfl rfl rfl (Nat.le_of_ble_eq_true rfl) dX0_throwStatement_9 ⟨(by show 0 + 1 ≤ 1; omega), (by show 0 + 6 ≤ 6; omega)⟩ ⟨(by show (5 * (n - 1) + 34) + 1 ≤ (5 * n + 33); omega), (by show 8 + (3 + 11) + (200 * (n - 1) + 600) ≤ (200 * n + 560); omega)⟩ (fun v3 u1 H locs hw2 hP hD hS => ?_) (fun ux ce9 q9 H9 locs9 hux hP9 hD9 hS9 hce hcv hcl => pb_out ux (ThQ.up (Thx.same (Thx.same (Thx.same Thx.rfl rfl) rfl) rfl) (show RhX (updR (updR (updR R 2 (.ref pq)) 3 (.ref mq)) 4 (va_rf lo)) (updR (updR (updR (updR (updR R 2 (.ref pq)) 3 (.ref mq)) 4 (va_rf lo)) 2 (.ref pq)) 3 (.ref mq)) from fun k9 hk9 => by unfold updR; simp only [show ¬ k9 = 1 by omega, show ¬ k9 = 2 by omega, show ¬ k9 = 3 by omega, show ¬ k9 = 4 by omega, if_false]) hux) hnt hlocks hce hcv hcl hP9 hD9 hS9 (by show 0 + 1 ≤ 1; omega) (by show 0 + 6 ≤ 6; omega))
  obtain ⟨w, K6, B7, cs8, as9, wt10, wf11, r12⟩ := u1
  obtain ⟨hw2, h13, h14, h15, hO⟩ := hw2
  have h13 : BdE K K6 := h13
  have h14 : Bth B B7 := h14
  have h15 : cs8 ≤ 10000 := h15
  obtain rfl : v3 = some (.int r12) := hw2
  have hf16 : K6.1 pq = 7 := (BdE.T h13 hp1 (by decide))
  have hf17 : K6.2.2.1 18 pq = some (a 1) := (BdE.C h13 (by rw [hp1]; decide) 18).trans hp2
  have hf18 : K6.2.2.1 14 pq = some dr := (BdE.C h13 (by rw [hp1]; decide) 14).trans hp3
  have hf19 : K6.1 dr = 8 := (BdE.T h13 hp4 (by decide))
  have hf20 : K6.2.2.1 15 pq = some ml := (BdE.C h13 (by rw [hp1]; decide) 15).trans hp5
  have hf21 : K6.1 ml = 5 := (BdE.T h13 hp6 (by decide))
  have hf22 : K6.2.1 24 pq = (nI nd) := (BdE.I h13 (by rw [hp1]; decide) (by decide) (by decide)).trans hp8
  have hf23 : K6.1 q = 1 := (BdE.T h13 hqT (by decide))
  have hf24 : K6.1 mq = 3 := (BdE.T h13 hmq (by decide))
  have hf25 : K6.2.2.1 0 q = some q1 := (BdE.C h13 (by rw [hqT]; decide) 0).trans hc0
  have hf26 : K6.1 q1 = 1 := (BdE.T h13 ht0 (by decide))
  have hO : OKP G h0 a (upd (upd (upd (upd (upd (upd (upd (upd (upd (upd F 2 (nI sz)) 5 (nI cs8)) 6 (nI rg)) 7 (nI hd)) 8 (nI dp)) 12 (nI vr)) 13 as9) 14 wt10) 15 wf11) 16 ls9) (updR (updR (updR R 2 (.ref pq)) 3 (.ref mq)) 4 (va_rf lo)) Z B7 J K6 w := hO.to rfl
  refine W.widen (k := 0) (n := 0) (by show 0 + 0 ≤ 0; omega) (by show 0 + 0 ≤ 0; omega) ?_
  refine W.eq (g2 := F0 m 12 ls [.int r12, .ref pq]) rfl ?_
  have hbe27 := BdE.trans BdE.rfl h13
  have hbb28 : Bth B B7 := Bth.trans (show Thx (upd (upd (upd (upd (upd (upd (upd F 2 (nI sz)) 5 (nI cs)) 6 (nI rg)) 7 (nI hd)) 8 (nI dp)) 12 (nI vr)) 16 ls9) (upd (upd (upd (upd (upd (upd (upd F 2 (nI sz)) 5 (nI cs)) 6 (nI rg)) 7 (nI hd)) 8 (nI dp)) 12 (nI vr)) 16 ls9) B B from Thx.rfl).2 h14
  have hng29 : Nng (B7 18) := h14.2 hng
  have hO : OKP G h0 a (upd (upd (upd (upd (upd (upd (upd (upd (upd (upd F 2 (nI sz)) 5 (nI cs8)) 6 (nI rg)) 7 (nI hd)) 8 (nI dp)) 12 (nI vr)) 13 as9) 14 wt10) 15 wf11) 16 ls9) (updR (updR (updR R 2 (.ref pq)) 3 (.ref mq)) 4 (va_rf lo)) Z B7 J K6 w := hO.to rfl
  obtain ⟨qr33, hqr34⟩ := p_recv hO (by rw [hf16]; decide) (rep_7 hf16)
  refine pc_V0 (G := G) (As := [.int r12]) (rest := []) hx hb hml hown hq hE hX pX0_al hP hD hS hA hl.1 (G_decl l G h0 a (upd (upd (upd (upd (upd (upd (upd (upd (upd (upd F 2 (nI sz)) 5 (nI cs8)) 6 (nI rg)) 7 (nI hd)) 8 (nI dp)) 12 (nI vr)) 13 as9) 14 wt10) 15 wf11) 16 ls9) (updR (updR (updR R 2 (.ref pq)) 3 (.ref mq)) 4 (va_rf lo)) Z B7 J K6 w pq dr ml nd r12 g (BdE.pt hbe27 hwp hps).1 (BdE.pt hbe27 hwp hps).2.1 hO) (gV pw_181 pw_182 pw_183 pw_106 pw_13) hV_X9_decl qr33 6 hqr34 rfl rfl rfl (Nat.le_of_ble_eq_true rfl) dX0_throwStatement_12 ⟨(by show 0 + 0 ≤ 1; omega), (by show 0 + 0 ≤ 6; omega)⟩ ⟨(by show 2 + 1 ≤ (5 * n + 33); omega), (by show 8 + (2 + 11) + 60 ≤ (200 * n + 560); omega)⟩ (fun v32 u30 H locs hw31 hP hD hS => ?_)
  obtain ⟨w, o35⟩ := u30
  obtain ⟨hw31, h36, h37, hO⟩ := hw31
  have h36 : DoN K6 o35 := h36
  have h37 : DoK K6 dr nd r12 o35 := h37
  obtain rfl : v32 = some ((va_rf o35)) := hw31
  have hO : OKP G h0 a (upd (upd (upd (upd (upd (upd (upd (upd (upd (upd F 2 (nI sz)) 5 (nI cs8)) 6 (nI rg)) 7 (nI hd)) 8 (nI dp)) 12 (nI vr)) 13 as9) 14 wt10) 15 wf11) 16 ls9) (updR (updR (updR R 2 (.ref pq)) 3 (.ref mq)) 4 (va_rf lo)) Z B7 J K6 w := hO.to rfl
  refine W.widen (k := 0) (n := 0) (Nat.le_of_ble_eq_true rfl) (Nat.le_of_ble_eq_true rfl) ?_
  refine W.eq (g2 := F0 m 15 ls [(va_rf o35)]) rfl ?_
  rcases o35 with _ | d38
  · have hl : lv_has ls 3 [(0, .ref (a 4)), (1, .ref q)] := hl
    refine W.eq (g2 := F0 m 15 ls [.null]) rfl ?_
    refine lv_astore_nN (lv' := [(2, .null), (0, .ref (a 4)), (1, .ref q)]) hx hb dX0_throwStatement_15 rfl hl (by decide) rfl (fun ls hl => ?_)
    refine lv_aload_nN hx hb dX0_throwStatement_16 rfl (lv_at hl 0 rfl) ?_
    refine lv_ifnullN (tgt := 27) hx hb dX0_throwStatement_17 (by decide) ?_
    refine lv_aload_n hx hb dX0_throwStatement_27 rfl (lv_at hl 1 rfl) ?_
    refine c_get (v := .ref (a 1)) (C := RX0) (Tc := TX0) (N := 13) (ci := 0) hx hb hq pin_wsX00 hown hE hP hO 24 (sg_24 G h0 a _ _ _ _ _) rfl 0 (by decide) (hq _ pw_4) (fun _ h9 => h9) rfl dX0_throwStatement_28 ?_
    refine lv_bipush (v := 11) hx hb dX0_throwStatement_31 (by decide) ?_
    refine lv_aload_n hx hb dX0_throwStatement_33 rfl (lv_at hl 2 rfl) ?_
    refine p_get (v := .ref q1) (C := RX7) (Tc := TX7) (N := 11) (ci := 13) hx hb hq pin_wsX70 hown hE hP hO (by rw [hf23]; decide) (rep_1 hf23) rfl 6 (by decide) (hq _ pw_180) (fun _ h9 => h9) (congrArg (fun z => some (va_rf z)) hf25) dX0_throwStatement_34 ?_
    refine p_get (v := .int (K6.2.1 2 q1)) (C := RX7) (Tc := TX7) (N := 11) (ci := 13) hx hb hq pin_wsX70 hown hE hP hO (by rw [hf26]; decide) (rep_1 hf26) rfl 2 (by decide) (hq _ pw_82) (fun _ h9 => h9) rfl dX0_throwStatement_37 ?_
    have hO : OKW G h0 a (upd (upd (upd (upd (upd (upd (upd (upd (upd (upd (upd (upd F 2 (nI sz)) 5 (nI cs)) 6 (nI rg)) 7 (nI hd)) 8 (nI dp)) 12 (nI vr)) 16 ls9) 5 (nI cs8)) 13 as9) 14 wt10) 15 wf11) 2 (nI sz)) (updR (updR (updR R 2 (.ref pq)) 3 (.ref mq)) 4 (va_rf lo)) Z B7 J K6.1 (fun q99 x99 => x99 = rep G a K6 q99) w := hO.to rfl
    obtain ⟨_, qr42, hqr43⟩ := hO.2.1 2 _ (sg_2 G h0 a _ _ _ _ _)
    refine pn_V0 (G := G) (As := [.int 11, .int (K6.2.1 2 q1)]) (rest := []) hx hb hml hown hq hE hX pX0_al hP hD hS hA hl.1 (K_fail l G h0 a (upd (upd (upd (upd (upd (upd (upd (upd (upd (upd (upd F 2 (nI sz)) 5 (nI cs)) 6 (nI rg)) 7 (nI hd)) 8 (nI dp)) 12 (nI vr)) 16 ls9) 5 (nI cs8)) 13 as9) 14 wt10) 15 wf11) (updR (updR (updR R 2 (.ref pq)) 3 (.ref mq)) 4 (va_rf lo)) Z B7 J K6.1 (fun q99 x99 => x99 = rep G a K6 q99) w 11 (K6.2.1 2 q1) sz (by omega) hO hl0) (gV pw_64 pw_65 pw_66 pw_59 pw_43) hV_X10_fail qr42 7 hqr43 rfl rfl rfl (Nat.le_of_ble_eq_true rfl) dX0_throwStatement_40 ⟨(by show 0 + 1 ≤ 1; omega), (by show 0 + 6 ≤ 6; omega)⟩ ⟨(by show 6 + 1 ≤ (5 * n + 33); omega), (by show 8 + (3 + 11) + 100 ≤ (200 * n + 560); omega)⟩ (fun v41 u39 H locs hw40 hP hD hS => hw40.elim) (fun ux ce9 q9 H9 locs9 hux hP9 hD9 hS9 hce hcv hcl => pb_out ux (ThQ.up (Thx.same (Thx.f (Thx.f (Thx.f (Thx.f (Bth.thx hbb28) (by omega)) (by omega)) (by omega)) (by omega)) rfl) RhX.rfl hux) hnt hlocks hce hcv hcl hP9 hD9 hS9 (by show 0 + 1 ≤ 1; omega) (by show 0 + 6 ≤ 6; omega))
  · have hl : lv_has ls 3 [(0, .ref (a 4)), (1, .ref q)] := hl
    refine W.eq (g2 := F0 m 15 ls [.ref d38]) rfl ?_
    have hf44 : K6.1 d38 = 4 := h36 d38 rfl
    refine lv_astore_n (lv' := [(2, .ref d38), (0, .ref (a 4)), (1, .ref q)]) hx hb dX0_throwStatement_15 rfl hl (by decide) rfl (fun ls hl => ?_)
    refine lv_aload_n hx hb dX0_throwStatement_16 rfl (lv_at hl 0 rfl) ?_
    refine lv_ifnull hx hb dX0_throwStatement_17 ?_
    refine lv_aload_n hx hb dX0_throwStatement_20 rfl (lv_at hl 0 rfl) ?_
    refine p_get (v := .int (K6.2.1 18 d38)) (C := RX2) (Tc := TX2) (N := 13) (ci := 2) hx hb hq pin_wsX20 hown hE hP hO (by rw [hf44]; decide) (rep_4 hf44) rfl 3 (by decide) (hq _ pw_211) (fun _ h9 => h9) rfl dX0_throwStatement_21 ?_
    refine lv_if_eq (tgt := 43) hx hb dX0_throwStatement_24 (by decide) (fun c45 => ?_) (fun c45 => ?_)
    · refine lv_aload_n hx hb dX0_throwStatement_43 rfl (lv_at hl 1 rfl) ?_
      refine c_get (v := .ref (a 2)) (C := RX0) (Tc := TX0) (N := 13) (ci := 0) hx hb hq pin_wsX00 hown hE hP hO 24 (sg_24 G h0 a _ _ _ _ _) rfl 1 (by decide) (hq _ pw_5) (fun _ h9 => h9) rfl dX0_throwStatement_44 ?_
      refine lv_bipush (v := 25) hx hb dX0_throwStatement_47 (by decide) ?_
      refine lv_iconst (v := 0) hx hb dX0_throwStatement_49 (by decide) ?_
      refine lv_iconst (v := 0) hx hb dX0_throwStatement_50 (by decide) ?_
      have hO : OKW G h0 a (upd (upd (upd (upd (upd (upd (upd (upd (upd (upd (upd F 2 (nI sz)) 5 (nI cs8)) 6 (nI rg)) 7 (nI hd)) 8 (nI dp)) 12 (nI vr)) 13 as9) 14 wt10) 15 wf11) 16 ls9) 5 (nI cs8)) (updR (updR (updR R 2 (.ref pq)) 3 (.ref mq)) 4 (va_rf lo)) Z B7 J K6.1 (fun q99 x99 => x99 = rep G a K6 q99) w := hO.to rfl
      obtain ⟨_, qr49, hqr50⟩ := hO.2.1 13 _ (sg_13 G h0 a _ _ _ _ _)
      refine pc_V0 (G := G) (As := [.int 25, .int 0, .int (nI 0)]) (rest := []) hx hb hml hown hq hE hX pX0_al hP hD hS hA hl.1 (K_emit l G h0 a (upd (upd (upd (upd (upd (upd (upd (upd (upd (upd F 2 (nI sz)) 5 (nI cs8)) 6 (nI rg)) 7 (nI hd)) 8 (nI dp)) 12 (nI vr)) 13 as9) 14 wt10) 15 wf11) 16 ls9) (updR (updR (updR R 2 (.ref pq)) 3 (.ref mq)) 4 (va_rf lo)) Z B7 J K6.1 (fun q99 x99 => x99 = rep G a K6 q99) w 25 0 0 cs8 (by omega) (by omega) hng29 hO) (gV pw_129 pw_130 pw_131 pw_70 pw_115) hV_X1_emit qr49 1 hqr50 rfl rfl rfl (Nat.le_of_ble_eq_true rfl) dX0_throwStatement_51 ⟨(by show 0 + 0 ≤ 1; omega), (by show 0 + 0 ≤ 6; omega)⟩ ⟨(by show 2 + 1 ≤ (5 * n + 33); omega), (by show 8 + (4 + 11) + 60 ≤ (200 * n + 560); omega)⟩ (fun v48 u46 H locs hw47 hP hD hS => ?_)
      obtain ⟨w, cs51, f52, f53, f54, f55⟩ := u46
      obtain ⟨hw47, h56, h57, hO⟩ := hw47
      have h56 : cs8 ≤ cs51 ∧ cs51 ≤ cs8 + 1 ∧ cs51 ≤ 10000 := h56
      have h57 : Nng f54 := h57
      obtain rfl : v48 = none := hw47
      have hO : OKP G h0 a (upd (upd (upd (upd (upd (upd (upd (upd (upd (upd F 2 (nI sz)) 5 (nI cs51)) 6 (nI rg)) 7 (nI hd)) 8 (nI dp)) 12 (nI vr)) 13 as9) 14 wt10) 15 wf11) 16 ls9) (updR (updR (updR R 2 (.ref pq)) 3 (.ref mq)) 4 (va_rf lo)) Z (updA (updA (updA (updA B7 16 f52) 17 f53) 18 f54) 19 f55) J K6 w := hO.to rfl
      refine W.widen (k := 0) (n := 0) (Nat.le_of_ble_eq_true rfl) (Nat.le_of_ble_eq_true rfl) ?_
      refine W.eq (g2 := F0 m 54 ls []) rfl ?_
      refine lv_aload_n hx hb dX0_throwStatement_54 rfl (lv_at hl 1 rfl) ?_
      refine lv_iconst (v := (-1)) hx hb dX0_throwStatement_55 (by decide) ?_
      refine c_put (v := .int (-1)) (ty := .int) (C := RX0) (Tc := TX0) (N := 13) (ci := 0) hx hb hq pin_wsX00 tyX0 tyX0_ok nmX0 hown hE hP hD hS hO 24 (sg_24 G h0 a _ _ _ _ _) rfl 8 (by decide) (hq _ pw_55) (fun _ h9 => h9) rfl (by decide +kernel) rfl rfl (Nat.le_of_ble_eq_true rfl) (sf_13 G h0 a _ _ _ _ _ (-1)) dX0_throwStatement_56 (fun H locs w hP hD hS hO => ?_)
      refine W_size (fun hz1 hz2 => ?_)
      refine vx_ret ?_
      have hz58 : BdE K K6 := hbe27
      have hz59 : Bth B (updA (updA (updA (updA B7 16 f52) 17 f53) 18 f54) 19 f55) := (show Thx (upd (upd (upd (upd (upd (upd (upd F 2 (nI sz)) 5 (nI cs)) 6 (nI rg)) 7 (nI hd)) 8 (nI dp)) 12 (nI vr)) 16 ls9) (upd (upd (upd (upd (upd (upd (upd (upd (upd (upd (upd F 2 (nI sz)) 5 (nI cs)) 6 (nI rg)) 7 (nI hd)) 8 (nI dp)) 12 (nI vr)) 16 ls9) 5 (nI cs51)) 13 (-1)) 14 wt10) 15 wf11) B (updA (updA (updA (updA B7 16 f52) 17 f53) 18 f54) 19 f55) from (Thx.b (Thx.b8 (Thx.b (Thx.b (Thx.f (Thx.f (Thx.f (Thx.f (Bth.thx hbb28) (by omega)) (by omega)) (by omega)) (by omega)) (by omega) (by decide)) (by omega) (by decide)) h57) (by omega) (by decide))).2
      have hz60 : cs51 ≤ 10000 ∧ rg ≤ 625 ∧ dp ≤ 1000 := (by omega)
      have hz61 : vr ≤ vr ∧ vr ≤ 30 ∧ hd + vr = hd + vr := (by omega)
      have hO : OKP G h0 a (upd (upd (upd (upd (upd (upd (upd (upd (upd (upd F 2 (nI sz)) 5 (nI cs51)) 6 (nI rg)) 7 (nI hd)) 8 (nI dp)) 12 (nI vr)) 13 ((-1) : Int32)) 14 wt10) 15 wf11) 16 ls9) (updR (updR (updR R 2 (.ref pq)) 3 (.ref mq)) 4 (va_rf lo)) Z (updA (updA (updA (updA B7 16 f52) 17 f53) 18 f54) 19 f55) J K6 w := hO.to rfl
      refine W.widen (k := 1) (n := 6) (by omega) (by omega) ?_
      have hzz1 : H.size ≤ s.heap.size + (0) := (by have z : 0 ≤ 0 := (by omega); omega)
      have hzz2 : hSl H ≤ hSl s.heap + (0) := (by have z : 0 ≤ 0 := (by omega); omega)
      exact W.vret hx hb hr (fun t99 ht99 hW99 => ⟨⟨_, (w, (K6, (updA (updA (updA (updA B7 16 f52) 17 f53) 18 f54) 19 f55), cs51, ((-1) : Int32), wt10, wf11, vr, hd, dp, rg, ls9)), rfl, ⟨rfl, hz58, hz59, hz60, hz61, hO⟩, by rw [ht99]; exact hP, hD, by rw [ht99]; exact hzz1, by rw [ht99]; exact hzz2⟩, hS.F ht99⟩) hS.2.2 dX0_throwStatement_59
    · refine lv_aload_n hx hb dX0_throwStatement_27 rfl (lv_at hl 1 rfl) ?_
      refine c_get (v := .ref (a 1)) (C := RX0) (Tc := TX0) (N := 13) (ci := 0) hx hb hq pin_wsX00 hown hE hP hO 24 (sg_24 G h0 a _ _ _ _ _) rfl 0 (by decide) (hq _ pw_4) (fun _ h9 => h9) rfl dX0_throwStatement_28 ?_
      refine lv_bipush (v := 11) hx hb dX0_throwStatement_31 (by decide) ?_
      refine lv_aload_n hx hb dX0_throwStatement_33 rfl (lv_at hl 2 rfl) ?_
      refine p_get (v := .ref q1) (C := RX7) (Tc := TX7) (N := 11) (ci := 13) hx hb hq pin_wsX70 hown hE hP hO (by rw [hf23]; decide) (rep_1 hf23) rfl 6 (by decide) (hq _ pw_180) (fun _ h9 => h9) (congrArg (fun z => some (va_rf z)) hf25) dX0_throwStatement_34 ?_
      refine p_get (v := .int (K6.2.1 2 q1)) (C := RX7) (Tc := TX7) (N := 11) (ci := 13) hx hb hq pin_wsX70 hown hE hP hO (by rw [hf26]; decide) (rep_1 hf26) rfl 2 (by decide) (hq _ pw_82) (fun _ h9 => h9) rfl dX0_throwStatement_37 ?_
      have hO : OKW G h0 a (upd (upd (upd (upd (upd (upd (upd (upd (upd (upd (upd (upd F 2 (nI sz)) 5 (nI cs)) 6 (nI rg)) 7 (nI hd)) 8 (nI dp)) 12 (nI vr)) 16 ls9) 5 (nI cs8)) 13 as9) 14 wt10) 15 wf11) 2 (nI sz)) (updR (updR (updR R 2 (.ref pq)) 3 (.ref mq)) 4 (va_rf lo)) Z B7 J K6.1 (fun q99 x99 => x99 = rep G a K6 q99) w := hO.to rfl
      obtain ⟨_, qr65, hqr66⟩ := hO.2.1 2 _ (sg_2 G h0 a _ _ _ _ _)
      refine pn_V0 (G := G) (As := [.int 11, .int (K6.2.1 2 q1)]) (rest := []) hx hb hml hown hq hE hX pX0_al hP hD hS hA hl.1 (K_fail l G h0 a (upd (upd (upd (upd (upd (upd (upd (upd (upd (upd (upd F 2 (nI sz)) 5 (nI cs)) 6 (nI rg)) 7 (nI hd)) 8 (nI dp)) 12 (nI vr)) 16 ls9) 5 (nI cs8)) 13 as9) 14 wt10) 15 wf11) (updR (updR (updR R 2 (.ref pq)) 3 (.ref mq)) 4 (va_rf lo)) Z B7 J K6.1 (fun q99 x99 => x99 = rep G a K6 q99) w 11 (K6.2.1 2 q1) sz (by omega) hO hl0) (gV pw_64 pw_65 pw_66 pw_59 pw_43) hV_X10_fail qr65 7 hqr66 rfl rfl rfl (Nat.le_of_ble_eq_true rfl) dX0_throwStatement_40 ⟨(by show 0 + 1 ≤ 1; omega), (by show 0 + 6 ≤ 6; omega)⟩ ⟨(by show 6 + 1 ≤ (5 * n + 33); omega), (by show 8 + (3 + 11) + 100 ≤ (200 * n + 560); omega)⟩ (fun v64 u62 H locs hw63 hP hD hS => hw63.elim) (fun ux ce9 q9 H9 locs9 hux hP9 hD9 hS9 hce hcv hcl => pb_out ux (ThQ.up (Thx.same (Thx.f (Thx.f (Thx.f (Thx.f (Bth.thx hbb28) (by omega)) (by omega)) (by omega)) (by omega)) rfl) RhX.rfl hux) hnt hlocks hce hcv hcl hP9 hD9 hS9 (by show 0 + 1 ≤ 1; omega) (by show 0 + 6 ≤ 6; omega))
theorem dX0_returnStatement_0 : decode cX0_returnStatement 0 = .ok (.aload_n 1, 1) := by decide +kernel
theorem dX0_returnStatement_1 : decode cX0_returnStatement 1 = .ok (.getfield 165, 3) := by decide +kernel
theorem dX0_returnStatement_4 : decode cX0_returnStatement 4 = .ok (.ifnull 29, 3) := by decide +kernel
theorem dX0_returnStatement_33 : decode cX0_returnStatement 33 = .ok (.aload_n 0, 1) := by decide +kernel
theorem dX0_returnStatement_34 : decode cX0_returnStatement 34 = .ok (.getfield 69, 3) := by decide +kernel
theorem dX0_returnStatement_37 : decode cX0_returnStatement 37 = .ok (.getfield 130, 3) := by decide +kernel
theorem dX0_returnStatement_40 : decode cX0_returnStatement 40 = .ok (.bipush 63, 2) := by decide +kernel
theorem dX0_returnStatement_42 : decode cX0_returnStatement 42 = .ok (.if_icmp .eq 16, 3) := by decide +kernel
theorem dX0_returnStatement_58 : decode cX0_returnStatement 58 = .ok (.aload_n 0, 1) := by decide +kernel
theorem dX0_returnStatement_59 : decode cX0_returnStatement 59 = .ok (.getfield 15, 3) := by decide +kernel
theorem dX0_returnStatement_62 : decode cX0_returnStatement 62 = .ok (.aload_n 1, 1) := by decide +kernel
theorem dX0_returnStatement_63 : decode cX0_returnStatement 63 = .ok (.getfield 165, 3) := by decide +kernel
theorem dX0_returnStatement_66 : decode cX0_returnStatement 66 = .ok (.ifnonnull 8, 3) := by decide +kernel
theorem dX0_returnStatement_69 : decode cX0_returnStatement 69 = .ok (.bipush 26, 2) := by decide +kernel
theorem dX0_returnStatement_71 : decode cX0_returnStatement 71 = .ok (.goto 5, 3) := by decide +kernel
theorem dX0_returnStatement_76 : decode cX0_returnStatement 76 = .ok (.iconst 0, 1) := by decide +kernel
theorem dX0_returnStatement_77 : decode cX0_returnStatement 77 = .ok (.iconst 0, 1) := by decide +kernel
theorem dX0_returnStatement_78 : decode cX0_returnStatement 78 = .ok (.invokevirtual 140, 3) := by decide +kernel
theorem dX0_returnStatement_81 : decode cX0_returnStatement 81 = .ok (.aload_n 0, 1) := by decide +kernel
theorem dX0_returnStatement_82 : decode cX0_returnStatement 82 = .ok (.iconst (-1), 1) := by decide +kernel
theorem dX0_returnStatement_83 : decode cX0_returnStatement 83 = .ok (.putfield 94, 3) := by decide +kernel
theorem dX0_returnStatement_86 : decode cX0_returnStatement 86 = .ok (.return_, 1) := by decide +kernel
theorem dX0_returnStatement_45 : decode cX0_returnStatement 45 = .ok (.aload_n 0, 1) := by decide +kernel
theorem dX0_returnStatement_46 : decode cX0_returnStatement 46 = .ok (.getfield 9, 3) := by decide +kernel
theorem dX0_returnStatement_49 : decode cX0_returnStatement 49 = .ok (.bipush 11, 2) := by decide +kernel
theorem dX0_returnStatement_51 : decode cX0_returnStatement 51 = .ok (.aload_n 1, 1) := by decide +kernel
theorem dX0_returnStatement_52 : decode cX0_returnStatement 52 = .ok (.getfield 114, 3) := by decide +kernel
theorem dX0_returnStatement_55 : decode cX0_returnStatement 55 = .ok (.invokevirtual 136, 3) := by decide +kernel
theorem dX0_returnStatement_7 : decode cX0_returnStatement 7 = .ok (.aload_n 0, 1) := by decide +kernel
theorem dX0_returnStatement_8 : decode cX0_returnStatement 8 = .ok (.aload_n 1, 1) := by decide +kernel
theorem dX0_returnStatement_9 : decode cX0_returnStatement 9 = .ok (.getfield 165, 3) := by decide +kernel
theorem dX0_returnStatement_12 : decode cX0_returnStatement 12 = .ok (.aload_n 0, 1) := by decide +kernel
theorem dX0_returnStatement_13 : decode cX0_returnStatement 13 = .ok (.aload_n 1, 1) := by decide +kernel
theorem dX0_returnStatement_14 : decode cX0_returnStatement 14 = .ok (.getfield 165, 3) := by decide +kernel
theorem dX0_returnStatement_17 : decode cX0_returnStatement 17 = .ok (.invokevirtual 209, 3) := by decide +kernel
theorem dX0_returnStatement_20 : decode cX0_returnStatement 20 = .ok (.aload_n 0, 1) := by decide +kernel
theorem dX0_returnStatement_21 : decode cX0_returnStatement 21 = .ok (.getfield 69, 3) := by decide +kernel
theorem dX0_returnStatement_24 : decode cX0_returnStatement 24 = .ok (.getfield 130, 3) := by decide +kernel
theorem dX0_returnStatement_27 : decode cX0_returnStatement 27 = .ok (.invokevirtual 213, 3) := by decide +kernel
theorem dX0_returnStatement_30 : decode cX0_returnStatement 30 = .ok (.goto 28, 3) := by decide +kernel
theorem dX0_returnStatement_74 : decode cX0_returnStatement 74 = .ok (.bipush 27, 2) := by decide +kernel
set_option maxHeartbeats 16000000 in
set_option maxRecDepth 100000 in
theorem B_return (l : Launch) (G : pT) (h0 : Nat) (a : Nat → Nat) (F : Nat → Int32) (R : Nat → Value) (Z : Int64) (B : Nat → Nat → Int32) (J : Nat → Nat → Int64) (K : PK) (w : va_W) (pq : Nat) (dr : Nat) (ml : Nat) (nd : Nat) (nm : Nat) (cp : Nat) (it : Nat → Nat) (s9 : Nat) (q : Nat) (mq : Nat) (cs : Nat) (vr : Nat) (sz : Nat) (n : Nat) (hd : Nat) (dp : Nat) (rg : Nat) (ls9 : Int32) (lo : Option Nat) (g : Nat → Nat → Nat) (rk : Nat → Nat) (hsz : sz ≤ 5000) (hwp : WPr G K g) (hps : PgT G K g (a 1) pq dr ml nd nm cp it s9) (hrk : RkO K rk) (hcs : cs ≤ 10000) (hvr : vr ≤ 30) (hng : Nng (B 18)) (hmq : K.1 mq = 3) (hqT : K.1 q = 1) (hqL : 1 ≤ g 0 q ∧ g 0 q ≤ n) (hdp : dp ≤ 1000) (hrg : rg ≤ 625) (hhd : hd + 2 * n + 30 ≤ 900 + vr) (hlo : LpO K lo) (ihv : IhV l G n) (hO : OKP G h0 a (upd (upd (upd (upd (upd (upd (upd F 2 (nI sz)) 5 (nI cs)) 6 (nI rg)) 7 (nI hd)) 8 (nI dp)) 12 (nI vr)) 16 ls9) (updR (updR (updR R 2 (.ref pq)) 3 (.ref mq)) 4 (va_rf lo)) Z B J K w) (hl0 : l.stackTraces = false) : PBn l G pX0 yX0_returnStatement cX0_returnStatement 2 none ({ frames := (5 * n + 33), cells := 1, slots := 6, locals := (200 * n + 560) }) [.ref (a 4), .ref q] w (fun (v : Option Value) (u : va_W × (PK × (Nat → Nat → Int32) × Nat × Int32 × Int32 × Int32 × Nat × Nat × Nat × Nat × Int32)) => v = none ∧ (BdE K u.2.1) ∧ (Bth B u.2.2.1) ∧ (u.2.2.2.1 ≤ 10000 ∧ u.2.2.2.2.2.2.2.2.2.2.1 ≤ 625 ∧ u.2.2.2.2.2.2.2.2.2.1 ≤ 1000) ∧ (vr ≤ u.2.2.2.2.2.2.2.1 ∧ u.2.2.2.2.2.2.2.1 ≤ 30 ∧ u.2.2.2.2.2.2.2.2.1 + vr = hd + u.2.2.2.2.2.2.2.1) ∧ (OKP G h0 a (upd (upd (upd (upd (upd (upd (upd (upd (upd (upd F 2 (nI sz)) 5 (nI u.2.2.2.1)) 6 (nI u.2.2.2.2.2.2.2.2.2.2.1)) 7 (nI u.2.2.2.2.2.2.2.2.1)) 8 (nI u.2.2.2.2.2.2.2.2.2.1)) 12 (nI u.2.2.2.2.2.2.2.1)) 13 u.2.2.2.2.1) 14 u.2.2.2.2.2.1) 15 u.2.2.2.2.2.2.1) 16 u.2.2.2.2.2.2.2.2.2.2.2) (updR (updR (updR R 2 (.ref pq)) 3 (.ref mq)) 4 (va_rf lo)) Z u.2.2.1 J u.2.1 u.1)) (fun u => u.1) (fun (u : va_W × (PK × (Nat → Nat → Int32) × Nat × Int32 × Int32 × Int32 × Nat × Nat × Nat × Nat × Int32)) => 0) (fun (u : va_W × (PK × (Nat → Nat → Int32) × Nat × Int32 × Int32 × Int32 × Nat × Nat × Nat × Nat × Int32)) => 0) (fun (u : va_W × (Nat → Int32) × (Nat → Value) × (Nat → Nat → Int32)) => ThQ G h0 a (upd (upd (upd (upd (upd (upd (upd F 2 (nI sz)) 5 (nI cs)) 6 (nI rg)) 7 (nI hd)) 8 (nI dp)) 12 (nI vr)) 16 ls9) (updR (updR (updR R 2 (.ref pq)) 3 (.ref mq)) 4 (va_rf lo)) Z B J u) (fun u => u.1) := by
  intro sz
  refine vx_ofW (cc := cX0_returnStatement) (maxL := 2) (ret := none) (by decide) rfl ?_
  intro p e s m args below meth c s₁ B9 hml hnt hv
  obtain ⟨rfl, hsz, hP, hD0, hE, hX⟩ := hv
  have hx := B9.exec
  have hb := B9.bytes
  have hr := B9.returns
  have hts := atoms_spec (ws := Cond.code yX0_returnStatement cX0_returnStatement 2 none :: pw) B9.pre
  have hq : ∀ w ∈ pw, w.before _ s = true := fun w h => hts w (List.mem_cons_of_mem _ h)
  have hown : s.vm.findClass RX0 = some m.cls := findClass_of_methodNamed B9.named
  have hlocks := B9.notSynchronized
  subst hsz
  have hD := hD0.self (sz := s.heap.size)
  have hA : ∀ q : Nat, s.heap.size ≤ q → va_A w s.heap.size q := fun q h => Or.inr h
  generalize va_A w s.heap.size = A at hD hE hA ⊢
  have hS : va_S A s.heap s.heap [] := va_S.rf
  have hl := lv_entry ([.ref (a 4), .ref q]) (n := 2) (Nat.le_of_ble_eq_true rfl)
  rw [lg_entry_eq]
  generalize (lg_sl ([.ref (a 4), .ref q]) ++ List.replicate (2 - (lg_sl ([.ref (a 4), .ref q])).length) Slot.unset).toArray = ls at hl ⊢
  have hl : lv_has ls 2 [(0, .ref (a 4)), (1, .ref q)] := hl
  have hpg := hps.1
  have hp1 := hpg.1
  have hp2 := hpg.2.1
  have hp3 := hpg.2.2.1
  have hp4 := hpg.2.2.2.1
  have hp5 := hpg.2.2.2.2.1
  have hp6 := hpg.2.2.2.2.2.1
  have hp8 := hpg.2.2.2.2.2.2.2.1
  have hp9 := hpg.2.2.2.2.2.2.2.2
  refine lv_aload_n hx hb dX0_returnStatement_0 rfl (lv_at hl 1 rfl) ?_
  rcases ho2 : K.2.2.1 0 q with _ | o1
  · skip
    refine p_get (v := .null) (C := RX7) (Tc := TX7) (N := 11) (ci := 13) hx hb hq pin_wsX70 hown hE hP hO (by rw [hqT]; decide) (rep_1 hqT) rfl 6 (by decide) (hq _ pw_180) (fun _ h9 => h9) (congrArg (fun z => some (va_rf z)) ho2) dX0_returnStatement_1 ?_
    refine lv_ifnullN (tgt := 33) hx hb dX0_returnStatement_4 (by decide) ?_
    refine lv_aload_n hx hb dX0_returnStatement_33 rfl (lv_at hl 0 rfl) ?_
    refine c_get (v := .ref mq) (C := RX0) (Tc := TX0) (N := 13) (ci := 0) hx hb hq pin_wsX00 hown hE hP hO 24 (sg_24 G h0 a _ _ _ _ _) rfl 7 (by decide) (hq _ pw_72) (fun _ h9 => h9) rfl dX0_returnStatement_34 ?_
    refine p_get (v := .int (K.2.1 10 mq)) (C := RX6) (Tc := TX6) (N := 12) (ci := 12) hx hb hq pin_wsX60 hown hE hP hO (by rw [hmq]; decide) (rep_3 hmq) rfl 7 (by decide) (hq _ pw_172) (fun _ h9 => h9) rfl dX0_returnStatement_37 ?_
    refine lv_bipush (v := 63) hx hb dX0_returnStatement_40 (by decide) ?_
    refine lv_icmp_eq (tgt := 58) hx hb dX0_returnStatement_42 (by decide) (fun c3 => ?_) (fun c3 => ?_)
    · refine lv_aload_n hx hb dX0_returnStatement_58 rfl (lv_at hl 0 rfl) ?_
      refine c_get (v := .ref (a 2)) (C := RX0) (Tc := TX0) (N := 13) (ci := 0) hx hb hq pin_wsX00 hown hE hP hO 24 (sg_24 G h0 a _ _ _ _ _) rfl 1 (by decide) (hq _ pw_5) (fun _ h9 => h9) rfl dX0_returnStatement_59 ?_
      refine lv_aload_n hx hb dX0_returnStatement_62 rfl (lv_at hl 1 rfl) ?_
      refine p_get (v := .null) (C := RX7) (Tc := TX7) (N := 11) (ci := 13) hx hb hq pin_wsX70 hown hE hP hO (by rw [hqT]; decide) (rep_1 hqT) rfl 6 (by decide) (hq _ pw_180) (fun _ h9 => h9) (congrArg (fun z => some (va_rf z)) ho2) dX0_returnStatement_63 ?_
      refine lv_ifnonnullN hx hb dX0_returnStatement_66 ?_
      refine lv_bipush (v := 26) hx hb dX0_returnStatement_69 (by decide) ?_
      refine lv_goto (tgt := 76) hx hb dX0_returnStatement_71 (by decide) ?_
      refine lv_iconst (v := 0) hx hb dX0_returnStatement_76 (by decide) ?_
      refine lv_iconst (v := 0) hx hb dX0_returnStatement_77 (by decide) ?_
      have hO : OKW G h0 a (upd (upd (upd (upd (upd (upd (upd (upd F 2 (nI sz)) 5 (nI cs)) 6 (nI rg)) 7 (nI hd)) 8 (nI dp)) 12 (nI vr)) 16 ls9) 5 (nI cs)) (updR (updR (updR R 2 (.ref pq)) 3 (.ref mq)) 4 (va_rf lo)) Z B J K.1 (fun q99 x99 => x99 = rep G a K q99) w := hO.to rfl
      obtain ⟨_, qr7, hqr8⟩ := hO.2.1 13 _ (sg_13 G h0 a _ _ _ _ _)
      refine pc_V0 (G := G) (As := [.int 26, .int 0, .int (nI 0)]) (rest := []) hx hb hml hown hq hE hX pX0_al hP hD hS hA hl.1 (K_emit l G h0 a (upd (upd (upd (upd (upd (upd (upd F 2 (nI sz)) 5 (nI cs)) 6 (nI rg)) 7 (nI hd)) 8 (nI dp)) 12 (nI vr)) 16 ls9) (updR (updR (updR R 2 (.ref pq)) 3 (.ref mq)) 4 (va_rf lo)) Z B J K.1 (fun q99 x99 => x99 = rep G a K q99) w 26 0 0 cs (by omega) (by omega) hng hO) (gV pw_129 pw_130 pw_131 pw_70 pw_115) hV_X1_emit qr7 1 hqr8 rfl rfl rfl (Nat.le_of_ble_eq_true rfl) dX0_returnStatement_78 ⟨(by show 0 + 0 ≤ 1; omega), (by show 0 + 0 ≤ 6; omega)⟩ ⟨(by show 2 + 1 ≤ (5 * n + 33); omega), (by show 8 + (4 + 11) + 60 ≤ (200 * n + 560); omega)⟩ (fun v6 u4 H locs hw5 hP hD hS => ?_)
      obtain ⟨w, cs9, f10, f11, f12, f13⟩ := u4
      obtain ⟨hw5, h14, h15, hO⟩ := hw5
      have h14 : cs ≤ cs9 ∧ cs9 ≤ cs + 1 ∧ cs9 ≤ 10000 := h14
      have h15 : Nng f12 := h15
      obtain rfl : v6 = none := hw5
      have hO : OKP G h0 a (upd (upd (upd (upd (upd (upd (upd F 2 (nI sz)) 5 (nI cs9)) 6 (nI rg)) 7 (nI hd)) 8 (nI dp)) 12 (nI vr)) 16 ls9) (updR (updR (updR R 2 (.ref pq)) 3 (.ref mq)) 4 (va_rf lo)) Z (updA (updA (updA (updA B 16 f10) 17 f11) 18 f12) 19 f13) J K w := hO.to rfl
      refine W.widen (k := 0) (n := 0) (Nat.le_of_ble_eq_true rfl) (Nat.le_of_ble_eq_true rfl) ?_
      refine W.eq (g2 := F0 m 81 ls []) rfl ?_
      refine lv_aload_n hx hb dX0_returnStatement_81 rfl (lv_at hl 0 rfl) ?_
      refine lv_iconst (v := (-1)) hx hb dX0_returnStatement_82 (by decide) ?_
      refine c_put (v := .int (-1)) (ty := .int) (C := RX0) (Tc := TX0) (N := 13) (ci := 0) hx hb hq pin_wsX00 tyX0 tyX0_ok nmX0 hown hE hP hD hS hO 24 (sg_24 G h0 a _ _ _ _ _) rfl 8 (by decide) (hq _ pw_55) (fun _ h9 => h9) rfl (by decide +kernel) rfl rfl (Nat.le_of_ble_eq_true rfl) (sf_13 G h0 a _ _ _ _ _ (-1)) dX0_returnStatement_83 (fun H locs w hP hD hS hO => ?_)
      refine W_size (fun hz1 hz2 => ?_)
      refine vx_ret ?_
      have hz16 : BdE K K := BdE.rfl
      have hz17 : Bth B (updA (updA (updA (updA B 16 f10) 17 f11) 18 f12) 19 f13) := (show Thx (upd (upd (upd (upd (upd (upd (upd F 2 (nI sz)) 5 (nI cs)) 6 (nI rg)) 7 (nI hd)) 8 (nI dp)) 12 (nI vr)) 16 ls9) (upd (upd (upd (upd (upd (upd (upd (upd (upd F 2 (nI sz)) 5 (nI cs)) 6 (nI rg)) 7 (nI hd)) 8 (nI dp)) 12 (nI vr)) 16 ls9) 5 (nI cs9)) 13 (-1)) B (updA (updA (updA (updA B 16 f10) 17 f11) 18 f12) 19 f13) from (Thx.b (Thx.b8 (Thx.b (Thx.b (Thx.f (Thx.f Thx.rfl (by omega)) (by omega)) (by omega) (by decide)) (by omega) (by decide)) h15) (by omega) (by decide))).2
      have hz18 : cs9 ≤ 10000 ∧ rg ≤ 625 ∧ dp ≤ 1000 := (by omega)
      have hz19 : vr ≤ vr ∧ vr ≤ 30 ∧ hd + vr = hd + vr := (by omega)
      have hO : OKP G h0 a (upd (upd (upd (upd (upd (upd (upd (upd (upd (upd F 2 (nI sz)) 5 (nI cs9)) 6 (nI rg)) 7 (nI hd)) 8 (nI dp)) 12 (nI vr)) 13 ((-1) : Int32)) 14 (F 14)) 15 (F 15)) 16 ls9) (updR (updR (updR R 2 (.ref pq)) 3 (.ref mq)) 4 (va_rf lo)) Z (updA (updA (updA (updA B 16 f10) 17 f11) 18 f12) 19 f13) J K w := hO.to rfl
      refine W.widen (k := 1) (n := 6) (by omega) (by omega) ?_
      have hzz1 : H.size ≤ s.heap.size + (0) := (by have z : 0 ≤ 0 := (by omega); omega)
      have hzz2 : hSl H ≤ hSl s.heap + (0) := (by have z : 0 ≤ 0 := (by omega); omega)
      exact W.vret hx hb hr (fun t99 ht99 hW99 => ⟨⟨_, (w, (K, (updA (updA (updA (updA B 16 f10) 17 f11) 18 f12) 19 f13), cs9, ((-1) : Int32), (F 14), (F 15), vr, hd, dp, rg, ls9)), rfl, ⟨rfl, hz16, hz17, hz18, hz19, hO⟩, by rw [ht99]; exact hP, hD, by rw [ht99]; exact hzz1, by rw [ht99]; exact hzz2⟩, hS.F ht99⟩) hS.2.2 dX0_returnStatement_86
    · refine lv_aload_n hx hb dX0_returnStatement_45 rfl (lv_at hl 0 rfl) ?_
      refine c_get (v := .ref (a 1)) (C := RX0) (Tc := TX0) (N := 13) (ci := 0) hx hb hq pin_wsX00 hown hE hP hO 24 (sg_24 G h0 a _ _ _ _ _) rfl 0 (by decide) (hq _ pw_4) (fun _ h9 => h9) rfl dX0_returnStatement_46 ?_
      refine lv_bipush (v := 11) hx hb dX0_returnStatement_49 (by decide) ?_
      refine lv_aload_n hx hb dX0_returnStatement_51 rfl (lv_at hl 1 rfl) ?_
      refine p_get (v := .int (K.2.1 1 q)) (C := RX7) (Tc := TX7) (N := 11) (ci := 13) hx hb hq pin_wsX70 hown hE hP hO (by rw [hqT]; decide) (rep_1 hqT) rfl 1 (by decide) (hq _ pw_81) (fun _ h9 => h9) rfl dX0_returnStatement_52 ?_
      have hO : OKW G h0 a (upd (upd (upd (upd (upd (upd (upd (upd F 2 (nI sz)) 5 (nI cs)) 6 (nI rg)) 7 (nI hd)) 8 (nI dp)) 12 (nI vr)) 16 ls9) 2 (nI sz)) (updR (updR (updR R 2 (.ref pq)) 3 (.ref mq)) 4 (va_rf lo)) Z B J K.1 (fun q99 x99 => x99 = rep G a K q99) w := hO.to rfl
      obtain ⟨_, qr23, hqr24⟩ := hO.2.1 2 _ (sg_2 G h0 a _ _ _ _ _)
      refine pn_V0 (G := G) (As := [.int 11, .int (K.2.1 1 q)]) (rest := []) hx hb hml hown hq hE hX pX0_al hP hD hS hA hl.1 (K_fail l G h0 a (upd (upd (upd (upd (upd (upd (upd F 2 (nI sz)) 5 (nI cs)) 6 (nI rg)) 7 (nI hd)) 8 (nI dp)) 12 (nI vr)) 16 ls9) (updR (updR (updR R 2 (.ref pq)) 3 (.ref mq)) 4 (va_rf lo)) Z B J K.1 (fun q99 x99 => x99 = rep G a K q99) w 11 (K.2.1 1 q) sz (by omega) hO hl0) (gV pw_64 pw_65 pw_66 pw_59 pw_43) hV_X10_fail qr23 7 hqr24 rfl rfl rfl (Nat.le_of_ble_eq_true rfl) dX0_returnStatement_55 ⟨(by show 0 + 1 ≤ 1; omega), (by show 0 + 6 ≤ 6; omega)⟩ ⟨(by show 6 + 1 ≤ (5 * n + 33); omega), (by show 8 + (3 + 11) + 100 ≤ (200 * n + 560); omega)⟩ (fun v22 u20 H locs hw21 hP hD hS => hw21.elim) (fun ux ce9 q9 H9 locs9 hux hP9 hD9 hS9 hce hcv hcl => pb_out ux (ThQ.up (Thx.same Thx.rfl rfl) RhX.rfl hux) hnt hlocks hce hcv hcl hP9 hD9 hS9 (by show 0 + 1 ≤ 1; omega) (by show 0 + 6 ≤ 6; omega))
  · have hcz := (hwp.1 q hqT hqL.1).2.1 0 o1 (by decide) ho2
    have hcT := hcz.1
    have hcv : 1 ≤ g 0 o1 ∧ g 0 o1 + 1 ≤ n := ⟨hcz.2.1, (by have z := hcz.2.2.1; omega)⟩
    refine p_get (v := .ref o1) (C := RX7) (Tc := TX7) (N := 11) (ci := 13) hx hb hq pin_wsX70 hown hE hP hO (by rw [hqT]; decide) (rep_1 hqT) rfl 6 (by decide) (hq _ pw_180) (fun _ h9 => h9) (congrArg (fun z => some (va_rf z)) ho2) dX0_returnStatement_1 ?_
    refine lv_ifnull hx hb dX0_returnStatement_4 ?_
    refine lv_aload_n hx hb dX0_returnStatement_7 rfl (lv_at hl 0 rfl) ?_
    refine lv_aload_n hx hb dX0_returnStatement_8 rfl (lv_at hl 1 rfl) ?_
    refine p_get (v := .ref o1) (C := RX7) (Tc := TX7) (N := 11) (ci := 13) hx hb hq pin_wsX70 hown hE hP hO (by rw [hqT]; decide) (rep_1 hqT) rfl 6 (by decide) (hq _ pw_180) (fun _ h9 => h9) (congrArg (fun z => some (va_rf z)) ho2) dX0_returnStatement_9 ?_
    refine lv_aload_n hx hb dX0_returnStatement_12 rfl (lv_at hl 0 rfl) ?_
    refine lv_aload_n hx hb dX0_returnStatement_13 rfl (lv_at hl 1 rfl) ?_
    refine p_get (v := .ref o1) (C := RX7) (Tc := TX7) (N := 11) (ci := 13) hx hb hq pin_wsX70 hown hE hP hO (by rw [hqT]; decide) (rep_1 hqT) rfl 6 (by decide) (hq _ pw_180) (fun _ h9 => h9) (congrArg (fun z => some (va_rf z)) ho2) dX0_returnStatement_14 ?_
    have hO : OKP G h0 a (upd (upd (upd (upd (upd (upd (upd (upd (upd (upd F 2 (nI sz)) 5 (nI cs)) 6 (nI rg)) 7 (nI hd)) 8 (nI dp)) 12 (nI vr)) 16 ls9) 2 (nI sz)) 5 (nI cs)) 12 (nI vr)) (updR (updR (updR (updR (updR R 2 (.ref pq)) 3 (.ref mq)) 4 (va_rf lo)) 2 (.ref pq)) 3 (.ref mq)) Z B J K w := hO.to rfl
    obtain ⟨_, qr28, hqr29⟩ := hO.2.1 24 _ (sg_24 G h0 a _ _ _ _ _)
    refine pn_V0 (G := G) (As := [.ref o1]) (rest := [.ref o1, .ref (a 4)]) hx hb hml hown hq hE hX pX0_al hP hD hS hA hl.1 ((ihv (by omega)) h0 a (upd (upd (upd (upd (upd (upd (upd F 2 (nI sz)) 5 (nI cs)) 6 (nI rg)) 7 (nI hd)) 8 (nI dp)) 12 (nI vr)) 16 ls9) (updR (updR (updR R 2 (.ref pq)) 3 (.ref mq)) 4 (va_rf lo)) Z B J K w pq dr ml nd nm cp it s9 o1 mq cs vr sz g rk (by omega) (BdE.wp BdE.rfl hwp) (BdE.pt BdE.rfl hwp hps) (BdE.rko BdE.rfl hrk) (by omega) (by omega) hng hmq hcT ⟨hcv.1, (by have z9 := hcv; omega)⟩ hO hl0) (gV pw_173 pw_174 pw_175 pw_63 pw_224) hV_X0_value qr28 0 hqr29 rfl rfl rfl (Nat.le_of_ble_eq_true rfl) dX0_returnStatement_17 ⟨(by show 0 + 1 ≤ 1; omega), (by show 0 + 6 ≤ 6; omega)⟩ ⟨(by show (5 * (n - 1) + 34) + 1 ≤ (5 * n + 33); omega), (by show 8 + (3 + 11) + (200 * (n - 1) + 600) ≤ (200 * n + 560); omega)⟩ (fun v27 u25 H locs hw26 hP hD hS => ?_) (fun ux ce9 q9 H9 locs9 hux hP9 hD9 hS9 hce hcv hcl => pb_out ux (ThQ.up (Thx.same (Thx.same (Thx.same Thx.rfl rfl) rfl) rfl) (show RhX (updR (updR (updR R 2 (.ref pq)) 3 (.ref mq)) 4 (va_rf lo)) (updR (updR (updR (updR (updR R 2 (.ref pq)) 3 (.ref mq)) 4 (va_rf lo)) 2 (.ref pq)) 3 (.ref mq)) from fun k9 hk9 => by unfold updR; simp only [show ¬ k9 = 1 by omega, show ¬ k9 = 2 by omega, show ¬ k9 = 3 by omega, show ¬ k9 = 4 by omega, if_false]) hux) hnt hlocks hce hcv hcl hP9 hD9 hS9 (by show 0 + 1 ≤ 1; omega) (by show 0 + 6 ≤ 6; omega))
    obtain ⟨w, K30, B31, cs32, as33, wt34, wf35, r36⟩ := u25
    obtain ⟨hw26, h37, h38, h39, hO⟩ := hw26
    have h37 : BdE K K30 := h37
    have h38 : Bth B B31 := h38
    have h39 : cs32 ≤ 10000 := h39
    obtain rfl : v27 = some (.int r36) := hw26
    have hf40 : K30.1 pq = 7 := (BdE.T h37 hp1 (by decide))
    have hf41 : K30.2.2.1 18 pq = some (a 1) := (BdE.C h37 (by rw [hp1]; decide) 18).trans hp2
    have hf42 : K30.2.2.1 14 pq = some dr := (BdE.C h37 (by rw [hp1]; decide) 14).trans hp3
    have hf43 : K30.1 dr = 8 := (BdE.T h37 hp4 (by decide))
    have hf44 : K30.2.2.1 15 pq = some ml := (BdE.C h37 (by rw [hp1]; decide) 15).trans hp5
    have hf45 : K30.1 ml = 5 := (BdE.T h37 hp6 (by decide))
    have hf46 : K30.2.1 24 pq = (nI nd) := (BdE.I h37 (by rw [hp1]; decide) (by decide) (by decide)).trans hp8
    have hf47 : K30.1 q = 1 := (BdE.T h37 hqT (by decide))
    have hf48 : K30.1 mq = 3 := (BdE.T h37 hmq (by decide))
    have hf49 : K30.2.2.1 0 q = some o1 := (BdE.C h37 (by rw [hqT]; decide) 0).trans ho2
    have hf50 : K30.1 o1 = 1 := (BdE.T h37 hcT (by decide))
    have hO : OKP G h0 a (upd (upd (upd (upd (upd (upd (upd (upd (upd (upd F 2 (nI sz)) 5 (nI cs32)) 6 (nI rg)) 7 (nI hd)) 8 (nI dp)) 12 (nI vr)) 13 as33) 14 wt34) 15 wf35) 16 ls9) (updR (updR (updR R 2 (.ref pq)) 3 (.ref mq)) 4 (va_rf lo)) Z B31 J K30 w := hO.to rfl
    refine W.widen (k := 0) (n := 0) (by show 0 + 0 ≤ 0; omega) (by show 0 + 0 ≤ 0; omega) ?_
    refine W.eq (g2 := F0 m 20 ls [.int r36, .ref o1, .ref (a 4)]) rfl ?_
    have hbe51 := BdE.trans BdE.rfl h37
    have hbb52 : Bth B B31 := Bth.trans (show Thx (upd (upd (upd (upd (upd (upd (upd F 2 (nI sz)) 5 (nI cs)) 6 (nI rg)) 7 (nI hd)) 8 (nI dp)) 12 (nI vr)) 16 ls9) (upd (upd (upd (upd (upd (upd (upd F 2 (nI sz)) 5 (nI cs)) 6 (nI rg)) 7 (nI hd)) 8 (nI dp)) 12 (nI vr)) 16 ls9) B B from Thx.rfl).2 h38
    have hng53 : Nng (B31 18) := h38.2 hng
    refine lv_aload_n hx hb dX0_returnStatement_20 rfl (lv_at hl 0 rfl) ?_
    refine c_get (v := .ref mq) (C := RX0) (Tc := TX0) (N := 13) (ci := 0) hx hb hq pin_wsX00 hown hE hP hO 24 (sg_24 G h0 a _ _ _ _ _) rfl 7 (by decide) (hq _ pw_72) (fun _ h9 => h9) rfl dX0_returnStatement_21 ?_
    refine p_get (v := .int (K30.2.1 10 mq)) (C := RX6) (Tc := TX6) (N := 12) (ci := 12) hx hb hq pin_wsX60 hown hE hP hO (by rw [hf48]; decide) (rep_3 hf48) rfl 7 (by decide) (hq _ pw_172) (fun _ h9 => h9) rfl dX0_returnStatement_24 ?_
    have hO : OKP G h0 a (upd (upd (upd (upd (upd (upd (upd (upd (upd (upd (upd (upd F 2 (nI sz)) 5 (nI cs)) 6 (nI rg)) 7 (nI hd)) 8 (nI dp)) 12 (nI vr)) 16 ls9) 5 (nI cs32)) 13 as33) 14 wt34) 15 wf35) 2 (nI sz)) (updR (updR (updR (updR R 2 (.ref pq)) 3 (.ref mq)) 4 (va_rf lo)) 2 (.ref pq)) Z B31 J K30 w := hO.to rfl
    obtain ⟨_, qr57, hqr58⟩ := hO.2.1 24 _ (sg_24 G h0 a _ _ _ _ _)
    refine pn_V0 (G := G) (As := [.ref o1, .int r36, .int (K30.2.1 10 mq)]) (rest := []) hx hb hml hown hq hE hX pX0_al hP hD hS hA hl.1 (B_fit l G h0 a (upd (upd (upd (upd (upd (upd (upd (upd (upd (upd (upd F 2 (nI sz)) 5 (nI cs)) 6 (nI rg)) 7 (nI hd)) 8 (nI dp)) 12 (nI vr)) 16 ls9) 5 (nI cs32)) 13 as33) 14 wt34) 15 wf35) (updR (updR (updR R 2 (.ref pq)) 3 (.ref mq)) 4 (va_rf lo)) Z B31 J K30 w pq dr ml nd o1 sz r36 (K30.2.1 10 mq) g (by omega) (BdE.pt hbe51 hwp hps).1 (BdE.pt hbe51 hwp hps).2.1 hf50 hO hl0) (gV pw_176 pw_177 pw_178 pw_63 pw_114) hV_X0_fit qr57 0 hqr58 rfl rfl rfl (Nat.le_of_ble_eq_true rfl) dX0_returnStatement_27 ⟨(by show 0 + 1 ≤ 1; omega), (by show 0 + 6 ≤ 6; omega)⟩ ⟨(by show 7 + 1 ≤ (5 * n + 33); omega), (by show 8 + (4 + 11) + 122 ≤ (200 * n + 560); omega)⟩ (fun v56 u54 H locs hw55 hP hD hS => ?_) (fun ux ce9 q9 H9 locs9 hux hP9 hD9 hS9 hce hcv hcl => pb_out ux (ThQ.up (Thx.same (Thx.f (Thx.f (Thx.f (Thx.f (Bth.thx hbb52) (by omega)) (by omega)) (by omega)) (by omega)) rfl) (show RhX (updR (updR (updR R 2 (.ref pq)) 3 (.ref mq)) 4 (va_rf lo)) (updR (updR (updR (updR R 2 (.ref pq)) 3 (.ref mq)) 4 (va_rf lo)) 2 (.ref pq)) from fun k9 hk9 => by unfold updR; simp only [show ¬ k9 = 1 by omega, show ¬ k9 = 2 by omega, show ¬ k9 = 3 by omega, show ¬ k9 = 4 by omega, if_false]) hux) hnt hlocks hce hcv hcl hP9 hD9 hS9 (by show 0 + 1 ≤ 1; omega) (by show 0 + 6 ≤ 6; omega))
    obtain ⟨w, _⟩ := u54
    obtain ⟨hw55, hO⟩ := hw55
    obtain rfl : v56 = none := hw55
    have hO : OKP G h0 a (upd (upd (upd (upd (upd (upd (upd (upd (upd (upd F 2 (nI sz)) 5 (nI cs32)) 6 (nI rg)) 7 (nI hd)) 8 (nI dp)) 12 (nI vr)) 13 as33) 14 wt34) 15 wf35) 16 ls9) (updR (updR (updR R 2 (.ref pq)) 3 (.ref mq)) 4 (va_rf lo)) Z B31 J K30 w := hO.to rfl
    refine W.widen (k := 0) (n := 0) (by show 0 + 0 ≤ 0; omega) (by show 0 + 0 ≤ 0; omega) ?_
    refine W.eq (g2 := F0 m 30 ls []) rfl ?_
    refine lv_goto (tgt := 58) hx hb dX0_returnStatement_30 (by decide) ?_
    refine lv_aload_n hx hb dX0_returnStatement_58 rfl (lv_at hl 0 rfl) ?_
    refine c_get (v := .ref (a 2)) (C := RX0) (Tc := TX0) (N := 13) (ci := 0) hx hb hq pin_wsX00 hown hE hP hO 24 (sg_24 G h0 a _ _ _ _ _) rfl 1 (by decide) (hq _ pw_5) (fun _ h9 => h9) rfl dX0_returnStatement_59 ?_
    refine lv_aload_n hx hb dX0_returnStatement_62 rfl (lv_at hl 1 rfl) ?_
    refine p_get (v := .ref o1) (C := RX7) (Tc := TX7) (N := 11) (ci := 13) hx hb hq pin_wsX70 hown hE hP hO (by rw [hf47]; decide) (rep_1 hf47) rfl 6 (by decide) (hq _ pw_180) (fun _ h9 => h9) (congrArg (fun z => some (va_rf z)) hf49) dX0_returnStatement_63 ?_
    refine lv_ifnonnull (tgt := 74) hx hb dX0_returnStatement_66 (by decide) ?_
    refine lv_bipush (v := 27) hx hb dX0_returnStatement_74 (by decide) ?_
    refine lv_iconst (v := 0) hx hb dX0_returnStatement_76 (by decide) ?_
    refine lv_iconst (v := 0) hx hb dX0_returnStatement_77 (by decide) ?_
    have hO : OKW G h0 a (upd (upd (upd (upd (upd (upd (upd (upd (upd (upd (upd F 2 (nI sz)) 5 (nI cs32)) 6 (nI rg)) 7 (nI hd)) 8 (nI dp)) 12 (nI vr)) 13 as33) 14 wt34) 15 wf35) 16 ls9) 5 (nI cs32)) (updR (updR (updR R 2 (.ref pq)) 3 (.ref mq)) 4 (va_rf lo)) Z B31 J K30.1 (fun q99 x99 => x99 = rep G a K30 q99) w := hO.to rfl
    obtain ⟨_, qr62, hqr63⟩ := hO.2.1 13 _ (sg_13 G h0 a _ _ _ _ _)
    refine pc_V0 (G := G) (As := [.int 27, .int 0, .int (nI 0)]) (rest := []) hx hb hml hown hq hE hX pX0_al hP hD hS hA hl.1 (K_emit l G h0 a (upd (upd (upd (upd (upd (upd (upd (upd (upd (upd F 2 (nI sz)) 5 (nI cs32)) 6 (nI rg)) 7 (nI hd)) 8 (nI dp)) 12 (nI vr)) 13 as33) 14 wt34) 15 wf35) 16 ls9) (updR (updR (updR R 2 (.ref pq)) 3 (.ref mq)) 4 (va_rf lo)) Z B31 J K30.1 (fun q99 x99 => x99 = rep G a K30 q99) w 27 0 0 cs32 (by omega) (by omega) hng53 hO) (gV pw_129 pw_130 pw_131 pw_70 pw_115) hV_X1_emit qr62 1 hqr63 rfl rfl rfl (Nat.le_of_ble_eq_true rfl) dX0_returnStatement_78 ⟨(by show 0 + 0 ≤ 1; omega), (by show 0 + 0 ≤ 6; omega)⟩ ⟨(by show 2 + 1 ≤ (5 * n + 33); omega), (by show 8 + (4 + 11) + 60 ≤ (200 * n + 560); omega)⟩ (fun v61 u59 H locs hw60 hP hD hS => ?_)
    obtain ⟨w, cs64, f65, f66, f67, f68⟩ := u59
    obtain ⟨hw60, h69, h70, hO⟩ := hw60
    have h69 : cs32 ≤ cs64 ∧ cs64 ≤ cs32 + 1 ∧ cs64 ≤ 10000 := h69
    have h70 : Nng f67 := h70
    obtain rfl : v61 = none := hw60
    have hO : OKP G h0 a (upd (upd (upd (upd (upd (upd (upd (upd (upd (upd F 2 (nI sz)) 5 (nI cs64)) 6 (nI rg)) 7 (nI hd)) 8 (nI dp)) 12 (nI vr)) 13 as33) 14 wt34) 15 wf35) 16 ls9) (updR (updR (updR R 2 (.ref pq)) 3 (.ref mq)) 4 (va_rf lo)) Z (updA (updA (updA (updA B31 16 f65) 17 f66) 18 f67) 19 f68) J K30 w := hO.to rfl
    refine W.widen (k := 0) (n := 0) (Nat.le_of_ble_eq_true rfl) (Nat.le_of_ble_eq_true rfl) ?_
    refine W.eq (g2 := F0 m 81 ls []) rfl ?_
    refine lv_aload_n hx hb dX0_returnStatement_81 rfl (lv_at hl 0 rfl) ?_
    refine lv_iconst (v := (-1)) hx hb dX0_returnStatement_82 (by decide) ?_
    refine c_put (v := .int (-1)) (ty := .int) (C := RX0) (Tc := TX0) (N := 13) (ci := 0) hx hb hq pin_wsX00 tyX0 tyX0_ok nmX0 hown hE hP hD hS hO 24 (sg_24 G h0 a _ _ _ _ _) rfl 8 (by decide) (hq _ pw_55) (fun _ h9 => h9) rfl (by decide +kernel) rfl rfl (Nat.le_of_ble_eq_true rfl) (sf_13 G h0 a _ _ _ _ _ (-1)) dX0_returnStatement_83 (fun H locs w hP hD hS hO => ?_)
    refine W_size (fun hz1 hz2 => ?_)
    refine vx_ret ?_
    have hz71 : BdE K K30 := hbe51
    have hz72 : Bth B (updA (updA (updA (updA B31 16 f65) 17 f66) 18 f67) 19 f68) := (show Thx (upd (upd (upd (upd (upd (upd (upd F 2 (nI sz)) 5 (nI cs)) 6 (nI rg)) 7 (nI hd)) 8 (nI dp)) 12 (nI vr)) 16 ls9) (upd (upd (upd (upd (upd (upd (upd (upd (upd (upd (upd F 2 (nI sz)) 5 (nI cs)) 6 (nI rg)) 7 (nI hd)) 8 (nI dp)) 12 (nI vr)) 16 ls9) 5 (nI cs64)) 13 (-1)) 14 wt34) 15 wf35) B (updA (updA (updA (updA B31 16 f65) 17 f66) 18 f67) 19 f68) from (Thx.b (Thx.b8 (Thx.b (Thx.b (Thx.f (Thx.f (Thx.f (Thx.f (Bth.thx hbb52) (by omega)) (by omega)) (by omega)) (by omega)) (by omega) (by decide)) (by omega) (by decide)) h70) (by omega) (by decide))).2
    have hz73 : cs64 ≤ 10000 ∧ rg ≤ 625 ∧ dp ≤ 1000 := (by omega)
    have hz74 : vr ≤ vr ∧ vr ≤ 30 ∧ hd + vr = hd + vr := (by omega)
    have hO : OKP G h0 a (upd (upd (upd (upd (upd (upd (upd (upd (upd (upd F 2 (nI sz)) 5 (nI cs64)) 6 (nI rg)) 7 (nI hd)) 8 (nI dp)) 12 (nI vr)) 13 ((-1) : Int32)) 14 wt34) 15 wf35) 16 ls9) (updR (updR (updR R 2 (.ref pq)) 3 (.ref mq)) 4 (va_rf lo)) Z (updA (updA (updA (updA B31 16 f65) 17 f66) 18 f67) 19 f68) J K30 w := hO.to rfl
    refine W.widen (k := 1) (n := 6) (by omega) (by omega) ?_
    have hzz1 : H.size ≤ s.heap.size + (0) := (by have z : 0 ≤ 0 := (by omega); omega)
    have hzz2 : hSl H ≤ hSl s.heap + (0) := (by have z : 0 ≤ 0 := (by omega); omega)
    exact W.vret hx hb hr (fun t99 ht99 hW99 => ⟨⟨_, (w, (K30, (updA (updA (updA (updA B31 16 f65) 17 f66) 18 f67) 19 f68), cs64, ((-1) : Int32), wt34, wf35, vr, hd, dp, rg, ls9)), rfl, ⟨rfl, hz71, hz72, hz73, hz74, hO⟩, by rw [ht99]; exact hP, hD, by rw [ht99]; exact hzz1, by rw [ht99]; exact hzz2⟩, hS.F ht99⟩) hS.2.2 dX0_returnStatement_86
theorem dX0_assign_0 : decode cX0_assign 0 = .ok (.aload_n 1, 1) := by decide +kernel
theorem dX0_assign_1 : decode cX0_assign 1 = .ok (.getfield 178, 3) := by decide +kernel
theorem dX0_assign_4 : decode cX0_assign 4 = .ok (.iconst 5, 1) := by decide +kernel
theorem dX0_assign_5 : decode cX0_assign 5 = .ok (.if_icmp .ne 21, 3) := by decide +kernel
theorem dX0_assign_26 : decode cX0_assign 26 = .ok (.iconst (-1), 1) := by decide +kernel
theorem dX0_assign_27 : decode cX0_assign 27 = .ok (.istore_n 3, 1) := by decide +kernel
theorem dX0_assign_28 : decode cX0_assign 28 = .ok (.iload_n 3, 1) := by decide +kernel
theorem dX0_assign_29 : decode cX0_assign 29 = .ok (.iconst (-1), 1) := by decide +kernel
theorem dX0_assign_30 : decode cX0_assign 30 = .ok (.if_icmp .eq 49, 3) := by decide +kernel
theorem dX0_assign_79 : decode cX0_assign 79 = .ok (.aload_n 1, 1) := by decide +kernel
theorem dX0_assign_80 : decode cX0_assign 80 = .ok (.getfield 178, 3) := by decide +kernel
theorem dX0_assign_83 : decode cX0_assign 83 = .ok (.bipush 14, 2) := by decide +kernel
theorem dX0_assign_85 : decode cX0_assign 85 = .ok (.if_icmp .ne 36, 3) := by decide +kernel
theorem dX0_assign_121 : decode cX0_assign 121 = .ok (.aload_n 1, 1) := by decide +kernel
theorem dX0_assign_122 : decode cX0_assign 122 = .ok (.getfield 178, 3) := by decide +kernel
theorem dX0_assign_125 : decode cX0_assign 125 = .ok (.iconst 5, 1) := by decide +kernel
theorem dX0_assign_126 : decode cX0_assign 126 = .ok (.if_icmp .ne 11, 3) := by decide +kernel
theorem dX0_assign_137 : decode cX0_assign 137 = .ok (.aload_n 0, 1) := by decide +kernel
theorem dX0_assign_138 : decode cX0_assign 138 = .ok (.aload_n 1, 1) := by decide +kernel
theorem dX0_assign_139 : decode cX0_assign 139 = .ok (.invokevirtual 223, 3) := by decide +kernel
theorem dX0_assign_142 : decode cX0_assign 142 = .ok (.istore 4, 2) := by decide +kernel
theorem dX0_assign_144 : decode cX0_assign 144 = .ok (.aload_n 0, 1) := by decide +kernel
theorem dX0_assign_145 : decode cX0_assign 145 = .ok (.aload_n 2, 1) := by decide +kernel
theorem dX0_assign_146 : decode cX0_assign 146 = .ok (.aload_n 0, 1) := by decide +kernel
theorem dX0_assign_147 : decode cX0_assign 147 = .ok (.aload_n 2, 1) := by decide +kernel
theorem dX0_assign_148 : decode cX0_assign 148 = .ok (.invokevirtual 209, 3) := by decide +kernel
theorem dX0_assign_151 : decode cX0_assign 151 = .ok (.iload 4, 2) := by decide +kernel
theorem dX0_assign_153 : decode cX0_assign 153 = .ok (.invokevirtual 213, 3) := by decide +kernel
theorem dX0_assign_156 : decode cX0_assign 156 = .ok (.aload_n 0, 1) := by decide +kernel
theorem dX0_assign_157 : decode cX0_assign 157 = .ok (.getfield 15, 3) := by decide +kernel
theorem dX0_assign_160 : decode cX0_assign 160 = .ok (.bipush 18, 2) := by decide +kernel
theorem dX0_assign_162 : decode cX0_assign 162 = .ok (.aload_n 1, 1) := by decide +kernel
theorem dX0_assign_163 : decode cX0_assign 163 = .ok (.getfield 226, 3) := by decide +kernel
theorem dX0_assign_166 : decode cX0_assign 166 = .ok (.iconst 0, 1) := by decide +kernel
theorem dX0_assign_167 : decode cX0_assign 167 = .ok (.invokevirtual 140, 3) := by decide +kernel
theorem dX0_assign_170 : decode cX0_assign 170 = .ok (.return_, 1) := by decide +kernel
theorem dX0_assign_129 : decode cX0_assign 129 = .ok (.aload_n 0, 1) := by decide +kernel
theorem dX0_assign_130 : decode cX0_assign 130 = .ok (.aload_n 1, 1) := by decide +kernel
theorem dX0_assign_131 : decode cX0_assign 131 = .ok (.invokevirtual 220, 3) := by decide +kernel
theorem dX0_assign_134 : decode cX0_assign 134 = .ok (.goto 8, 3) := by decide +kernel
theorem dX0_assign_88 : decode cX0_assign 88 = .ok (.aload_n 0, 1) := by decide +kernel
theorem dX0_assign_89 : decode cX0_assign 89 = .ok (.aload_n 1, 1) := by decide +kernel
theorem dX0_assign_90 : decode cX0_assign 90 = .ok (.invokevirtual 217, 3) := by decide +kernel
theorem dX0_assign_93 : decode cX0_assign 93 = .ok (.istore 4, 2) := by decide +kernel
theorem dX0_assign_95 : decode cX0_assign 95 = .ok (.aload_n 0, 1) := by decide +kernel
theorem dX0_assign_96 : decode cX0_assign 96 = .ok (.aload_n 2, 1) := by decide +kernel
theorem dX0_assign_97 : decode cX0_assign 97 = .ok (.aload_n 0, 1) := by decide +kernel
theorem dX0_assign_98 : decode cX0_assign 98 = .ok (.aload_n 2, 1) := by decide +kernel
theorem dX0_assign_99 : decode cX0_assign 99 = .ok (.invokevirtual 209, 3) := by decide +kernel
theorem dX0_assign_102 : decode cX0_assign 102 = .ok (.iload 4, 2) := by decide +kernel
theorem dX0_assign_104 : decode cX0_assign 104 = .ok (.invokevirtual 213, 3) := by decide +kernel
theorem dX0_assign_107 : decode cX0_assign 107 = .ok (.aload_n 0, 1) := by decide +kernel
theorem dX0_assign_108 : decode cX0_assign 108 = .ok (.getfield 15, 3) := by decide +kernel
theorem dX0_assign_111 : decode cX0_assign 111 = .ok (.bipush 20, 2) := by decide +kernel
theorem dX0_assign_113 : decode cX0_assign 113 = .ok (.iconst 0, 1) := by decide +kernel
theorem dX0_assign_114 : decode cX0_assign 114 = .ok (.iconst 0, 1) := by decide +kernel
theorem dX0_assign_115 : decode cX0_assign 115 = .ok (.invokevirtual 140, 3) := by decide +kernel
theorem dX0_assign_118 : decode cX0_assign 118 = .ok (.goto 52, 3) := by decide +kernel
theorem dX0_assign_8 : decode cX0_assign 8 = .ok (.aload_n 0, 1) := by decide +kernel
theorem dX0_assign_9 : decode cX0_assign 9 = .ok (.aload_n 0, 1) := by decide +kernel
theorem dX0_assign_10 : decode cX0_assign 10 = .ok (.getfield 9, 3) := by decide +kernel
theorem dX0_assign_13 : decode cX0_assign 13 = .ok (.aload_n 1, 1) := by decide +kernel
theorem dX0_assign_14 : decode cX0_assign 14 = .ok (.getfield 114, 3) := by decide +kernel
theorem dX0_assign_17 : decode cX0_assign 17 = .ok (.invokevirtual 152, 3) := by decide +kernel
theorem dX0_assign_20 : decode cX0_assign 20 = .ok (.invokevirtual 155, 3) := by decide +kernel
theorem dX0_assign_23 : decode cX0_assign 23 = .ok (.goto 4, 3) := by decide +kernel
theorem dX0_assign_33 : decode cX0_assign 33 = .ok (.aload_n 0, 1) := by decide +kernel
theorem dX0_assign_34 : decode cX0_assign 34 = .ok (.aload_n 2, 1) := by decide +kernel
theorem dX0_assign_35 : decode cX0_assign 35 = .ok (.aload_n 0, 1) := by decide +kernel
theorem dX0_assign_36 : decode cX0_assign 36 = .ok (.aload_n 2, 1) := by decide +kernel
theorem dX0_assign_37 : decode cX0_assign 37 = .ok (.invokevirtual 209, 3) := by decide +kernel
theorem dX0_assign_40 : decode cX0_assign 40 = .ok (.aload_n 0, 1) := by decide +kernel
theorem dX0_assign_41 : decode cX0_assign 41 = .ok (.getfield 23, 3) := by decide +kernel
theorem dX0_assign_44 : decode cX0_assign 44 = .ok (.iload_n 3, 1) := by decide +kernel
theorem dX0_assign_45 : decode cX0_assign 45 = .ok (.iaload, 1) := by decide +kernel
theorem dX0_assign_46 : decode cX0_assign 46 = .ok (.invokevirtual 213, 3) := by decide +kernel
theorem dX0_assign_49 : decode cX0_assign 49 = .ok (.aload_n 0, 1) := by decide +kernel
theorem dX0_assign_50 : decode cX0_assign 50 = .ok (.getfield 15, 3) := by decide +kernel
theorem dX0_assign_53 : decode cX0_assign 53 = .ok (.iconst 3, 1) := by decide +kernel
theorem dX0_assign_54 : decode cX0_assign 54 = .ok (.aload_n 0, 1) := by decide +kernel
theorem dX0_assign_55 : decode cX0_assign 55 = .ok (.getfield 26, 3) := by decide +kernel
theorem dX0_assign_58 : decode cX0_assign 58 = .ok (.iload_n 3, 1) := by decide +kernel
theorem dX0_assign_59 : decode cX0_assign 59 = .ok (.iaload, 1) := by decide +kernel
theorem dX0_assign_60 : decode cX0_assign 60 = .ok (.iconst 0, 1) := by decide +kernel
theorem dX0_assign_61 : decode cX0_assign 61 = .ok (.invokevirtual 140, 3) := by decide +kernel
theorem dX0_assign_64 : decode cX0_assign 64 = .ok (.aload_n 0, 1) := by decide +kernel
theorem dX0_assign_65 : decode cX0_assign 65 = .ok (.dup, 1) := by decide +kernel
theorem dX0_assign_66 : decode cX0_assign 66 = .ok (.getfield 94, 3) := by decide +kernel
theorem dX0_assign_69 : decode cX0_assign 69 = .ok (.iconst 1, 1) := by decide +kernel
theorem dX0_assign_70 : decode cX0_assign 70 = .ok (.iload_n 3, 1) := by decide +kernel
theorem dX0_assign_71 : decode cX0_assign 71 = .ok (.ishl, 1) := by decide +kernel
theorem dX0_assign_72 : decode cX0_assign 72 = .ok (.ior, 1) := by decide +kernel
theorem dX0_assign_73 : decode cX0_assign 73 = .ok (.putfield 94, 3) := by decide +kernel
theorem dX0_assign_76 : decode cX0_assign 76 = .ok (.goto 94, 3) := by decide +kernel
theorem hV_X0_ownField : yX0_ownField.cls = RX0 ∧ yX0_ownField.cls ≠ "java/lang/invoke/MethodHandle" ∧ yX0_ownField.cls ≠ "java/lang/invoke/VarHandle" ∧ (parseMethodDescriptor yX0_ownField.desc).map (fun d => d.parameters.length) = some 1 := by decide +kernel
set_option maxHeartbeats 16000000 in
set_option maxRecDepth 100000 in
theorem B_assign (l : Launch) (G : pT) (h0 : Nat) (a : Nat → Nat) (F : Nat → Int32) (R : Nat → Value) (Z : Int64) (B : Nat → Nat → Int32) (J : Nat → Nat → Int64) (K : PK) (w : va_W) (pq : Nat) (dr : Nat) (ml : Nat) (nd : Nat) (nm : Nat) (cp : Nat) (it : Nat → Nat) (s9 : Nat) (q : Nat) (mq : Nat) (cs : Nat) (vr : Nat) (sz : Nat) (n : Nat) (q2 : Nat) (hd : Nat) (dp : Nat) (rg : Nat) (ls9 : Int32) (lo : Option Nat) (g : Nat → Nat → Nat) (rk : Nat → Nat) (hsz : sz ≤ 5000) (hwp : WPr G K g) (hps : PgT G K g (a 1) pq dr ml nd nm cp it s9) (hrk : RkO K rk) (hcs : cs ≤ 10000) (hvr : vr ≤ 30) (hng : Nng (B 18)) (hmq : K.1 mq = 3) (hqT : K.1 q = 1) (hqL : 1 ≤ g 0 q ∧ g 0 q ≤ n) (hdp : dp ≤ 1000) (hrg : rg ≤ 625) (hhd : hd + 2 * n + 30 ≤ 900 + vr) (hlo : LpO K lo) (ht1 : K.1 q2 = 1) (hv1 : 1 ≤ g 0 q2 ∧ g 0 q2 + 1 ≤ n) (hkp : PlK (K.2.1 0 q)) (ihv : IhV l G n) (hO : OKP G h0 a (upd (upd (upd (upd (upd (upd (upd F 2 (nI sz)) 5 (nI cs)) 6 (nI rg)) 7 (nI hd)) 8 (nI dp)) 12 (nI vr)) 16 ls9) (updR (updR (updR R 2 (.ref pq)) 3 (.ref mq)) 4 (va_rf lo)) Z B J K w) (hl0 : l.stackTraces = false) : PBn l G pX0 yX0_assign cX0_assign 5 none ({ frames := (5 * n + 36), cells := 1, slots := 6, locals := (200 * n + 660) }) [.ref (a 4), .ref q, .ref q2] w (fun (v : Option Value) (u : va_W × (PK × (Nat → Nat → Int32) × Nat × Int32 × Int32 × Int32 × Nat × Nat × Nat × Nat × Int32)) => v = none ∧ (BdE K u.2.1) ∧ (Bth B u.2.2.1) ∧ (u.2.2.2.1 ≤ 10000 ∧ u.2.2.2.2.2.2.2.2.2.2.1 ≤ 625 ∧ u.2.2.2.2.2.2.2.2.2.1 ≤ 1000) ∧ (vr ≤ u.2.2.2.2.2.2.2.1 ∧ u.2.2.2.2.2.2.2.1 ≤ 30 ∧ u.2.2.2.2.2.2.2.2.1 + vr = hd + u.2.2.2.2.2.2.2.1) ∧ (OKP G h0 a (upd (upd (upd (upd (upd (upd (upd (upd (upd (upd F 2 (nI sz)) 5 (nI u.2.2.2.1)) 6 (nI u.2.2.2.2.2.2.2.2.2.2.1)) 7 (nI u.2.2.2.2.2.2.2.2.1)) 8 (nI u.2.2.2.2.2.2.2.2.2.1)) 12 (nI u.2.2.2.2.2.2.2.1)) 13 u.2.2.2.2.1) 14 u.2.2.2.2.2.1) 15 u.2.2.2.2.2.2.1) 16 u.2.2.2.2.2.2.2.2.2.2.2) (updR (updR (updR R 2 (.ref pq)) 3 (.ref mq)) 4 (va_rf lo)) Z u.2.2.1 J u.2.1 u.1)) (fun u => u.1) (fun (u : va_W × (PK × (Nat → Nat → Int32) × Nat × Int32 × Int32 × Int32 × Nat × Nat × Nat × Nat × Int32)) => 0) (fun (u : va_W × (PK × (Nat → Nat → Int32) × Nat × Int32 × Int32 × Int32 × Nat × Nat × Nat × Nat × Int32)) => 0) (fun (u : va_W × (Nat → Int32) × (Nat → Value) × (Nat → Nat → Int32)) => ThQ G h0 a (upd (upd (upd (upd (upd (upd (upd F 2 (nI sz)) 5 (nI cs)) 6 (nI rg)) 7 (nI hd)) 8 (nI dp)) 12 (nI vr)) 16 ls9) (updR (updR (updR R 2 (.ref pq)) 3 (.ref mq)) 4 (va_rf lo)) Z B J u) (fun u => u.1) := by
  intro sz
  refine vx_ofW (cc := cX0_assign) (maxL := 5) (ret := none) (by decide) rfl ?_
  intro p e s m args below meth c s₁ B9 hml hnt hv
  obtain ⟨rfl, hsz, hP, hD0, hE, hX⟩ := hv
  have hx := B9.exec
  have hb := B9.bytes
  have hr := B9.returns
  have hts := atoms_spec (ws := Cond.code yX0_assign cX0_assign 5 none :: pw) B9.pre
  have hq : ∀ w ∈ pw, w.before _ s = true := fun w h => hts w (List.mem_cons_of_mem _ h)
  have hown : s.vm.findClass RX0 = some m.cls := findClass_of_methodNamed B9.named
  have hlocks := B9.notSynchronized
  subst hsz
  have hD := hD0.self (sz := s.heap.size)
  have hA : ∀ q : Nat, s.heap.size ≤ q → va_A w s.heap.size q := fun q h => Or.inr h
  generalize va_A w s.heap.size = A at hD hE hA ⊢
  have hS : va_S A s.heap s.heap [] := va_S.rf
  have hl := lv_entry ([.ref (a 4), .ref q, .ref q2]) (n := 5) (Nat.le_of_ble_eq_true rfl)
  rw [lg_entry_eq]
  generalize (lg_sl ([.ref (a 4), .ref q, .ref q2]) ++ List.replicate (5 - (lg_sl ([.ref (a 4), .ref q, .ref q2])).length) Slot.unset).toArray = ls at hl ⊢
  have hl : lv_has ls 5 [(0, .ref (a 4)), (1, .ref q), (2, .ref q2)] := hl
  have hpg := hps.1
  have hp1 := hpg.1
  have hp2 := hpg.2.1
  have hp3 := hpg.2.2.1
  have hp4 := hpg.2.2.2.1
  have hp5 := hpg.2.2.2.2.1
  have hp6 := hpg.2.2.2.2.2.1
  have hp8 := hpg.2.2.2.2.2.2.2.1
  have hp9 := hpg.2.2.2.2.2.2.2.2
  obtain ⟨dO, hdO, htO⟩ := (hwp.2.2.2 mq hmq).2.1
  obtain ⟨kd, hkd⟩ : ∃ z : Int32, K.2.1 0 q = z := ⟨_, rfl⟩
  refine lv_aload_n hx hb dX0_assign_0 rfl (lv_at hl 1 rfl) ?_
  refine p_get (v := .int kd) (C := RX7) (Tc := TX7) (N := 11) (ci := 13) hx hb hq pin_wsX70 hown hE hP hO (by rw [hqT]; decide) (rep_1 hqT) rfl 0 (by decide) (hq _ pw_166) (fun _ h9 => h9) (congrArg (fun z => some (Value.int z)) hkd) dX0_assign_1 ?_
  refine lv_iconst (v := 5) hx hb dX0_assign_4 (by decide) ?_
  refine lv_icmp_ne (tgt := 26) hx hb dX0_assign_5 (by decide) (fun c1 => ?_) (fun c1 => ?_)
  · refine lv_iconst (v := (-1)) hx hb dX0_assign_26 (by decide) ?_
    refine lv_istore_n (lv' := [(3, .int (-1)), (0, .ref (a 4)), (1, .ref q), (2, .ref q2)]) hx hb dX0_assign_27 rfl hl (by decide) rfl (fun ls hl => ?_)
    refine lv_iload_n hx hb dX0_assign_28 rfl (lv_at hl 0 rfl) ?_
    refine lv_iconst (v := (-1)) hx hb dX0_assign_29 (by decide) ?_
    refine lv_icmp_eq (tgt := 79) hx hb dX0_assign_30 (by decide) (fun c2 => ?_) (fun c2 => absurd c2 (by decide))
    refine lv_aload_n hx hb dX0_assign_79 rfl (lv_at hl 2 rfl) ?_
    refine p_get (v := .int kd) (C := RX7) (Tc := TX7) (N := 11) (ci := 13) hx hb hq pin_wsX70 hown hE hP hO (by rw [hqT]; decide) (rep_1 hqT) rfl 0 (by decide) (hq _ pw_166) (fun _ h9 => h9) (congrArg (fun z => some (Value.int z)) hkd) dX0_assign_80 ?_
    refine lv_bipush (v := 14) hx hb dX0_assign_83 (by decide) ?_
    refine lv_icmp_ne (tgt := 121) hx hb dX0_assign_85 (by decide) (fun c3 => ?_) (fun c3 => ?_)
    · refine lv_aload_n hx hb dX0_assign_121 rfl (lv_at hl 2 rfl) ?_
      refine p_get (v := .int kd) (C := RX7) (Tc := TX7) (N := 11) (ci := 13) hx hb hq pin_wsX70 hown hE hP hO (by rw [hqT]; decide) (rep_1 hqT) rfl 0 (by decide) (hq _ pw_166) (fun _ h9 => h9) (congrArg (fun z => some (Value.int z)) hkd) dX0_assign_122 ?_
      refine lv_iconst (v := 5) hx hb dX0_assign_125 (by decide) ?_
      refine lv_icmp_ne (tgt := 137) hx hb dX0_assign_126 (by decide) (fun c4 => ?_) (fun c4 => ?_)
      · have hk12 : K.2.1 0 q = 12 := by
          rcases hkp with z | z | z
          · exact absurd (hkd.symm.trans z) c4
          · exact z
          · exact absurd (hkd.symm.trans z) c3
        obtain ⟨z1, hc0, hy0, hw0⟩ := NdO.ch (hwp.1 q hqT hqL.1) (f := 0) (by decide) ((hwp.1 q hqT hqL.1).1.1 (by rw [hk12]; decide))
        have hz0 : 1 ≤ g 0 z1 ∧ g 0 z1 + 1 ≤ n := ⟨hw0.1, (by have z := hw0.2; omega)⟩
        refine lv_aload_n hx hb dX0_assign_137 rfl (lv_at hl 1 rfl) ?_
        refine lv_aload_n hx hb dX0_assign_138 rfl (lv_at hl 2 rfl) ?_
        have hO : OKP G h0 a (upd (upd (upd (upd (upd (upd (upd (upd (upd (upd F 2 (nI sz)) 5 (nI cs)) 6 (nI rg)) 7 (nI hd)) 8 (nI dp)) 12 (nI vr)) 16 ls9) 2 (nI sz)) 5 (nI cs)) 12 (nI vr)) (updR (updR (updR (updR (updR R 2 (.ref pq)) 3 (.ref mq)) 4 (va_rf lo)) 2 (.ref pq)) 3 (.ref mq)) Z B J K w := hO.to rfl
        obtain ⟨_, qr8, hqr9⟩ := hO.2.1 24 _ (sg_24 G h0 a _ _ _ _ _)
        refine pn_V0 (G := G) (As := [.ref q]) (rest := []) hx hb hml hown hq hE hX pX0_al hP hD hS hA hl.1 (B_fieldBehind l G h0 a (upd (upd (upd (upd (upd (upd (upd F 2 (nI sz)) 5 (nI cs)) 6 (nI rg)) 7 (nI hd)) 8 (nI dp)) 12 (nI vr)) 16 ls9) (updR (updR (updR R 2 (.ref pq)) 3 (.ref mq)) 4 (va_rf lo)) Z B J K w pq dr ml nd nm cp it s9 q mq cs vr sz n z1 g rk (by omega) (BdE.wp BdE.rfl hwp) (BdE.pt BdE.rfl hwp hps) (BdE.rko BdE.rfl hrk) (by omega) (by omega) hng hmq hqT hqL hc0 hy0 hz0 ihv hO hl0) (gV pw_246 pw_247 pw_248 pw_63 pw_210) hV_X0_fieldBehind qr8 0 hqr9 rfl rfl rfl (Nat.le_of_ble_eq_true rfl) dX0_assign_139 ⟨(by show 0 + 1 ≤ 1; omega), (by show 0 + 6 ≤ 6; omega)⟩ ⟨(by show (5 * n + 33) + 1 ≤ (5 * n + 36); omega), (by show 8 + (3 + 11) + (200 * n + 560) ≤ (200 * n + 660); omega)⟩ (fun v7 u5 H locs hw6 hP hD hS => ?_) (fun ux ce9 q9 H9 locs9 hux hP9 hD9 hS9 hce hcv hcl => pb_out ux (ThQ.up (Thx.same (Thx.same (Thx.same Thx.rfl rfl) rfl) rfl) (show RhX (updR (updR (updR R 2 (.ref pq)) 3 (.ref mq)) 4 (va_rf lo)) (updR (updR (updR (updR (updR R 2 (.ref pq)) 3 (.ref mq)) 4 (va_rf lo)) 2 (.ref pq)) 3 (.ref mq)) from fun k9 hk9 => by unfold updR; simp only [show ¬ k9 = 1 by omega, show ¬ k9 = 2 by omega, show ¬ k9 = 3 by omega, show ¬ k9 = 4 by omega, if_false]) hux) hnt hlocks hce hcv hcl hP9 hD9 hS9 (by show 0 + 1 ≤ 1; omega) (by show 0 + 6 ≤ 6; omega))
        obtain ⟨w, K10, B11, cs12, as13, wt14, wf15, r16⟩ := u5
        obtain ⟨hw6, h17, h18, h19, hO⟩ := hw6
        have h17 : BdE K K10 := h17
        have h18 : Bth B B11 := h18
        have h19 : cs12 ≤ 10000 := h19
        obtain rfl : v7 = some (.int r16) := hw6
        have hf20 : K10.1 pq = 7 := (BdE.T h17 hp1 (by decide))
        have hf21 : K10.2.2.1 18 pq = some (a 1) := (BdE.C h17 (by rw [hp1]; decide) 18).trans hp2
        have hf22 : K10.2.2.1 14 pq = some dr := (BdE.C h17 (by rw [hp1]; decide) 14).trans hp3
        have hf23 : K10.1 dr = 8 := (BdE.T h17 hp4 (by decide))
        have hf24 : K10.2.2.1 15 pq = some ml := (BdE.C h17 (by rw [hp1]; decide) 15).trans hp5
        have hf25 : K10.1 ml = 5 := (BdE.T h17 hp6 (by decide))
        have hf26 : K10.2.1 24 pq = (nI nd) := (BdE.I h17 (by rw [hp1]; decide) (by decide) (by decide)).trans hp8
        have hf27 : K10.1 q = 1 := (BdE.T h17 hqT (by decide))
        have hf28 : K10.1 mq = 3 := (BdE.T h17 hmq (by decide))
        have hf29 : K10.2.2.1 5 mq = some dO := (BdE.C h17 (by rw [hmq]; decide) 5).trans hdO
        have hf30 : K10.1 dO = 4 := (BdE.T h17 htO (by decide))
        have hf31 : K10.2.1 0 q = kd := (BdE.I h17 (by rw [hqT]; decide) (by decide) (by decide)).trans hkd
        have hf32 : K10.1 q2 = 1 := (BdE.T h17 ht1 (by decide))
        have hf33 : K10.2.2.1 0 q = some z1 := (BdE.C h17 (by rw [hqT]; decide) 0).trans hc0
        have hf34 : K10.1 z1 = 1 := (BdE.T h17 hy0 (by decide))
        have hO : OKP G h0 a (upd (upd (upd (upd (upd (upd (upd (upd (upd (upd F 2 (nI sz)) 5 (nI cs12)) 6 (nI rg)) 7 (nI hd)) 8 (nI dp)) 12 (nI vr)) 13 as13) 14 wt14) 15 wf15) 16 ls9) (updR (updR (updR R 2 (.ref pq)) 3 (.ref mq)) 4 (va_rf lo)) Z B11 J K10 w := hO.to rfl
        refine W.widen (k := 0) (n := 0) (by show 0 + 0 ≤ 0; omega) (by show 0 + 0 ≤ 0; omega) ?_
        refine W.eq (g2 := F0 m 142 ls [.int r16]) rfl ?_
        have hbe35 := BdE.trans BdE.rfl h17
        have hbb36 : Bth B B11 := Bth.trans (show Thx (upd (upd (upd (upd (upd (upd (upd F 2 (nI sz)) 5 (nI cs)) 6 (nI rg)) 7 (nI hd)) 8 (nI dp)) 12 (nI vr)) 16 ls9) (upd (upd (upd (upd (upd (upd (upd F 2 (nI sz)) 5 (nI cs)) 6 (nI rg)) 7 (nI hd)) 8 (nI dp)) 12 (nI vr)) 16 ls9) B B from Thx.rfl).2 h18
        have hng37 : Nng (B11 18) := h18.2 hng
        refine lv_istore (lv' := [(4, .int r16), (3, .int (-1)), (0, .ref (a 4)), (1, .ref q), (2, .ref q2)]) hx hb dX0_assign_142 hl (by decide) rfl (fun ls hl => ?_)
        refine lv_aload_n hx hb dX0_assign_144 rfl (lv_at hl 2 rfl) ?_
        refine lv_aload_n hx hb dX0_assign_145 rfl (lv_at hl 4 rfl) ?_
        refine lv_aload_n hx hb dX0_assign_146 rfl (lv_at hl 2 rfl) ?_
        refine lv_aload_n hx hb dX0_assign_147 rfl (lv_at hl 4 rfl) ?_
        have hO : OKP G h0 a (upd (upd (upd (upd (upd (upd (upd (upd (upd (upd (upd (upd (upd (upd F 2 (nI sz)) 5 (nI cs)) 6 (nI rg)) 7 (nI hd)) 8 (nI dp)) 12 (nI vr)) 16 ls9) 5 (nI cs12)) 13 as13) 14 wt14) 15 wf15) 2 (nI sz)) 5 (nI cs12)) 12 (nI vr)) (updR (updR (updR (updR (updR R 2 (.ref pq)) 3 (.ref mq)) 4 (va_rf lo)) 2 (.ref pq)) 3 (.ref mq)) Z B11 J K10 w := hO.to rfl
        obtain ⟨_, qr41, hqr42⟩ := hO.2.1 24 _ (sg_24 G h0 a _ _ _ _ _)
        refine pn_V0 (G := G) (As := [.ref q2]) (rest := [.ref q2, .ref (a 4)]) hx hb hml hown hq hE hX pX0_al hP hD hS hA hl.1 ((ihv (by omega)) h0 a (upd (upd (upd (upd (upd (upd (upd (upd (upd (upd (upd F 2 (nI sz)) 5 (nI cs)) 6 (nI rg)) 7 (nI hd)) 8 (nI dp)) 12 (nI vr)) 16 ls9) 5 (nI cs12)) 13 as13) 14 wt14) 15 wf15) (updR (updR (updR R 2 (.ref pq)) 3 (.ref mq)) 4 (va_rf lo)) Z B11 J K10 w pq dr ml nd nm cp it s9 q2 mq cs12 vr sz g rk (by omega) (BdE.wp hbe35 hwp) (BdE.pt hbe35 hwp hps) (BdE.rko hbe35 hrk) (by omega) (by omega) hng37 hf28 hf32 ⟨hv1.1, (by have z9 := hv1; omega)⟩ hO hl0) (gV pw_173 pw_174 pw_175 pw_63 pw_224) hV_X0_value qr41 0 hqr42 rfl rfl rfl (Nat.le_of_ble_eq_true rfl) dX0_assign_148 ⟨(by show 0 + 1 ≤ 1; omega), (by show 0 + 6 ≤ 6; omega)⟩ ⟨(by show (5 * (n - 1) + 34) + 1 ≤ (5 * n + 36); omega), (by show 8 + (3 + 11) + (200 * (n - 1) + 600) ≤ (200 * n + 660); omega)⟩ (fun v40 u38 H locs hw39 hP hD hS => ?_) (fun ux ce9 q9 H9 locs9 hux hP9 hD9 hS9 hce hcv hcl => pb_out ux (ThQ.up (Thx.same (Thx.same (Thx.same (Thx.f (Thx.f (Thx.f (Thx.f (Bth.thx hbb36) (by omega)) (by omega)) (by omega)) (by omega)) rfl) rfl) rfl) (show RhX (updR (updR (updR R 2 (.ref pq)) 3 (.ref mq)) 4 (va_rf lo)) (updR (updR (updR (updR (updR R 2 (.ref pq)) 3 (.ref mq)) 4 (va_rf lo)) 2 (.ref pq)) 3 (.ref mq)) from fun k9 hk9 => by unfold updR; simp only [show ¬ k9 = 1 by omega, show ¬ k9 = 2 by omega, show ¬ k9 = 3 by omega, show ¬ k9 = 4 by omega, if_false]) hux) hnt hlocks hce hcv hcl hP9 hD9 hS9 (by show 0 + 1 ≤ 1; omega) (by show 0 + 6 ≤ 6; omega))
        obtain ⟨w, K43, B44, cs45, as46, wt47, wf48, r49⟩ := u38
        obtain ⟨hw39, h50, h51, h52, hO⟩ := hw39
        have h50 : BdE K10 K43 := h50
        have h51 : Bth B11 B44 := h51
        have h52 : cs45 ≤ 10000 := h52
        obtain rfl : v40 = some (.int r49) := hw39
        have hf53 : K43.1 pq = 7 := (BdE.T h50 hf20 (by decide))
        have hf54 : K43.2.2.1 18 pq = some (a 1) := (BdE.C h50 (by rw [hf20]; decide) 18).trans hf21
        have hf55 : K43.2.2.1 14 pq = some dr := (BdE.C h50 (by rw [hf20]; decide) 14).trans hf22
        have hf56 : K43.1 dr = 8 := (BdE.T h50 hf23 (by decide))
        have hf57 : K43.2.2.1 15 pq = some ml := (BdE.C h50 (by rw [hf20]; decide) 15).trans hf24
        have hf58 : K43.1 ml = 5 := (BdE.T h50 hf25 (by decide))
        have hf59 : K43.2.1 24 pq = (nI nd) := (BdE.I h50 (by rw [hf20]; decide) (by decide) (by decide)).trans hf26
        have hf60 : K43.1 q = 1 := (BdE.T h50 hf27 (by decide))
        have hf61 : K43.1 mq = 3 := (BdE.T h50 hf28 (by decide))
        have hf62 : K43.2.2.1 5 mq = some dO := (BdE.C h50 (by rw [hf28]; decide) 5).trans hf29
        have hf63 : K43.1 dO = 4 := (BdE.T h50 hf30 (by decide))
        have hf64 : K43.2.1 0 q = kd := (BdE.I h50 (by rw [hf27]; decide) (by decide) (by decide)).trans hf31
        have hf65 : K43.1 q2 = 1 := (BdE.T h50 hf32 (by decide))
        have hf66 : K43.2.2.1 0 q = some z1 := (BdE.C h50 (by rw [hf27]; decide) 0).trans hf33
        have hf67 : K43.1 z1 = 1 := (BdE.T h50 hf34 (by decide))
        have hO : OKP G h0 a (upd (upd (upd (upd (upd (upd (upd (upd (upd (upd F 2 (nI sz)) 5 (nI cs45)) 6 (nI rg)) 7 (nI hd)) 8 (nI dp)) 12 (nI vr)) 13 as46) 14 wt47) 15 wf48) 16 ls9) (updR (updR (updR R 2 (.ref pq)) 3 (.ref mq)) 4 (va_rf lo)) Z B44 J K43 w := hO.to rfl
        refine W.widen (k := 0) (n := 0) (by show 0 + 0 ≤ 0; omega) (by show 0 + 0 ≤ 0; omega) ?_
        refine W.eq (g2 := F0 m 151 ls [.int r49, .ref q2, .ref (a 4)]) rfl ?_
        have hbe68 := BdE.trans hbe35 h50
        have hbb69 : Bth B B44 := Bth.trans (show Thx (upd (upd (upd (upd (upd (upd (upd F 2 (nI sz)) 5 (nI cs)) 6 (nI rg)) 7 (nI hd)) 8 (nI dp)) 12 (nI vr)) 16 ls9) (upd (upd (upd (upd (upd (upd (upd (upd (upd (upd (upd F 2 (nI sz)) 5 (nI cs)) 6 (nI rg)) 7 (nI hd)) 8 (nI dp)) 12 (nI vr)) 16 ls9) 5 (nI cs12)) 13 as13) 14 wt14) 15 wf15) B B11 from (Thx.f (Thx.f (Thx.f (Thx.f (Bth.thx hbb36) (by omega)) (by omega)) (by omega)) (by omega))).2 h51
        have hng70 : Nng (B44 18) := h51.2 hng37
        refine lv_iload hx hb dX0_assign_151 (lv_at hl 0 rfl) ?_
        have hO : OKP G h0 a (upd (upd (upd (upd (upd (upd (upd (upd (upd (upd (upd (upd F 2 (nI sz)) 5 (nI cs)) 6 (nI rg)) 7 (nI hd)) 8 (nI dp)) 12 (nI vr)) 16 ls9) 5 (nI cs45)) 13 as46) 14 wt47) 15 wf48) 2 (nI sz)) (updR (updR (updR (updR R 2 (.ref pq)) 3 (.ref mq)) 4 (va_rf lo)) 2 (.ref pq)) Z B44 J K43 w := hO.to rfl
        obtain ⟨_, qr74, hqr75⟩ := hO.2.1 24 _ (sg_24 G h0 a _ _ _ _ _)
        refine pn_V0 (G := G) (As := [.ref q2, .int r49, .int r16]) (rest := []) hx hb hml hown hq hE hX pX0_al hP hD hS hA hl.1 (B_fit l G h0 a (upd (upd (upd (upd (upd (upd (upd (upd (upd (upd (upd F 2 (nI sz)) 5 (nI cs)) 6 (nI rg)) 7 (nI hd)) 8 (nI dp)) 12 (nI vr)) 16 ls9) 5 (nI cs45)) 13 as46) 14 wt47) 15 wf48) (updR (updR (updR R 2 (.ref pq)) 3 (.ref mq)) 4 (va_rf lo)) Z B44 J K43 w pq dr ml nd q2 sz r49 r16 g (by omega) (BdE.pt hbe68 hwp hps).1 (BdE.pt hbe68 hwp hps).2.1 hf65 hO hl0) (gV pw_176 pw_177 pw_178 pw_63 pw_114) hV_X0_fit qr74 0 hqr75 rfl rfl rfl (Nat.le_of_ble_eq_true rfl) dX0_assign_153 ⟨(by show 0 + 1 ≤ 1; omega), (by show 0 + 6 ≤ 6; omega)⟩ ⟨(by show 7 + 1 ≤ (5 * n + 36); omega), (by show 8 + (4 + 11) + 122 ≤ (200 * n + 660); omega)⟩ (fun v73 u71 H locs hw72 hP hD hS => ?_) (fun ux ce9 q9 H9 locs9 hux hP9 hD9 hS9 hce hcv hcl => pb_out ux (ThQ.up (Thx.same (Thx.f (Thx.f (Thx.f (Thx.f (Bth.thx hbb69) (by omega)) (by omega)) (by omega)) (by omega)) rfl) (show RhX (updR (updR (updR R 2 (.ref pq)) 3 (.ref mq)) 4 (va_rf lo)) (updR (updR (updR (updR R 2 (.ref pq)) 3 (.ref mq)) 4 (va_rf lo)) 2 (.ref pq)) from fun k9 hk9 => by unfold updR; simp only [show ¬ k9 = 1 by omega, show ¬ k9 = 2 by omega, show ¬ k9 = 3 by omega, show ¬ k9 = 4 by omega, if_false]) hux) hnt hlocks hce hcv hcl hP9 hD9 hS9 (by show 0 + 1 ≤ 1; omega) (by show 0 + 6 ≤ 6; omega))
        obtain ⟨w, _⟩ := u71
        obtain ⟨hw72, hO⟩ := hw72
        obtain rfl : v73 = none := hw72
        have hO : OKP G h0 a (upd (upd (upd (upd (upd (upd (upd (upd (upd (upd F 2 (nI sz)) 5 (nI cs45)) 6 (nI rg)) 7 (nI hd)) 8 (nI dp)) 12 (nI vr)) 13 as46) 14 wt47) 15 wf48) 16 ls9) (updR (updR (updR R 2 (.ref pq)) 3 (.ref mq)) 4 (va_rf lo)) Z B44 J K43 w := hO.to rfl
        refine W.widen (k := 0) (n := 0) (by show 0 + 0 ≤ 0; omega) (by show 0 + 0 ≤ 0; omega) ?_
        refine W.eq (g2 := F0 m 156 ls []) rfl ?_
        refine lv_aload_n hx hb dX0_assign_156 rfl (lv_at hl 2 rfl) ?_
        refine c_get (v := .ref (a 2)) (C := RX0) (Tc := TX0) (N := 13) (ci := 0) hx hb hq pin_wsX00 hown hE hP hO 24 (sg_24 G h0 a _ _ _ _ _) rfl 1 (by decide) (hq _ pw_5) (fun _ h9 => h9) rfl dX0_assign_157 ?_
        refine lv_bipush (v := 18) hx hb dX0_assign_160 (by decide) ?_
        refine lv_aload_n hx hb dX0_assign_162 rfl (lv_at hl 3 rfl) ?_
        refine p_get (v := .int (K43.2.1 5 q)) (C := RX7) (Tc := TX7) (N := 11) (ci := 13) hx hb hq pin_wsX70 hown hE hP hO (by rw [hf60]; decide) (rep_1 hf60) rfl 5 (by decide) (hq _ pw_142) (fun _ h9 => h9) rfl dX0_assign_163 ?_
        refine lv_iconst (v := 0) hx hb dX0_assign_166 (by decide) ?_
        have hO : OKW G h0 a (upd (upd (upd (upd (upd (upd (upd (upd (upd (upd (upd F 2 (nI sz)) 5 (nI cs45)) 6 (nI rg)) 7 (nI hd)) 8 (nI dp)) 12 (nI vr)) 13 as46) 14 wt47) 15 wf48) 16 ls9) 5 (nI cs45)) (updR (updR (updR R 2 (.ref pq)) 3 (.ref mq)) 4 (va_rf lo)) Z B44 J K43.1 (fun q99 x99 => x99 = rep G a K43 q99) w := hO.to rfl
        obtain ⟨_, qr79, hqr80⟩ := hO.2.1 13 _ (sg_13 G h0 a _ _ _ _ _)
        refine pc_V0 (G := G) (As := [.int 18, .int (K43.2.1 5 q), .int (nI 0)]) (rest := []) hx hb hml hown hq hE hX pX0_al hP hD hS hA hl.1 (K_emit l G h0 a (upd (upd (upd (upd (upd (upd (upd (upd (upd (upd F 2 (nI sz)) 5 (nI cs45)) 6 (nI rg)) 7 (nI hd)) 8 (nI dp)) 12 (nI vr)) 13 as46) 14 wt47) 15 wf48) 16 ls9) (updR (updR (updR R 2 (.ref pq)) 3 (.ref mq)) 4 (va_rf lo)) Z B44 J K43.1 (fun q99 x99 => x99 = rep G a K43 q99) w 18 (K43.2.1 5 q) 0 cs45 (by omega) (by omega) hng70 hO) (gV pw_129 pw_130 pw_131 pw_70 pw_115) hV_X1_emit qr79 1 hqr80 rfl rfl rfl (Nat.le_of_ble_eq_true rfl) dX0_assign_167 ⟨(by show 0 + 0 ≤ 1; omega), (by show 0 + 0 ≤ 6; omega)⟩ ⟨(by show 2 + 1 ≤ (5 * n + 36); omega), (by show 8 + (4 + 11) + 60 ≤ (200 * n + 660); omega)⟩ (fun v78 u76 H locs hw77 hP hD hS => ?_)
        obtain ⟨w, cs81, f82, f83, f84, f85⟩ := u76
        obtain ⟨hw77, h86, h87, hO⟩ := hw77
        have h86 : cs45 ≤ cs81 ∧ cs81 ≤ cs45 + 1 ∧ cs81 ≤ 10000 := h86
        have h87 : Nng f84 := h87
        obtain rfl : v78 = none := hw77
        have hO : OKP G h0 a (upd (upd (upd (upd (upd (upd (upd (upd (upd (upd F 2 (nI sz)) 5 (nI cs81)) 6 (nI rg)) 7 (nI hd)) 8 (nI dp)) 12 (nI vr)) 13 as46) 14 wt47) 15 wf48) 16 ls9) (updR (updR (updR R 2 (.ref pq)) 3 (.ref mq)) 4 (va_rf lo)) Z (updA (updA (updA (updA B44 16 f82) 17 f83) 18 f84) 19 f85) J K43 w := hO.to rfl
        refine W.widen (k := 0) (n := 0) (Nat.le_of_ble_eq_true rfl) (Nat.le_of_ble_eq_true rfl) ?_
        refine W.eq (g2 := F0 m 170 ls []) rfl ?_
        refine W_size (fun hz1 hz2 => ?_)
        refine vx_ret ?_
        have hz88 : BdE K K43 := hbe68
        have hz89 : Bth B (updA (updA (updA (updA B44 16 f82) 17 f83) 18 f84) 19 f85) := (show Thx (upd (upd (upd (upd (upd (upd (upd F 2 (nI sz)) 5 (nI cs)) 6 (nI rg)) 7 (nI hd)) 8 (nI dp)) 12 (nI vr)) 16 ls9) (upd (upd (upd (upd (upd (upd (upd (upd (upd (upd (upd F 2 (nI sz)) 5 (nI cs)) 6 (nI rg)) 7 (nI hd)) 8 (nI dp)) 12 (nI vr)) 16 ls9) 5 (nI cs81)) 13 as46) 14 wt47) 15 wf48) B (updA (updA (updA (updA B44 16 f82) 17 f83) 18 f84) 19 f85) from (Thx.b (Thx.b8 (Thx.b (Thx.b (Thx.f (Thx.f (Thx.f (Thx.f (Bth.thx hbb69) (by omega)) (by omega)) (by omega)) (by omega)) (by omega) (by decide)) (by omega) (by decide)) h87) (by omega) (by decide))).2
        have hz90 : cs81 ≤ 10000 ∧ rg ≤ 625 ∧ dp ≤ 1000 := (by omega)
        have hz91 : vr ≤ vr ∧ vr ≤ 30 ∧ hd + vr = hd + vr := (by omega)
        have hO : OKP G h0 a (upd (upd (upd (upd (upd (upd (upd (upd (upd (upd F 2 (nI sz)) 5 (nI cs81)) 6 (nI rg)) 7 (nI hd)) 8 (nI dp)) 12 (nI vr)) 13 as46) 14 wt47) 15 wf48) 16 ls9) (updR (updR (updR R 2 (.ref pq)) 3 (.ref mq)) 4 (va_rf lo)) Z (updA (updA (updA (updA B44 16 f82) 17 f83) 18 f84) 19 f85) J K43 w := hO.to rfl
        refine W.widen (k := 1) (n := 6) (by omega) (by omega) ?_
        have hzz1 : H.size ≤ s.heap.size + (0) := (by have z : 0 ≤ 0 := (by omega); omega)
        have hzz2 : hSl H ≤ hSl s.heap + (0) := (by have z : 0 ≤ 0 := (by omega); omega)
        exact W.vret hx hb hr (fun t99 ht99 hW99 => ⟨⟨_, (w, (K43, (updA (updA (updA (updA B44 16 f82) 17 f83) 18 f84) 19 f85), cs81, as46, wt47, wf48, vr, hd, dp, rg, ls9)), rfl, ⟨rfl, hz88, hz89, hz90, hz91, hO⟩, by rw [ht99]; exact hP, hD, by rw [ht99]; exact hzz1, by rw [ht99]; exact hzz2⟩, hS.F ht99⟩) hS.2.2 dX0_assign_170
      · refine lv_aload_n hx hb dX0_assign_129 rfl (lv_at hl 1 rfl) ?_
        refine lv_aload_n hx hb dX0_assign_130 rfl (lv_at hl 2 rfl) ?_
        have hO : OKP G h0 a (upd (upd (upd (upd (upd (upd (upd (upd (upd (upd F 2 (nI sz)) 5 (nI cs)) 6 (nI rg)) 7 (nI hd)) 8 (nI dp)) 12 (nI vr)) 16 ls9) 2 (nI sz)) 5 (nI cs)) 12 (nI vr)) (updR (updR (updR (updR (updR R 2 (.ref pq)) 3 (.ref mq)) 4 (va_rf lo)) 2 (.ref pq)) 3 (.ref mq)) Z B J K w := hO.to rfl
        obtain ⟨_, qr95, hqr96⟩ := hO.2.1 24 _ (sg_24 G h0 a _ _ _ _ _)
        refine pn_V0 (G := G) (As := [.ref q]) (rest := []) hx hb hml hown hq hE hX pX0_al hP hD hS hA hl.1 (B_ownField l G h0 a (upd (upd (upd (upd (upd (upd (upd F 2 (nI sz)) 5 (nI cs)) 6 (nI rg)) 7 (nI hd)) 8 (nI dp)) 12 (nI vr)) 16 ls9) (updR (updR (updR R 2 (.ref pq)) 3 (.ref mq)) 4 (va_rf lo)) Z B J K w pq dr ml nd nm cp it s9 q mq cs vr sz n g rk (by omega) (BdE.wp BdE.rfl hwp) (BdE.pt BdE.rfl hwp hps) (BdE.rko BdE.rfl hrk) (by omega) (by omega) hng hmq hqT hqL hO hl0) (gV pw_290 pw_291 pw_292 pw_63 pw_289) hV_X0_ownField qr95 0 hqr96 rfl rfl rfl (Nat.le_of_ble_eq_true rfl) dX0_assign_131 ⟨(by show 0 + 1 ≤ 1; omega), (by show 0 + 6 ≤ 6; omega)⟩ ⟨(by show (5 * n + 33) + 1 ≤ (5 * n + 36); omega), (by show 8 + (2 + 11) + (200 * n + 560) ≤ (200 * n + 660); omega)⟩ (fun v94 u92 H locs hw93 hP hD hS => ?_) (fun ux ce9 q9 H9 locs9 hux hP9 hD9 hS9 hce hcv hcl => pb_out ux (ThQ.up (Thx.same (Thx.same (Thx.same Thx.rfl rfl) rfl) rfl) (show RhX (updR (updR (updR R 2 (.ref pq)) 3 (.ref mq)) 4 (va_rf lo)) (updR (updR (updR (updR (updR R 2 (.ref pq)) 3 (.ref mq)) 4 (va_rf lo)) 2 (.ref pq)) 3 (.ref mq)) from fun k9 hk9 => by unfold updR; simp only [show ¬ k9 = 1 by omega, show ¬ k9 = 2 by omega, show ¬ k9 = 3 by omega, show ¬ k9 = 4 by omega, if_false]) hux) hnt hlocks hce hcv hcl hP9 hD9 hS9 (by show 0 + 1 ≤ 1; omega) (by show 0 + 6 ≤ 6; omega))
        obtain ⟨w, K97, B98, cs99, as100, wt101, wf102, r103⟩ := u92
        obtain ⟨hw93, h104, h105, h106, hO⟩ := hw93
        have h104 : BdE K K97 := h104
        have h105 : Bth B B98 := h105
        have h106 : cs99 ≤ 10000 := h106
        obtain rfl : v94 = some (.int r103) := hw93
        have hf107 : K97.1 pq = 7 := (BdE.T h104 hp1 (by decide))
        have hf108 : K97.2.2.1 18 pq = some (a 1) := (BdE.C h104 (by rw [hp1]; decide) 18).trans hp2
        have hf109 : K97.2.2.1 14 pq = some dr := (BdE.C h104 (by rw [hp1]; decide) 14).trans hp3
        have hf110 : K97.1 dr = 8 := (BdE.T h104 hp4 (by decide))
        have hf111 : K97.2.2.1 15 pq = some ml := (BdE.C h104 (by rw [hp1]; decide) 15).trans hp5
        have hf112 : K97.1 ml = 5 := (BdE.T h104 hp6 (by decide))
        have hf113 : K97.2.1 24 pq = (nI nd) := (BdE.I h104 (by rw [hp1]; decide) (by decide) (by decide)).trans hp8
        have hf114 : K97.1 q = 1 := (BdE.T h104 hqT (by decide))
        have hf115 : K97.1 mq = 3 := (BdE.T h104 hmq (by decide))
        have hf116 : K97.2.2.1 5 mq = some dO := (BdE.C h104 (by rw [hmq]; decide) 5).trans hdO
        have hf117 : K97.1 dO = 4 := (BdE.T h104 htO (by decide))
        have hf118 : K97.2.1 0 q = kd := (BdE.I h104 (by rw [hqT]; decide) (by decide) (by decide)).trans hkd
        have hf119 : K97.1 q2 = 1 := (BdE.T h104 ht1 (by decide))
        have hO : OKP G h0 a (upd (upd (upd (upd (upd (upd (upd (upd (upd (upd F 2 (nI sz)) 5 (nI cs99)) 6 (nI rg)) 7 (nI hd)) 8 (nI dp)) 12 (nI vr)) 13 as100) 14 wt101) 15 wf102) 16 ls9) (updR (updR (updR R 2 (.ref pq)) 3 (.ref mq)) 4 (va_rf lo)) Z B98 J K97 w := hO.to rfl
        refine W.widen (k := 0) (n := 0) (by show 0 + 0 ≤ 0; omega) (by show 0 + 0 ≤ 0; omega) ?_
        refine W.eq (g2 := F0 m 134 ls [.int r103]) rfl ?_
        have hbe120 := BdE.trans BdE.rfl h104
        have hbb121 : Bth B B98 := Bth.trans (show Thx (upd (upd (upd (upd (upd (upd (upd F 2 (nI sz)) 5 (nI cs)) 6 (nI rg)) 7 (nI hd)) 8 (nI dp)) 12 (nI vr)) 16 ls9) (upd (upd (upd (upd (upd (upd (upd F 2 (nI sz)) 5 (nI cs)) 6 (nI rg)) 7 (nI hd)) 8 (nI dp)) 12 (nI vr)) 16 ls9) B B from Thx.rfl).2 h105
        have hng122 : Nng (B98 18) := h105.2 hng
        refine lv_goto (tgt := 142) hx hb dX0_assign_134 (by decide) ?_
        refine lv_istore (lv' := [(4, .int r103), (3, .int (-1)), (0, .ref (a 4)), (1, .ref q), (2, .ref q2)]) hx hb dX0_assign_142 hl (by decide) rfl (fun ls hl => ?_)
        refine lv_aload_n hx hb dX0_assign_144 rfl (lv_at hl 2 rfl) ?_
        refine lv_aload_n hx hb dX0_assign_145 rfl (lv_at hl 4 rfl) ?_
        refine lv_aload_n hx hb dX0_assign_146 rfl (lv_at hl 2 rfl) ?_
        refine lv_aload_n hx hb dX0_assign_147 rfl (lv_at hl 4 rfl) ?_
        have hO : OKP G h0 a (upd (upd (upd (upd (upd (upd (upd (upd (upd (upd (upd (upd (upd (upd F 2 (nI sz)) 5 (nI cs)) 6 (nI rg)) 7 (nI hd)) 8 (nI dp)) 12 (nI vr)) 16 ls9) 5 (nI cs99)) 13 as100) 14 wt101) 15 wf102) 2 (nI sz)) 5 (nI cs99)) 12 (nI vr)) (updR (updR (updR (updR (updR R 2 (.ref pq)) 3 (.ref mq)) 4 (va_rf lo)) 2 (.ref pq)) 3 (.ref mq)) Z B98 J K97 w := hO.to rfl
        obtain ⟨_, qr126, hqr127⟩ := hO.2.1 24 _ (sg_24 G h0 a _ _ _ _ _)
        refine pn_V0 (G := G) (As := [.ref q2]) (rest := [.ref q2, .ref (a 4)]) hx hb hml hown hq hE hX pX0_al hP hD hS hA hl.1 ((ihv (by omega)) h0 a (upd (upd (upd (upd (upd (upd (upd (upd (upd (upd (upd F 2 (nI sz)) 5 (nI cs)) 6 (nI rg)) 7 (nI hd)) 8 (nI dp)) 12 (nI vr)) 16 ls9) 5 (nI cs99)) 13 as100) 14 wt101) 15 wf102) (updR (updR (updR R 2 (.ref pq)) 3 (.ref mq)) 4 (va_rf lo)) Z B98 J K97 w pq dr ml nd nm cp it s9 q2 mq cs99 vr sz g rk (by omega) (BdE.wp hbe120 hwp) (BdE.pt hbe120 hwp hps) (BdE.rko hbe120 hrk) (by omega) (by omega) hng122 hf115 hf119 ⟨hv1.1, (by have z9 := hv1; omega)⟩ hO hl0) (gV pw_173 pw_174 pw_175 pw_63 pw_224) hV_X0_value qr126 0 hqr127 rfl rfl rfl (Nat.le_of_ble_eq_true rfl) dX0_assign_148 ⟨(by show 0 + 1 ≤ 1; omega), (by show 0 + 6 ≤ 6; omega)⟩ ⟨(by show (5 * (n - 1) + 34) + 1 ≤ (5 * n + 36); omega), (by show 8 + (3 + 11) + (200 * (n - 1) + 600) ≤ (200 * n + 660); omega)⟩ (fun v125 u123 H locs hw124 hP hD hS => ?_) (fun ux ce9 q9 H9 locs9 hux hP9 hD9 hS9 hce hcv hcl => pb_out ux (ThQ.up (Thx.same (Thx.same (Thx.same (Thx.f (Thx.f (Thx.f (Thx.f (Bth.thx hbb121) (by omega)) (by omega)) (by omega)) (by omega)) rfl) rfl) rfl) (show RhX (updR (updR (updR R 2 (.ref pq)) 3 (.ref mq)) 4 (va_rf lo)) (updR (updR (updR (updR (updR R 2 (.ref pq)) 3 (.ref mq)) 4 (va_rf lo)) 2 (.ref pq)) 3 (.ref mq)) from fun k9 hk9 => by unfold updR; simp only [show ¬ k9 = 1 by omega, show ¬ k9 = 2 by omega, show ¬ k9 = 3 by omega, show ¬ k9 = 4 by omega, if_false]) hux) hnt hlocks hce hcv hcl hP9 hD9 hS9 (by show 0 + 1 ≤ 1; omega) (by show 0 + 6 ≤ 6; omega))
        obtain ⟨w, K128, B129, cs130, as131, wt132, wf133, r134⟩ := u123
        obtain ⟨hw124, h135, h136, h137, hO⟩ := hw124
        have h135 : BdE K97 K128 := h135
        have h136 : Bth B98 B129 := h136
        have h137 : cs130 ≤ 10000 := h137
        obtain rfl : v125 = some (.int r134) := hw124
        have hf138 : K128.1 pq = 7 := (BdE.T h135 hf107 (by decide))
        have hf139 : K128.2.2.1 18 pq = some (a 1) := (BdE.C h135 (by rw [hf107]; decide) 18).trans hf108
        have hf140 : K128.2.2.1 14 pq = some dr := (BdE.C h135 (by rw [hf107]; decide) 14).trans hf109
        have hf141 : K128.1 dr = 8 := (BdE.T h135 hf110 (by decide))
        have hf142 : K128.2.2.1 15 pq = some ml := (BdE.C h135 (by rw [hf107]; decide) 15).trans hf111
        have hf143 : K128.1 ml = 5 := (BdE.T h135 hf112 (by decide))
        have hf144 : K128.2.1 24 pq = (nI nd) := (BdE.I h135 (by rw [hf107]; decide) (by decide) (by decide)).trans hf113
        have hf145 : K128.1 q = 1 := (BdE.T h135 hf114 (by decide))
        have hf146 : K128.1 mq = 3 := (BdE.T h135 hf115 (by decide))
        have hf147 : K128.2.2.1 5 mq = some dO := (BdE.C h135 (by rw [hf115]; decide) 5).trans hf116
        have hf148 : K128.1 dO = 4 := (BdE.T h135 hf117 (by decide))
        have hf149 : K128.2.1 0 q = kd := (BdE.I h135 (by rw [hf114]; decide) (by decide) (by decide)).trans hf118
        have hf150 : K128.1 q2 = 1 := (BdE.T h135 hf119 (by decide))
        have hO : OKP G h0 a (upd (upd (upd (upd (upd (upd (upd (upd (upd (upd F 2 (nI sz)) 5 (nI cs130)) 6 (nI rg)) 7 (nI hd)) 8 (nI dp)) 12 (nI vr)) 13 as131) 14 wt132) 15 wf133) 16 ls9) (updR (updR (updR R 2 (.ref pq)) 3 (.ref mq)) 4 (va_rf lo)) Z B129 J K128 w := hO.to rfl
        refine W.widen (k := 0) (n := 0) (by show 0 + 0 ≤ 0; omega) (by show 0 + 0 ≤ 0; omega) ?_
        refine W.eq (g2 := F0 m 151 ls [.int r134, .ref q2, .ref (a 4)]) rfl ?_
        have hbe151 := BdE.trans hbe120 h135
        have hbb152 : Bth B B129 := Bth.trans (show Thx (upd (upd (upd (upd (upd (upd (upd F 2 (nI sz)) 5 (nI cs)) 6 (nI rg)) 7 (nI hd)) 8 (nI dp)) 12 (nI vr)) 16 ls9) (upd (upd (upd (upd (upd (upd (upd (upd (upd (upd (upd F 2 (nI sz)) 5 (nI cs)) 6 (nI rg)) 7 (nI hd)) 8 (nI dp)) 12 (nI vr)) 16 ls9) 5 (nI cs99)) 13 as100) 14 wt101) 15 wf102) B B98 from (Thx.f (Thx.f (Thx.f (Thx.f (Bth.thx hbb121) (by omega)) (by omega)) (by omega)) (by omega))).2 h136
        have hng153 : Nng (B129 18) := h136.2 hng122
        refine lv_iload hx hb dX0_assign_151 (lv_at hl 0 rfl) ?_
        have hO : OKP G h0 a (upd (upd (upd (upd (upd (upd (upd (upd (upd (upd (upd (upd F 2 (nI sz)) 5 (nI cs)) 6 (nI rg)) 7 (nI hd)) 8 (nI dp)) 12 (nI vr)) 16 ls9) 5 (nI cs130)) 13 as131) 14 wt132) 15 wf133) 2 (nI sz)) (updR (updR (updR (updR R 2 (.ref pq)) 3 (.ref mq)) 4 (va_rf lo)) 2 (.ref pq)) Z B129 J K128 w := hO.to rfl
        obtain ⟨_, qr157, hqr158⟩ := hO.2.1 24 _ (sg_24 G h0 a _ _ _ _ _)
        refine pn_V0 (G := G) (As := [.ref q2, .int r134, .int r103]) (rest := []) hx hb hml hown hq hE hX pX0_al hP hD hS hA hl.1 (B_fit l G h0 a (upd (upd (upd (upd (upd (upd (upd (upd (upd (upd (upd F 2 (nI sz)) 5 (nI cs)) 6 (nI rg)) 7 (nI hd)) 8 (nI dp)) 12 (nI vr)) 16 ls9) 5 (nI cs130)) 13 as131) 14 wt132) 15 wf133) (updR (updR (updR R 2 (.ref pq)) 3 (.ref mq)) 4 (va_rf lo)) Z B129 J K128 w pq dr ml nd q2 sz r134 r103 g (by omega) (BdE.pt hbe151 hwp hps).1 (BdE.pt hbe151 hwp hps).2.1 hf150 hO hl0) (gV pw_176 pw_177 pw_178 pw_63 pw_114) hV_X0_fit qr157 0 hqr158 rfl rfl rfl (Nat.le_of_ble_eq_true rfl) dX0_assign_153 ⟨(by show 0 + 1 ≤ 1; omega), (by show 0 + 6 ≤ 6; omega)⟩ ⟨(by show 7 + 1 ≤ (5 * n + 36); omega), (by show 8 + (4 + 11) + 122 ≤ (200 * n + 660); omega)⟩ (fun v156 u154 H locs hw155 hP hD hS => ?_) (fun ux ce9 q9 H9 locs9 hux hP9 hD9 hS9 hce hcv hcl => pb_out ux (ThQ.up (Thx.same (Thx.f (Thx.f (Thx.f (Thx.f (Bth.thx hbb152) (by omega)) (by omega)) (by omega)) (by omega)) rfl) (show RhX (updR (updR (updR R 2 (.ref pq)) 3 (.ref mq)) 4 (va_rf lo)) (updR (updR (updR (updR R 2 (.ref pq)) 3 (.ref mq)) 4 (va_rf lo)) 2 (.ref pq)) from fun k9 hk9 => by unfold updR; simp only [show ¬ k9 = 1 by omega, show ¬ k9 = 2 by omega, show ¬ k9 = 3 by omega, show ¬ k9 = 4 by omega, if_false]) hux) hnt hlocks hce hcv hcl hP9 hD9 hS9 (by show 0 + 1 ≤ 1; omega) (by show 0 + 6 ≤ 6; omega))
        obtain ⟨w, _⟩ := u154
        obtain ⟨hw155, hO⟩ := hw155
        obtain rfl : v156 = none := hw155
        have hO : OKP G h0 a (upd (upd (upd (upd (upd (upd (upd (upd (upd (upd F 2 (nI sz)) 5 (nI cs130)) 6 (nI rg)) 7 (nI hd)) 8 (nI dp)) 12 (nI vr)) 13 as131) 14 wt132) 15 wf133) 16 ls9) (updR (updR (updR R 2 (.ref pq)) 3 (.ref mq)) 4 (va_rf lo)) Z B129 J K128 w := hO.to rfl
        refine W.widen (k := 0) (n := 0) (by show 0 + 0 ≤ 0; omega) (by show 0 + 0 ≤ 0; omega) ?_
        refine W.eq (g2 := F0 m 156 ls []) rfl ?_
        refine lv_aload_n hx hb dX0_assign_156 rfl (lv_at hl 2 rfl) ?_
        refine c_get (v := .ref (a 2)) (C := RX0) (Tc := TX0) (N := 13) (ci := 0) hx hb hq pin_wsX00 hown hE hP hO 24 (sg_24 G h0 a _ _ _ _ _) rfl 1 (by decide) (hq _ pw_5) (fun _ h9 => h9) rfl dX0_assign_157 ?_
        refine lv_bipush (v := 18) hx hb dX0_assign_160 (by decide) ?_
        refine lv_aload_n hx hb dX0_assign_162 rfl (lv_at hl 3 rfl) ?_
        refine p_get (v := .int (K128.2.1 5 q)) (C := RX7) (Tc := TX7) (N := 11) (ci := 13) hx hb hq pin_wsX70 hown hE hP hO (by rw [hf145]; decide) (rep_1 hf145) rfl 5 (by decide) (hq _ pw_142) (fun _ h9 => h9) rfl dX0_assign_163 ?_
        refine lv_iconst (v := 0) hx hb dX0_assign_166 (by decide) ?_
        have hO : OKW G h0 a (upd (upd (upd (upd (upd (upd (upd (upd (upd (upd (upd F 2 (nI sz)) 5 (nI cs130)) 6 (nI rg)) 7 (nI hd)) 8 (nI dp)) 12 (nI vr)) 13 as131) 14 wt132) 15 wf133) 16 ls9) 5 (nI cs130)) (updR (updR (updR R 2 (.ref pq)) 3 (.ref mq)) 4 (va_rf lo)) Z B129 J K128.1 (fun q99 x99 => x99 = rep G a K128 q99) w := hO.to rfl
        obtain ⟨_, qr162, hqr163⟩ := hO.2.1 13 _ (sg_13 G h0 a _ _ _ _ _)
        refine pc_V0 (G := G) (As := [.int 18, .int (K128.2.1 5 q), .int (nI 0)]) (rest := []) hx hb hml hown hq hE hX pX0_al hP hD hS hA hl.1 (K_emit l G h0 a (upd (upd (upd (upd (upd (upd (upd (upd (upd (upd F 2 (nI sz)) 5 (nI cs130)) 6 (nI rg)) 7 (nI hd)) 8 (nI dp)) 12 (nI vr)) 13 as131) 14 wt132) 15 wf133) 16 ls9) (updR (updR (updR R 2 (.ref pq)) 3 (.ref mq)) 4 (va_rf lo)) Z B129 J K128.1 (fun q99 x99 => x99 = rep G a K128 q99) w 18 (K128.2.1 5 q) 0 cs130 (by omega) (by omega) hng153 hO) (gV pw_129 pw_130 pw_131 pw_70 pw_115) hV_X1_emit qr162 1 hqr163 rfl rfl rfl (Nat.le_of_ble_eq_true rfl) dX0_assign_167 ⟨(by show 0 + 0 ≤ 1; omega), (by show 0 + 0 ≤ 6; omega)⟩ ⟨(by show 2 + 1 ≤ (5 * n + 36); omega), (by show 8 + (4 + 11) + 60 ≤ (200 * n + 660); omega)⟩ (fun v161 u159 H locs hw160 hP hD hS => ?_)
        obtain ⟨w, cs164, f165, f166, f167, f168⟩ := u159
        obtain ⟨hw160, h169, h170, hO⟩ := hw160
        have h169 : cs130 ≤ cs164 ∧ cs164 ≤ cs130 + 1 ∧ cs164 ≤ 10000 := h169
        have h170 : Nng f167 := h170
        obtain rfl : v161 = none := hw160
        have hO : OKP G h0 a (upd (upd (upd (upd (upd (upd (upd (upd (upd (upd F 2 (nI sz)) 5 (nI cs164)) 6 (nI rg)) 7 (nI hd)) 8 (nI dp)) 12 (nI vr)) 13 as131) 14 wt132) 15 wf133) 16 ls9) (updR (updR (updR R 2 (.ref pq)) 3 (.ref mq)) 4 (va_rf lo)) Z (updA (updA (updA (updA B129 16 f165) 17 f166) 18 f167) 19 f168) J K128 w := hO.to rfl
        refine W.widen (k := 0) (n := 0) (Nat.le_of_ble_eq_true rfl) (Nat.le_of_ble_eq_true rfl) ?_
        refine W.eq (g2 := F0 m 170 ls []) rfl ?_
        refine W_size (fun hz1 hz2 => ?_)
        refine vx_ret ?_
        have hz171 : BdE K K128 := hbe151
        have hz172 : Bth B (updA (updA (updA (updA B129 16 f165) 17 f166) 18 f167) 19 f168) := (show Thx (upd (upd (upd (upd (upd (upd (upd F 2 (nI sz)) 5 (nI cs)) 6 (nI rg)) 7 (nI hd)) 8 (nI dp)) 12 (nI vr)) 16 ls9) (upd (upd (upd (upd (upd (upd (upd (upd (upd (upd (upd F 2 (nI sz)) 5 (nI cs)) 6 (nI rg)) 7 (nI hd)) 8 (nI dp)) 12 (nI vr)) 16 ls9) 5 (nI cs164)) 13 as131) 14 wt132) 15 wf133) B (updA (updA (updA (updA B129 16 f165) 17 f166) 18 f167) 19 f168) from (Thx.b (Thx.b8 (Thx.b (Thx.b (Thx.f (Thx.f (Thx.f (Thx.f (Bth.thx hbb152) (by omega)) (by omega)) (by omega)) (by omega)) (by omega) (by decide)) (by omega) (by decide)) h170) (by omega) (by decide))).2
        have hz173 : cs164 ≤ 10000 ∧ rg ≤ 625 ∧ dp ≤ 1000 := (by omega)
        have hz174 : vr ≤ vr ∧ vr ≤ 30 ∧ hd + vr = hd + vr := (by omega)
        have hO : OKP G h0 a (upd (upd (upd (upd (upd (upd (upd (upd (upd (upd F 2 (nI sz)) 5 (nI cs164)) 6 (nI rg)) 7 (nI hd)) 8 (nI dp)) 12 (nI vr)) 13 as131) 14 wt132) 15 wf133) 16 ls9) (updR (updR (updR R 2 (.ref pq)) 3 (.ref mq)) 4 (va_rf lo)) Z (updA (updA (updA (updA B129 16 f165) 17 f166) 18 f167) 19 f168) J K128 w := hO.to rfl
        refine W.widen (k := 1) (n := 6) (by omega) (by omega) ?_
        have hzz1 : H.size ≤ s.heap.size + (0) := (by have z : 0 ≤ 0 := (by omega); omega)
        have hzz2 : hSl H ≤ hSl s.heap + (0) := (by have z : 0 ≤ 0 := (by omega); omega)
        exact W.vret hx hb hr (fun t99 ht99 hW99 => ⟨⟨_, (w, (K128, (updA (updA (updA (updA B129 16 f165) 17 f166) 18 f167) 19 f168), cs164, as131, wt132, wf133, vr, hd, dp, rg, ls9)), rfl, ⟨rfl, hz171, hz172, hz173, hz174, hO⟩, by rw [ht99]; exact hP, hD, by rw [ht99]; exact hzz1, by rw [ht99]; exact hzz2⟩, hS.F ht99⟩) hS.2.2 dX0_assign_170
    · subst c3
      obtain ⟨z1, hc0, hy0, hw0⟩ := NdO.ch (hwp.1 q hqT hqL.1) (f := 0) (by decide) (((hwp.1 q hqT hqL.1).1.2.1 (by rw [hkd]; decide)).1)
      have hz0 : 1 ≤ g 0 z1 ∧ g 0 z1 + 1 ≤ n := ⟨hw0.1, (by have z := hw0.2; omega)⟩
      obtain ⟨z2, hc1, hy1, hw1⟩ := NdO.ch (hwp.1 q hqT hqL.1) (f := 1) (by decide) (((hwp.1 q hqT hqL.1).1.2.1 (by rw [hkd]; decide)).2)
      have hz1 : 1 ≤ g 0 z2 ∧ g 0 z2 + 1 ≤ n := ⟨hw1.1, (by have z := hw1.2; omega)⟩
      refine lv_aload_n hx hb dX0_assign_88 rfl (lv_at hl 1 rfl) ?_
      refine lv_aload_n hx hb dX0_assign_89 rfl (lv_at hl 2 rfl) ?_
      have hO : OKP G h0 a (upd (upd (upd (upd (upd (upd (upd (upd (upd (upd F 2 (nI sz)) 5 (nI cs)) 6 (nI rg)) 7 (nI hd)) 8 (nI dp)) 12 (nI vr)) 16 ls9) 2 (nI sz)) 5 (nI cs)) 12 (nI vr)) (updR (updR (updR (updR (updR R 2 (.ref pq)) 3 (.ref mq)) 4 (va_rf lo)) 2 (.ref pq)) 3 (.ref mq)) Z B J K w := hO.to rfl
      obtain ⟨_, qr178, hqr179⟩ := hO.2.1 24 _ (sg_24 G h0 a _ _ _ _ _)
      refine pn_V0 (G := G) (As := [.ref q]) (rest := []) hx hb hml hown hq hE hX pX0_al hP hD hS hA hl.1 (B_element l G h0 a (upd (upd (upd (upd (upd (upd (upd F 2 (nI sz)) 5 (nI cs)) 6 (nI rg)) 7 (nI hd)) 8 (nI dp)) 12 (nI vr)) 16 ls9) (updR (updR (updR R 2 (.ref pq)) 3 (.ref mq)) 4 (va_rf lo)) Z B J K w pq dr ml nd nm cp it s9 q mq cs vr sz n z1 z2 g rk (by omega) (BdE.wp BdE.rfl hwp) (BdE.pt BdE.rfl hwp hps) (BdE.rko BdE.rfl hrk) (by omega) (by omega) hng hmq hqT hqL hc0 hy0 hz0 hc1 hy1 hz1 ihv hO hl0) (gV pw_249 pw_250 pw_251 pw_63 pw_206) hV_X0_element qr178 0 hqr179 rfl rfl rfl (Nat.le_of_ble_eq_true rfl) dX0_assign_90 ⟨(by show 0 + 1 ≤ 1; omega), (by show 0 + 6 ≤ 6; omega)⟩ ⟨(by show (5 * n + 33) + 1 ≤ (5 * n + 36); omega), (by show 8 + (3 + 11) + (200 * n + 560) ≤ (200 * n + 660); omega)⟩ (fun v177 u175 H locs hw176 hP hD hS => ?_) (fun ux ce9 q9 H9 locs9 hux hP9 hD9 hS9 hce hcv hcl => pb_out ux (ThQ.up (Thx.same (Thx.same (Thx.same Thx.rfl rfl) rfl) rfl) (show RhX (updR (updR (updR R 2 (.ref pq)) 3 (.ref mq)) 4 (va_rf lo)) (updR (updR (updR (updR (updR R 2 (.ref pq)) 3 (.ref mq)) 4 (va_rf lo)) 2 (.ref pq)) 3 (.ref mq)) from fun k9 hk9 => by unfold updR; simp only [show ¬ k9 = 1 by omega, show ¬ k9 = 2 by omega, show ¬ k9 = 3 by omega, show ¬ k9 = 4 by omega, if_false]) hux) hnt hlocks hce hcv hcl hP9 hD9 hS9 (by show 0 + 1 ≤ 1; omega) (by show 0 + 6 ≤ 6; omega))
      obtain ⟨w, K180, B181, cs182, as183, wt184, wf185, r186⟩ := u175
      obtain ⟨hw176, h187, h188, h189, hO⟩ := hw176
      have h187 : BdE K K180 := h187
      have h188 : Bth B B181 := h188
      have h189 : cs182 ≤ 10000 := h189
      obtain rfl : v177 = some (.int r186) := hw176
      have hf190 : K180.1 pq = 7 := (BdE.T h187 hp1 (by decide))
      have hf191 : K180.2.2.1 18 pq = some (a 1) := (BdE.C h187 (by rw [hp1]; decide) 18).trans hp2
      have hf192 : K180.2.2.1 14 pq = some dr := (BdE.C h187 (by rw [hp1]; decide) 14).trans hp3
      have hf193 : K180.1 dr = 8 := (BdE.T h187 hp4 (by decide))
      have hf194 : K180.2.2.1 15 pq = some ml := (BdE.C h187 (by rw [hp1]; decide) 15).trans hp5
      have hf195 : K180.1 ml = 5 := (BdE.T h187 hp6 (by decide))
      have hf196 : K180.2.1 24 pq = (nI nd) := (BdE.I h187 (by rw [hp1]; decide) (by decide) (by decide)).trans hp8
      have hf197 : K180.1 q = 1 := (BdE.T h187 hqT (by decide))
      have hf198 : K180.1 mq = 3 := (BdE.T h187 hmq (by decide))
      have hf199 : K180.2.2.1 5 mq = some dO := (BdE.C h187 (by rw [hmq]; decide) 5).trans hdO
      have hf200 : K180.1 dO = 4 := (BdE.T h187 htO (by decide))
      have hf201 : K180.2.1 0 q = 14 := (BdE.I h187 (by rw [hqT]; decide) (by decide) (by decide)).trans hkd
      have hf202 : K180.1 q2 = 1 := (BdE.T h187 ht1 (by decide))
      have hf203 : K180.2.2.1 0 q = some z1 := (BdE.C h187 (by rw [hqT]; decide) 0).trans hc0
      have hf204 : K180.1 z1 = 1 := (BdE.T h187 hy0 (by decide))
      have hf205 : K180.2.2.1 1 q = some z2 := (BdE.C h187 (by rw [hqT]; decide) 1).trans hc1
      have hf206 : K180.1 z2 = 1 := (BdE.T h187 hy1 (by decide))
      have hO : OKP G h0 a (upd (upd (upd (upd (upd (upd (upd (upd (upd (upd F 2 (nI sz)) 5 (nI cs182)) 6 (nI rg)) 7 (nI hd)) 8 (nI dp)) 12 (nI vr)) 13 as183) 14 wt184) 15 wf185) 16 ls9) (updR (updR (updR R 2 (.ref pq)) 3 (.ref mq)) 4 (va_rf lo)) Z B181 J K180 w := hO.to rfl
      refine W.widen (k := 0) (n := 0) (by show 0 + 0 ≤ 0; omega) (by show 0 + 0 ≤ 0; omega) ?_
      refine W.eq (g2 := F0 m 93 ls [.int r186]) rfl ?_
      have hbe207 := BdE.trans BdE.rfl h187
      have hbb208 : Bth B B181 := Bth.trans (show Thx (upd (upd (upd (upd (upd (upd (upd F 2 (nI sz)) 5 (nI cs)) 6 (nI rg)) 7 (nI hd)) 8 (nI dp)) 12 (nI vr)) 16 ls9) (upd (upd (upd (upd (upd (upd (upd F 2 (nI sz)) 5 (nI cs)) 6 (nI rg)) 7 (nI hd)) 8 (nI dp)) 12 (nI vr)) 16 ls9) B B from Thx.rfl).2 h188
      have hng209 : Nng (B181 18) := h188.2 hng
      refine lv_istore (lv' := [(4, .int r186), (3, .int (-1)), (0, .ref (a 4)), (1, .ref q), (2, .ref q2)]) hx hb dX0_assign_93 hl (by decide) rfl (fun ls hl => ?_)
      refine lv_aload_n hx hb dX0_assign_95 rfl (lv_at hl 2 rfl) ?_
      refine lv_aload_n hx hb dX0_assign_96 rfl (lv_at hl 4 rfl) ?_
      refine lv_aload_n hx hb dX0_assign_97 rfl (lv_at hl 2 rfl) ?_
      refine lv_aload_n hx hb dX0_assign_98 rfl (lv_at hl 4 rfl) ?_
      have hO : OKP G h0 a (upd (upd (upd (upd (upd (upd (upd (upd (upd (upd (upd (upd (upd (upd F 2 (nI sz)) 5 (nI cs)) 6 (nI rg)) 7 (nI hd)) 8 (nI dp)) 12 (nI vr)) 16 ls9) 5 (nI cs182)) 13 as183) 14 wt184) 15 wf185) 2 (nI sz)) 5 (nI cs182)) 12 (nI vr)) (updR (updR (updR (updR (updR R 2 (.ref pq)) 3 (.ref mq)) 4 (va_rf lo)) 2 (.ref pq)) 3 (.ref mq)) Z B181 J K180 w := hO.to rfl
      obtain ⟨_, qr213, hqr214⟩ := hO.2.1 24 _ (sg_24 G h0 a _ _ _ _ _)
      refine pn_V0 (G := G) (As := [.ref q2]) (rest := [.ref q2, .ref (a 4)]) hx hb hml hown hq hE hX pX0_al hP hD hS hA hl.1 ((ihv (by omega)) h0 a (upd (upd (upd (upd (upd (upd (upd (upd (upd (upd (upd F 2 (nI sz)) 5 (nI cs)) 6 (nI rg)) 7 (nI hd)) 8 (nI dp)) 12 (nI vr)) 16 ls9) 5 (nI cs182)) 13 as183) 14 wt184) 15 wf185) (updR (updR (updR R 2 (.ref pq)) 3 (.ref mq)) 4 (va_rf lo)) Z B181 J K180 w pq dr ml nd nm cp it s9 q2 mq cs182 vr sz g rk (by omega) (BdE.wp hbe207 hwp) (BdE.pt hbe207 hwp hps) (BdE.rko hbe207 hrk) (by omega) (by omega) hng209 hf198 hf202 ⟨hv1.1, (by have z9 := hv1; omega)⟩ hO hl0) (gV pw_173 pw_174 pw_175 pw_63 pw_224) hV_X0_value qr213 0 hqr214 rfl rfl rfl (Nat.le_of_ble_eq_true rfl) dX0_assign_99 ⟨(by show 0 + 1 ≤ 1; omega), (by show 0 + 6 ≤ 6; omega)⟩ ⟨(by show (5 * (n - 1) + 34) + 1 ≤ (5 * n + 36); omega), (by show 8 + (3 + 11) + (200 * (n - 1) + 600) ≤ (200 * n + 660); omega)⟩ (fun v212 u210 H locs hw211 hP hD hS => ?_) (fun ux ce9 q9 H9 locs9 hux hP9 hD9 hS9 hce hcv hcl => pb_out ux (ThQ.up (Thx.same (Thx.same (Thx.same (Thx.f (Thx.f (Thx.f (Thx.f (Bth.thx hbb208) (by omega)) (by omega)) (by omega)) (by omega)) rfl) rfl) rfl) (show RhX (updR (updR (updR R 2 (.ref pq)) 3 (.ref mq)) 4 (va_rf lo)) (updR (updR (updR (updR (updR R 2 (.ref pq)) 3 (.ref mq)) 4 (va_rf lo)) 2 (.ref pq)) 3 (.ref mq)) from fun k9 hk9 => by unfold updR; simp only [show ¬ k9 = 1 by omega, show ¬ k9 = 2 by omega, show ¬ k9 = 3 by omega, show ¬ k9 = 4 by omega, if_false]) hux) hnt hlocks hce hcv hcl hP9 hD9 hS9 (by show 0 + 1 ≤ 1; omega) (by show 0 + 6 ≤ 6; omega))
      obtain ⟨w, K215, B216, cs217, as218, wt219, wf220, r221⟩ := u210
      obtain ⟨hw211, h222, h223, h224, hO⟩ := hw211
      have h222 : BdE K180 K215 := h222
      have h223 : Bth B181 B216 := h223
      have h224 : cs217 ≤ 10000 := h224
      obtain rfl : v212 = some (.int r221) := hw211
      have hf225 : K215.1 pq = 7 := (BdE.T h222 hf190 (by decide))
      have hf226 : K215.2.2.1 18 pq = some (a 1) := (BdE.C h222 (by rw [hf190]; decide) 18).trans hf191
      have hf227 : K215.2.2.1 14 pq = some dr := (BdE.C h222 (by rw [hf190]; decide) 14).trans hf192
      have hf228 : K215.1 dr = 8 := (BdE.T h222 hf193 (by decide))
      have hf229 : K215.2.2.1 15 pq = some ml := (BdE.C h222 (by rw [hf190]; decide) 15).trans hf194
      have hf230 : K215.1 ml = 5 := (BdE.T h222 hf195 (by decide))
      have hf231 : K215.2.1 24 pq = (nI nd) := (BdE.I h222 (by rw [hf190]; decide) (by decide) (by decide)).trans hf196
      have hf232 : K215.1 q = 1 := (BdE.T h222 hf197 (by decide))
      have hf233 : K215.1 mq = 3 := (BdE.T h222 hf198 (by decide))
      have hf234 : K215.2.2.1 5 mq = some dO := (BdE.C h222 (by rw [hf198]; decide) 5).trans hf199
      have hf235 : K215.1 dO = 4 := (BdE.T h222 hf200 (by decide))
      have hf236 : K215.2.1 0 q = 14 := (BdE.I h222 (by rw [hf197]; decide) (by decide) (by decide)).trans hf201
      have hf237 : K215.1 q2 = 1 := (BdE.T h222 hf202 (by decide))
      have hf238 : K215.2.2.1 0 q = some z1 := (BdE.C h222 (by rw [hf197]; decide) 0).trans hf203
      have hf239 : K215.1 z1 = 1 := (BdE.T h222 hf204 (by decide))
      have hf240 : K215.2.2.1 1 q = some z2 := (BdE.C h222 (by rw [hf197]; decide) 1).trans hf205
      have hf241 : K215.1 z2 = 1 := (BdE.T h222 hf206 (by decide))
      have hO : OKP G h0 a (upd (upd (upd (upd (upd (upd (upd (upd (upd (upd F 2 (nI sz)) 5 (nI cs217)) 6 (nI rg)) 7 (nI hd)) 8 (nI dp)) 12 (nI vr)) 13 as218) 14 wt219) 15 wf220) 16 ls9) (updR (updR (updR R 2 (.ref pq)) 3 (.ref mq)) 4 (va_rf lo)) Z B216 J K215 w := hO.to rfl
      refine W.widen (k := 0) (n := 0) (by show 0 + 0 ≤ 0; omega) (by show 0 + 0 ≤ 0; omega) ?_
      refine W.eq (g2 := F0 m 102 ls [.int r221, .ref q2, .ref (a 4)]) rfl ?_
      have hbe242 := BdE.trans hbe207 h222
      have hbb243 : Bth B B216 := Bth.trans (show Thx (upd (upd (upd (upd (upd (upd (upd F 2 (nI sz)) 5 (nI cs)) 6 (nI rg)) 7 (nI hd)) 8 (nI dp)) 12 (nI vr)) 16 ls9) (upd (upd (upd (upd (upd (upd (upd (upd (upd (upd (upd F 2 (nI sz)) 5 (nI cs)) 6 (nI rg)) 7 (nI hd)) 8 (nI dp)) 12 (nI vr)) 16 ls9) 5 (nI cs182)) 13 as183) 14 wt184) 15 wf185) B B181 from (Thx.f (Thx.f (Thx.f (Thx.f (Bth.thx hbb208) (by omega)) (by omega)) (by omega)) (by omega))).2 h223
      have hng244 : Nng (B216 18) := h223.2 hng209
      refine lv_iload hx hb dX0_assign_102 (lv_at hl 0 rfl) ?_
      have hO : OKP G h0 a (upd (upd (upd (upd (upd (upd (upd (upd (upd (upd (upd (upd F 2 (nI sz)) 5 (nI cs)) 6 (nI rg)) 7 (nI hd)) 8 (nI dp)) 12 (nI vr)) 16 ls9) 5 (nI cs217)) 13 as218) 14 wt219) 15 wf220) 2 (nI sz)) (updR (updR (updR (updR R 2 (.ref pq)) 3 (.ref mq)) 4 (va_rf lo)) 2 (.ref pq)) Z B216 J K215 w := hO.to rfl
      obtain ⟨_, qr248, hqr249⟩ := hO.2.1 24 _ (sg_24 G h0 a _ _ _ _ _)
      refine pn_V0 (G := G) (As := [.ref q2, .int r221, .int r186]) (rest := []) hx hb hml hown hq hE hX pX0_al hP hD hS hA hl.1 (B_fit l G h0 a (upd (upd (upd (upd (upd (upd (upd (upd (upd (upd (upd F 2 (nI sz)) 5 (nI cs)) 6 (nI rg)) 7 (nI hd)) 8 (nI dp)) 12 (nI vr)) 16 ls9) 5 (nI cs217)) 13 as218) 14 wt219) 15 wf220) (updR (updR (updR R 2 (.ref pq)) 3 (.ref mq)) 4 (va_rf lo)) Z B216 J K215 w pq dr ml nd q2 sz r221 r186 g (by omega) (BdE.pt hbe242 hwp hps).1 (BdE.pt hbe242 hwp hps).2.1 hf237 hO hl0) (gV pw_176 pw_177 pw_178 pw_63 pw_114) hV_X0_fit qr248 0 hqr249 rfl rfl rfl (Nat.le_of_ble_eq_true rfl) dX0_assign_104 ⟨(by show 0 + 1 ≤ 1; omega), (by show 0 + 6 ≤ 6; omega)⟩ ⟨(by show 7 + 1 ≤ (5 * n + 36); omega), (by show 8 + (4 + 11) + 122 ≤ (200 * n + 660); omega)⟩ (fun v247 u245 H locs hw246 hP hD hS => ?_) (fun ux ce9 q9 H9 locs9 hux hP9 hD9 hS9 hce hcv hcl => pb_out ux (ThQ.up (Thx.same (Thx.f (Thx.f (Thx.f (Thx.f (Bth.thx hbb243) (by omega)) (by omega)) (by omega)) (by omega)) rfl) (show RhX (updR (updR (updR R 2 (.ref pq)) 3 (.ref mq)) 4 (va_rf lo)) (updR (updR (updR (updR R 2 (.ref pq)) 3 (.ref mq)) 4 (va_rf lo)) 2 (.ref pq)) from fun k9 hk9 => by unfold updR; simp only [show ¬ k9 = 1 by omega, show ¬ k9 = 2 by omega, show ¬ k9 = 3 by omega, show ¬ k9 = 4 by omega, if_false]) hux) hnt hlocks hce hcv hcl hP9 hD9 hS9 (by show 0 + 1 ≤ 1; omega) (by show 0 + 6 ≤ 6; omega))
      obtain ⟨w, _⟩ := u245
      obtain ⟨hw246, hO⟩ := hw246
      obtain rfl : v247 = none := hw246
      have hO : OKP G h0 a (upd (upd (upd (upd (upd (upd (upd (upd (upd (upd F 2 (nI sz)) 5 (nI cs217)) 6 (nI rg)) 7 (nI hd)) 8 (nI dp)) 12 (nI vr)) 13 as218) 14 wt219) 15 wf220) 16 ls9) (updR (updR (updR R 2 (.ref pq)) 3 (.ref mq)) 4 (va_rf lo)) Z B216 J K215 w := hO.to rfl
      refine W.widen (k := 0) (n := 0) (by show 0 + 0 ≤ 0; omega) (by show 0 + 0 ≤ 0; omega) ?_
      refine W.eq (g2 := F0 m 107 ls []) rfl ?_
      refine lv_aload_n hx hb dX0_assign_107 rfl (lv_at hl 2 rfl) ?_
      refine c_get (v := .ref (a 2)) (C := RX0) (Tc := TX0) (N := 13) (ci := 0) hx hb hq pin_wsX00 hown hE hP hO 24 (sg_24 G h0 a _ _ _ _ _) rfl 1 (by decide) (hq _ pw_5) (fun _ h9 => h9) rfl dX0_assign_108 ?_
      refine lv_bipush (v := 20) hx hb dX0_assign_111 (by decide) ?_
      refine lv_iconst (v := 0) hx hb dX0_assign_113 (by decide) ?_
      refine lv_iconst (v := 0) hx hb dX0_assign_114 (by decide) ?_
      have hO : OKW G h0 a (upd (upd (upd (upd (upd (upd (upd (upd (upd (upd (upd F 2 (nI sz)) 5 (nI cs217)) 6 (nI rg)) 7 (nI hd)) 8 (nI dp)) 12 (nI vr)) 13 as218) 14 wt219) 15 wf220) 16 ls9) 5 (nI cs217)) (updR (updR (updR R 2 (.ref pq)) 3 (.ref mq)) 4 (va_rf lo)) Z B216 J K215.1 (fun q99 x99 => x99 = rep G a K215 q99) w := hO.to rfl
      obtain ⟨_, qr253, hqr254⟩ := hO.2.1 13 _ (sg_13 G h0 a _ _ _ _ _)
      refine pc_V0 (G := G) (As := [.int 20, .int 0, .int (nI 0)]) (rest := []) hx hb hml hown hq hE hX pX0_al hP hD hS hA hl.1 (K_emit l G h0 a (upd (upd (upd (upd (upd (upd (upd (upd (upd (upd F 2 (nI sz)) 5 (nI cs217)) 6 (nI rg)) 7 (nI hd)) 8 (nI dp)) 12 (nI vr)) 13 as218) 14 wt219) 15 wf220) 16 ls9) (updR (updR (updR R 2 (.ref pq)) 3 (.ref mq)) 4 (va_rf lo)) Z B216 J K215.1 (fun q99 x99 => x99 = rep G a K215 q99) w 20 0 0 cs217 (by omega) (by omega) hng244 hO) (gV pw_129 pw_130 pw_131 pw_70 pw_115) hV_X1_emit qr253 1 hqr254 rfl rfl rfl (Nat.le_of_ble_eq_true rfl) dX0_assign_115 ⟨(by show 0 + 0 ≤ 1; omega), (by show 0 + 0 ≤ 6; omega)⟩ ⟨(by show 2 + 1 ≤ (5 * n + 36); omega), (by show 8 + (4 + 11) + 60 ≤ (200 * n + 660); omega)⟩ (fun v252 u250 H locs hw251 hP hD hS => ?_)
      obtain ⟨w, cs255, f256, f257, f258, f259⟩ := u250
      obtain ⟨hw251, h260, h261, hO⟩ := hw251
      have h260 : cs217 ≤ cs255 ∧ cs255 ≤ cs217 + 1 ∧ cs255 ≤ 10000 := h260
      have h261 : Nng f258 := h261
      obtain rfl : v252 = none := hw251
      have hO : OKP G h0 a (upd (upd (upd (upd (upd (upd (upd (upd (upd (upd F 2 (nI sz)) 5 (nI cs255)) 6 (nI rg)) 7 (nI hd)) 8 (nI dp)) 12 (nI vr)) 13 as218) 14 wt219) 15 wf220) 16 ls9) (updR (updR (updR R 2 (.ref pq)) 3 (.ref mq)) 4 (va_rf lo)) Z (updA (updA (updA (updA B216 16 f256) 17 f257) 18 f258) 19 f259) J K215 w := hO.to rfl
      refine W.widen (k := 0) (n := 0) (Nat.le_of_ble_eq_true rfl) (Nat.le_of_ble_eq_true rfl) ?_
      refine W.eq (g2 := F0 m 118 ls []) rfl ?_
      refine lv_goto (tgt := 170) hx hb dX0_assign_118 (by decide) ?_
      refine W_size (fun hz1 hz2 => ?_)
      refine vx_ret ?_
      have hz262 : BdE K K215 := hbe242
      have hz263 : Bth B (updA (updA (updA (updA B216 16 f256) 17 f257) 18 f258) 19 f259) := (show Thx (upd (upd (upd (upd (upd (upd (upd F 2 (nI sz)) 5 (nI cs)) 6 (nI rg)) 7 (nI hd)) 8 (nI dp)) 12 (nI vr)) 16 ls9) (upd (upd (upd (upd (upd (upd (upd (upd (upd (upd (upd F 2 (nI sz)) 5 (nI cs)) 6 (nI rg)) 7 (nI hd)) 8 (nI dp)) 12 (nI vr)) 16 ls9) 5 (nI cs255)) 13 as218) 14 wt219) 15 wf220) B (updA (updA (updA (updA B216 16 f256) 17 f257) 18 f258) 19 f259) from (Thx.b (Thx.b8 (Thx.b (Thx.b (Thx.f (Thx.f (Thx.f (Thx.f (Bth.thx hbb243) (by omega)) (by omega)) (by omega)) (by omega)) (by omega) (by decide)) (by omega) (by decide)) h261) (by omega) (by decide))).2
      have hz264 : cs255 ≤ 10000 ∧ rg ≤ 625 ∧ dp ≤ 1000 := (by omega)
      have hz265 : vr ≤ vr ∧ vr ≤ 30 ∧ hd + vr = hd + vr := (by omega)
      have hO : OKP G h0 a (upd (upd (upd (upd (upd (upd (upd (upd (upd (upd F 2 (nI sz)) 5 (nI cs255)) 6 (nI rg)) 7 (nI hd)) 8 (nI dp)) 12 (nI vr)) 13 as218) 14 wt219) 15 wf220) 16 ls9) (updR (updR (updR R 2 (.ref pq)) 3 (.ref mq)) 4 (va_rf lo)) Z (updA (updA (updA (updA B216 16 f256) 17 f257) 18 f258) 19 f259) J K215 w := hO.to rfl
      refine W.widen (k := 1) (n := 6) (by omega) (by omega) ?_
      have hzz1 : H.size ≤ s.heap.size + (0) := (by have z : 0 ≤ 0 := (by omega); omega)
      have hzz2 : hSl H ≤ hSl s.heap + (0) := (by have z : 0 ≤ 0 := (by omega); omega)
      exact W.vret hx hb hr (fun t99 ht99 hW99 => ⟨⟨_, (w, (K215, (updA (updA (updA (updA B216 16 f256) 17 f257) 18 f258) 19 f259), cs255, as218, wt219, wf220, vr, hd, dp, rg, ls9)), rfl, ⟨rfl, hz262, hz263, hz264, hz265, hO⟩, by rw [ht99]; exact hP, hD, by rw [ht99]; exact hzz1, by rw [ht99]; exact hzz2⟩, hS.F ht99⟩) hS.2.2 dX0_assign_170
  · subst c1
    refine lv_aload_n hx hb dX0_assign_8 rfl (lv_at hl 0 rfl) ?_
    refine lv_aload_n hx hb dX0_assign_9 rfl (lv_at hl 0 rfl) ?_
    refine c_get (v := .ref (a 1)) (C := RX0) (Tc := TX0) (N := 13) (ci := 0) hx hb hq pin_wsX00 hown hE hP hO 24 (sg_24 G h0 a _ _ _ _ _) rfl 0 (by decide) (hq _ pw_4) (fun _ h9 => h9) rfl dX0_assign_10 ?_
    refine lv_aload_n hx hb dX0_assign_13 rfl (lv_at hl 1 rfl) ?_
    refine p_get (v := .int (K.2.1 1 q)) (C := RX7) (Tc := TX7) (N := 11) (ci := 13) hx hb hq pin_wsX70 hown hE hP hO (by rw [hqT]; decide) (rep_1 hqT) rfl 1 (by decide) (hq _ pw_81) (fun _ h9 => h9) rfl dX0_assign_14 ?_
    have hO : OKW G h0 a (upd (upd (upd (upd (upd (upd (upd (upd F 2 (nI sz)) 5 (nI cs)) 6 (nI rg)) 7 (nI hd)) 8 (nI dp)) 12 (nI vr)) 16 ls9) 2 (nI sz)) (updR (updR (updR R 2 (.ref pq)) 3 (.ref mq)) 4 (va_rf lo)) Z B J K.1 (fun q99 x99 => x99 = rep G a K q99) w := hO.to rfl
    obtain ⟨_, qr269, hqr270⟩ := hO.2.1 2 _ (sg_2 G h0 a _ _ _ _ _)
    refine pc_V0 (G := G) (As := [.int (K.2.1 1 q)]) (rest := [.ref (a 4)]) hx hb hml hown hq hE hX pX0_al hP hD hS hA hl.1 (K_valueAt l G h0 a (upd (upd (upd (upd (upd (upd (upd F 2 (nI sz)) 5 (nI cs)) 6 (nI rg)) 7 (nI hd)) 8 (nI dp)) 12 (nI vr)) 16 ls9) (updR (updR (updR R 2 (.ref pq)) 3 (.ref mq)) 4 (va_rf lo)) Z B J K.1 (fun q99 x99 => x99 = rep G a K q99) w (K.2.1 1 q) sz (by omega) hO) (gV pw_56 pw_57 pw_58 pw_59 pw_39) hV_X10_valueAt qr269 7 hqr270 rfl rfl rfl (Nat.le_of_ble_eq_true rfl) dX0_assign_17 ⟨(by show 0 + 0 ≤ 1; omega), (by show 0 + 0 ≤ 6; omega)⟩ ⟨(by show 2 + 1 ≤ (5 * n + 36); omega), (by show 8 + (2 + 11) + 60 ≤ (200 * n + 660); omega)⟩ (fun v268 u266 H locs hw267 hP hD hS => ?_)
    obtain ⟨w, r271⟩ := u266
    obtain ⟨hw267, hO⟩ := hw267
    obtain rfl : v268 = some (.int r271) := hw267
    have hO : OKP G h0 a (upd (upd (upd (upd (upd (upd (upd F 2 (nI sz)) 5 (nI cs)) 6 (nI rg)) 7 (nI hd)) 8 (nI dp)) 12 (nI vr)) 16 ls9) (updR (updR (updR R 2 (.ref pq)) 3 (.ref mq)) 4 (va_rf lo)) Z B J K w := hO.to rfl
    refine W.widen (k := 0) (n := 0) (Nat.le_of_ble_eq_true rfl) (Nat.le_of_ble_eq_true rfl) ?_
    refine W.eq (g2 := F0 m 20 ls [.int r271, .ref (a 4)]) rfl ?_
    have hO : OKW G h0 a (upd (upd (upd (upd (upd (upd (upd (upd F 2 (nI sz)) 5 (nI cs)) 6 (nI rg)) 7 (nI hd)) 8 (nI dp)) 12 (nI vr)) 16 ls9) 12 (nI vr)) (updR (updR (updR R 2 (.ref pq)) 3 (.ref mq)) 4 (va_rf lo)) Z B J K.1 (fun q99 x99 => x99 = rep G a K q99) w := hO.to rfl
    obtain ⟨_, qr275, hqr276⟩ := hO.2.1 24 _ (sg_24 G h0 a _ _ _ _ _)
    refine pc_V0 (G := G) (As := [.int r271]) (rest := []) hx hb hml hown hq hE hX pX0_al hP hD hS hA hl.1 (B_variable l G h0 a (upd (upd (upd (upd (upd (upd (upd F 2 (nI sz)) 5 (nI cs)) 6 (nI rg)) 7 (nI hd)) 8 (nI dp)) 12 (nI vr)) 16 ls9) (updR (updR (updR R 2 (.ref pq)) 3 (.ref mq)) 4 (va_rf lo)) Z B J K.1 (fun q99 x99 => x99 = rep G a K q99) w r271 vr (by omega) hO) (gV pw_60 pw_61 pw_62 pw_63 pw_41) hV_X0_variable qr275 0 hqr276 rfl rfl rfl (Nat.le_of_ble_eq_true rfl) dX0_assign_20 ⟨(by show 0 + 0 ≤ 1; omega), (by show 0 + 0 ≤ 6; omega)⟩ ⟨(by show 2 + 1 ≤ (5 * n + 36); omega), (by show 8 + (3 + 11) + 60 ≤ (200 * n + 660); omega)⟩ (fun v274 u272 H locs hw273 hP hD hS => ?_)
    obtain ⟨w, r277⟩ := u272
    obtain ⟨hw273, h278, hO⟩ := hw273
    have h278 : VrQ vr r277 := h278
    obtain rfl : v274 = some (.int r277) := hw273
    have hO : OKP G h0 a (upd (upd (upd (upd (upd (upd (upd F 2 (nI sz)) 5 (nI cs)) 6 (nI rg)) 7 (nI hd)) 8 (nI dp)) 12 (nI vr)) 16 ls9) (updR (updR (updR R 2 (.ref pq)) 3 (.ref mq)) 4 (va_rf lo)) Z B J K w := hO.to rfl
    refine W.widen (k := 0) (n := 0) (Nat.le_of_ble_eq_true rfl) (Nat.le_of_ble_eq_true rfl) ?_
    refine W.eq (g2 := F0 m 23 ls [.int r277]) rfl ?_
    refine lv_goto (tgt := 27) hx hb dX0_assign_23 (by decide) ?_
    refine lv_istore_n (lv' := [(3, .int r277), (0, .ref (a 4)), (1, .ref q), (2, .ref q2)]) hx hb dX0_assign_27 rfl hl (by decide) rfl (fun ls hl => ?_)
    refine lv_iload_n hx hb dX0_assign_28 rfl (lv_at hl 0 rfl) ?_
    refine lv_iconst (v := (-1)) hx hb dX0_assign_29 (by decide) ?_
    refine lv_icmp_eq (tgt := 79) hx hb dX0_assign_30 (by decide) (fun c279 => ?_) (fun c279 => ?_)
    · refine lv_aload_n hx hb dX0_assign_79 rfl (lv_at hl 2 rfl) ?_
      refine p_get (v := .int 5) (C := RX7) (Tc := TX7) (N := 11) (ci := 13) hx hb hq pin_wsX70 hown hE hP hO (by rw [hqT]; decide) (rep_1 hqT) rfl 0 (by decide) (hq _ pw_166) (fun _ h9 => h9) (congrArg (fun z => some (Value.int z)) hkd) dX0_assign_80 ?_
      refine lv_bipush (v := 14) hx hb dX0_assign_83 (by decide) ?_
      refine lv_icmp_ne (tgt := 121) hx hb dX0_assign_85 (by decide) (fun c280 => ?_) (fun c280 => absurd c280 (by decide))
      refine lv_aload_n hx hb dX0_assign_121 rfl (lv_at hl 2 rfl) ?_
      refine p_get (v := .int 5) (C := RX7) (Tc := TX7) (N := 11) (ci := 13) hx hb hq pin_wsX70 hown hE hP hO (by rw [hqT]; decide) (rep_1 hqT) rfl 0 (by decide) (hq _ pw_166) (fun _ h9 => h9) (congrArg (fun z => some (Value.int z)) hkd) dX0_assign_122 ?_
      refine lv_iconst (v := 5) hx hb dX0_assign_125 (by decide) ?_
      refine lv_icmp_ne (tgt := 137) hx hb dX0_assign_126 (by decide) (fun c281 => absurd c281 (by decide)) (fun c281 => ?_)
      refine lv_aload_n hx hb dX0_assign_129 rfl (lv_at hl 1 rfl) ?_
      refine lv_aload_n hx hb dX0_assign_130 rfl (lv_at hl 2 rfl) ?_
      have hO : OKP G h0 a (upd (upd (upd (upd (upd (upd (upd (upd (upd (upd F 2 (nI sz)) 5 (nI cs)) 6 (nI rg)) 7 (nI hd)) 8 (nI dp)) 12 (nI vr)) 16 ls9) 2 (nI sz)) 5 (nI cs)) 12 (nI vr)) (updR (updR (updR (updR (updR R 2 (.ref pq)) 3 (.ref mq)) 4 (va_rf lo)) 2 (.ref pq)) 3 (.ref mq)) Z B J K w := hO.to rfl
      obtain ⟨_, qr285, hqr286⟩ := hO.2.1 24 _ (sg_24 G h0 a _ _ _ _ _)
      refine pn_V0 (G := G) (As := [.ref q]) (rest := []) hx hb hml hown hq hE hX pX0_al hP hD hS hA hl.1 (B_ownField l G h0 a (upd (upd (upd (upd (upd (upd (upd F 2 (nI sz)) 5 (nI cs)) 6 (nI rg)) 7 (nI hd)) 8 (nI dp)) 12 (nI vr)) 16 ls9) (updR (updR (updR R 2 (.ref pq)) 3 (.ref mq)) 4 (va_rf lo)) Z B J K w pq dr ml nd nm cp it s9 q mq cs vr sz n g rk (by omega) (BdE.wp BdE.rfl hwp) (BdE.pt BdE.rfl hwp hps) (BdE.rko BdE.rfl hrk) (by omega) (by omega) hng hmq hqT hqL hO hl0) (gV pw_290 pw_291 pw_292 pw_63 pw_289) hV_X0_ownField qr285 0 hqr286 rfl rfl rfl (Nat.le_of_ble_eq_true rfl) dX0_assign_131 ⟨(by show 0 + 1 ≤ 1; omega), (by show 0 + 6 ≤ 6; omega)⟩ ⟨(by show (5 * n + 33) + 1 ≤ (5 * n + 36); omega), (by show 8 + (2 + 11) + (200 * n + 560) ≤ (200 * n + 660); omega)⟩ (fun v284 u282 H locs hw283 hP hD hS => ?_) (fun ux ce9 q9 H9 locs9 hux hP9 hD9 hS9 hce hcv hcl => pb_out ux (ThQ.up (Thx.same (Thx.same (Thx.same Thx.rfl rfl) rfl) rfl) (show RhX (updR (updR (updR R 2 (.ref pq)) 3 (.ref mq)) 4 (va_rf lo)) (updR (updR (updR (updR (updR R 2 (.ref pq)) 3 (.ref mq)) 4 (va_rf lo)) 2 (.ref pq)) 3 (.ref mq)) from fun k9 hk9 => by unfold updR; simp only [show ¬ k9 = 1 by omega, show ¬ k9 = 2 by omega, show ¬ k9 = 3 by omega, show ¬ k9 = 4 by omega, if_false]) hux) hnt hlocks hce hcv hcl hP9 hD9 hS9 (by show 0 + 1 ≤ 1; omega) (by show 0 + 6 ≤ 6; omega))
      obtain ⟨w, K287, B288, cs289, as290, wt291, wf292, r293⟩ := u282
      obtain ⟨hw283, h294, h295, h296, hO⟩ := hw283
      have h294 : BdE K K287 := h294
      have h295 : Bth B B288 := h295
      have h296 : cs289 ≤ 10000 := h296
      obtain rfl : v284 = some (.int r293) := hw283
      have hf297 : K287.1 pq = 7 := (BdE.T h294 hp1 (by decide))
      have hf298 : K287.2.2.1 18 pq = some (a 1) := (BdE.C h294 (by rw [hp1]; decide) 18).trans hp2
      have hf299 : K287.2.2.1 14 pq = some dr := (BdE.C h294 (by rw [hp1]; decide) 14).trans hp3
      have hf300 : K287.1 dr = 8 := (BdE.T h294 hp4 (by decide))
      have hf301 : K287.2.2.1 15 pq = some ml := (BdE.C h294 (by rw [hp1]; decide) 15).trans hp5
      have hf302 : K287.1 ml = 5 := (BdE.T h294 hp6 (by decide))
      have hf303 : K287.2.1 24 pq = (nI nd) := (BdE.I h294 (by rw [hp1]; decide) (by decide) (by decide)).trans hp8
      have hf304 : K287.1 q = 1 := (BdE.T h294 hqT (by decide))
      have hf305 : K287.1 mq = 3 := (BdE.T h294 hmq (by decide))
      have hf306 : K287.2.2.1 5 mq = some dO := (BdE.C h294 (by rw [hmq]; decide) 5).trans hdO
      have hf307 : K287.1 dO = 4 := (BdE.T h294 htO (by decide))
      have hf308 : K287.2.1 0 q = 5 := (BdE.I h294 (by rw [hqT]; decide) (by decide) (by decide)).trans hkd
      have hf309 : K287.1 q2 = 1 := (BdE.T h294 ht1 (by decide))
      have hO : OKP G h0 a (upd (upd (upd (upd (upd (upd (upd (upd (upd (upd F 2 (nI sz)) 5 (nI cs289)) 6 (nI rg)) 7 (nI hd)) 8 (nI dp)) 12 (nI vr)) 13 as290) 14 wt291) 15 wf292) 16 ls9) (updR (updR (updR R 2 (.ref pq)) 3 (.ref mq)) 4 (va_rf lo)) Z B288 J K287 w := hO.to rfl
      refine W.widen (k := 0) (n := 0) (by show 0 + 0 ≤ 0; omega) (by show 0 + 0 ≤ 0; omega) ?_
      refine W.eq (g2 := F0 m 134 ls [.int r293]) rfl ?_
      have hbe310 := BdE.trans BdE.rfl h294
      have hbb311 : Bth B B288 := Bth.trans (show Thx (upd (upd (upd (upd (upd (upd (upd F 2 (nI sz)) 5 (nI cs)) 6 (nI rg)) 7 (nI hd)) 8 (nI dp)) 12 (nI vr)) 16 ls9) (upd (upd (upd (upd (upd (upd (upd F 2 (nI sz)) 5 (nI cs)) 6 (nI rg)) 7 (nI hd)) 8 (nI dp)) 12 (nI vr)) 16 ls9) B B from Thx.rfl).2 h295
      have hng312 : Nng (B288 18) := h295.2 hng
      refine lv_goto (tgt := 142) hx hb dX0_assign_134 (by decide) ?_
      refine lv_istore (lv' := [(4, .int r293), (3, .int r277), (0, .ref (a 4)), (1, .ref q), (2, .ref q2)]) hx hb dX0_assign_142 hl (by decide) rfl (fun ls hl => ?_)
      refine lv_aload_n hx hb dX0_assign_144 rfl (lv_at hl 2 rfl) ?_
      refine lv_aload_n hx hb dX0_assign_145 rfl (lv_at hl 4 rfl) ?_
      refine lv_aload_n hx hb dX0_assign_146 rfl (lv_at hl 2 rfl) ?_
      refine lv_aload_n hx hb dX0_assign_147 rfl (lv_at hl 4 rfl) ?_
      have hO : OKP G h0 a (upd (upd (upd (upd (upd (upd (upd (upd (upd (upd (upd (upd (upd (upd F 2 (nI sz)) 5 (nI cs)) 6 (nI rg)) 7 (nI hd)) 8 (nI dp)) 12 (nI vr)) 16 ls9) 5 (nI cs289)) 13 as290) 14 wt291) 15 wf292) 2 (nI sz)) 5 (nI cs289)) 12 (nI vr)) (updR (updR (updR (updR (updR R 2 (.ref pq)) 3 (.ref mq)) 4 (va_rf lo)) 2 (.ref pq)) 3 (.ref mq)) Z B288 J K287 w := hO.to rfl
      obtain ⟨_, qr316, hqr317⟩ := hO.2.1 24 _ (sg_24 G h0 a _ _ _ _ _)
      refine pn_V0 (G := G) (As := [.ref q2]) (rest := [.ref q2, .ref (a 4)]) hx hb hml hown hq hE hX pX0_al hP hD hS hA hl.1 ((ihv (by omega)) h0 a (upd (upd (upd (upd (upd (upd (upd (upd (upd (upd (upd F 2 (nI sz)) 5 (nI cs)) 6 (nI rg)) 7 (nI hd)) 8 (nI dp)) 12 (nI vr)) 16 ls9) 5 (nI cs289)) 13 as290) 14 wt291) 15 wf292) (updR (updR (updR R 2 (.ref pq)) 3 (.ref mq)) 4 (va_rf lo)) Z B288 J K287 w pq dr ml nd nm cp it s9 q2 mq cs289 vr sz g rk (by omega) (BdE.wp hbe310 hwp) (BdE.pt hbe310 hwp hps) (BdE.rko hbe310 hrk) (by omega) (by omega) hng312 hf305 hf309 ⟨hv1.1, (by have z9 := hv1; omega)⟩ hO hl0) (gV pw_173 pw_174 pw_175 pw_63 pw_224) hV_X0_value qr316 0 hqr317 rfl rfl rfl (Nat.le_of_ble_eq_true rfl) dX0_assign_148 ⟨(by show 0 + 1 ≤ 1; omega), (by show 0 + 6 ≤ 6; omega)⟩ ⟨(by show (5 * (n - 1) + 34) + 1 ≤ (5 * n + 36); omega), (by show 8 + (3 + 11) + (200 * (n - 1) + 600) ≤ (200 * n + 660); omega)⟩ (fun v315 u313 H locs hw314 hP hD hS => ?_) (fun ux ce9 q9 H9 locs9 hux hP9 hD9 hS9 hce hcv hcl => pb_out ux (ThQ.up (Thx.same (Thx.same (Thx.same (Thx.f (Thx.f (Thx.f (Thx.f (Bth.thx hbb311) (by omega)) (by omega)) (by omega)) (by omega)) rfl) rfl) rfl) (show RhX (updR (updR (updR R 2 (.ref pq)) 3 (.ref mq)) 4 (va_rf lo)) (updR (updR (updR (updR (updR R 2 (.ref pq)) 3 (.ref mq)) 4 (va_rf lo)) 2 (.ref pq)) 3 (.ref mq)) from fun k9 hk9 => by unfold updR; simp only [show ¬ k9 = 1 by omega, show ¬ k9 = 2 by omega, show ¬ k9 = 3 by omega, show ¬ k9 = 4 by omega, if_false]) hux) hnt hlocks hce hcv hcl hP9 hD9 hS9 (by show 0 + 1 ≤ 1; omega) (by show 0 + 6 ≤ 6; omega))
      obtain ⟨w, K318, B319, cs320, as321, wt322, wf323, r324⟩ := u313
      obtain ⟨hw314, h325, h326, h327, hO⟩ := hw314
      have h325 : BdE K287 K318 := h325
      have h326 : Bth B288 B319 := h326
      have h327 : cs320 ≤ 10000 := h327
      obtain rfl : v315 = some (.int r324) := hw314
      have hf328 : K318.1 pq = 7 := (BdE.T h325 hf297 (by decide))
      have hf329 : K318.2.2.1 18 pq = some (a 1) := (BdE.C h325 (by rw [hf297]; decide) 18).trans hf298
      have hf330 : K318.2.2.1 14 pq = some dr := (BdE.C h325 (by rw [hf297]; decide) 14).trans hf299
      have hf331 : K318.1 dr = 8 := (BdE.T h325 hf300 (by decide))
      have hf332 : K318.2.2.1 15 pq = some ml := (BdE.C h325 (by rw [hf297]; decide) 15).trans hf301
      have hf333 : K318.1 ml = 5 := (BdE.T h325 hf302 (by decide))
      have hf334 : K318.2.1 24 pq = (nI nd) := (BdE.I h325 (by rw [hf297]; decide) (by decide) (by decide)).trans hf303
      have hf335 : K318.1 q = 1 := (BdE.T h325 hf304 (by decide))
      have hf336 : K318.1 mq = 3 := (BdE.T h325 hf305 (by decide))
      have hf337 : K318.2.2.1 5 mq = some dO := (BdE.C h325 (by rw [hf305]; decide) 5).trans hf306
      have hf338 : K318.1 dO = 4 := (BdE.T h325 hf307 (by decide))
      have hf339 : K318.2.1 0 q = 5 := (BdE.I h325 (by rw [hf304]; decide) (by decide) (by decide)).trans hf308
      have hf340 : K318.1 q2 = 1 := (BdE.T h325 hf309 (by decide))
      have hO : OKP G h0 a (upd (upd (upd (upd (upd (upd (upd (upd (upd (upd F 2 (nI sz)) 5 (nI cs320)) 6 (nI rg)) 7 (nI hd)) 8 (nI dp)) 12 (nI vr)) 13 as321) 14 wt322) 15 wf323) 16 ls9) (updR (updR (updR R 2 (.ref pq)) 3 (.ref mq)) 4 (va_rf lo)) Z B319 J K318 w := hO.to rfl
      refine W.widen (k := 0) (n := 0) (by show 0 + 0 ≤ 0; omega) (by show 0 + 0 ≤ 0; omega) ?_
      refine W.eq (g2 := F0 m 151 ls [.int r324, .ref q2, .ref (a 4)]) rfl ?_
      have hbe341 := BdE.trans hbe310 h325
      have hbb342 : Bth B B319 := Bth.trans (show Thx (upd (upd (upd (upd (upd (upd (upd F 2 (nI sz)) 5 (nI cs)) 6 (nI rg)) 7 (nI hd)) 8 (nI dp)) 12 (nI vr)) 16 ls9) (upd (upd (upd (upd (upd (upd (upd (upd (upd (upd (upd F 2 (nI sz)) 5 (nI cs)) 6 (nI rg)) 7 (nI hd)) 8 (nI dp)) 12 (nI vr)) 16 ls9) 5 (nI cs289)) 13 as290) 14 wt291) 15 wf292) B B288 from (Thx.f (Thx.f (Thx.f (Thx.f (Bth.thx hbb311) (by omega)) (by omega)) (by omega)) (by omega))).2 h326
      have hng343 : Nng (B319 18) := h326.2 hng312
      refine lv_iload hx hb dX0_assign_151 (lv_at hl 0 rfl) ?_
      have hO : OKP G h0 a (upd (upd (upd (upd (upd (upd (upd (upd (upd (upd (upd (upd F 2 (nI sz)) 5 (nI cs)) 6 (nI rg)) 7 (nI hd)) 8 (nI dp)) 12 (nI vr)) 16 ls9) 5 (nI cs320)) 13 as321) 14 wt322) 15 wf323) 2 (nI sz)) (updR (updR (updR (updR R 2 (.ref pq)) 3 (.ref mq)) 4 (va_rf lo)) 2 (.ref pq)) Z B319 J K318 w := hO.to rfl
      obtain ⟨_, qr347, hqr348⟩ := hO.2.1 24 _ (sg_24 G h0 a _ _ _ _ _)
      refine pn_V0 (G := G) (As := [.ref q2, .int r324, .int r293]) (rest := []) hx hb hml hown hq hE hX pX0_al hP hD hS hA hl.1 (B_fit l G h0 a (upd (upd (upd (upd (upd (upd (upd (upd (upd (upd (upd F 2 (nI sz)) 5 (nI cs)) 6 (nI rg)) 7 (nI hd)) 8 (nI dp)) 12 (nI vr)) 16 ls9) 5 (nI cs320)) 13 as321) 14 wt322) 15 wf323) (updR (updR (updR R 2 (.ref pq)) 3 (.ref mq)) 4 (va_rf lo)) Z B319 J K318 w pq dr ml nd q2 sz r324 r293 g (by omega) (BdE.pt hbe341 hwp hps).1 (BdE.pt hbe341 hwp hps).2.1 hf340 hO hl0) (gV pw_176 pw_177 pw_178 pw_63 pw_114) hV_X0_fit qr347 0 hqr348 rfl rfl rfl (Nat.le_of_ble_eq_true rfl) dX0_assign_153 ⟨(by show 0 + 1 ≤ 1; omega), (by show 0 + 6 ≤ 6; omega)⟩ ⟨(by show 7 + 1 ≤ (5 * n + 36); omega), (by show 8 + (4 + 11) + 122 ≤ (200 * n + 660); omega)⟩ (fun v346 u344 H locs hw345 hP hD hS => ?_) (fun ux ce9 q9 H9 locs9 hux hP9 hD9 hS9 hce hcv hcl => pb_out ux (ThQ.up (Thx.same (Thx.f (Thx.f (Thx.f (Thx.f (Bth.thx hbb342) (by omega)) (by omega)) (by omega)) (by omega)) rfl) (show RhX (updR (updR (updR R 2 (.ref pq)) 3 (.ref mq)) 4 (va_rf lo)) (updR (updR (updR (updR R 2 (.ref pq)) 3 (.ref mq)) 4 (va_rf lo)) 2 (.ref pq)) from fun k9 hk9 => by unfold updR; simp only [show ¬ k9 = 1 by omega, show ¬ k9 = 2 by omega, show ¬ k9 = 3 by omega, show ¬ k9 = 4 by omega, if_false]) hux) hnt hlocks hce hcv hcl hP9 hD9 hS9 (by show 0 + 1 ≤ 1; omega) (by show 0 + 6 ≤ 6; omega))
      obtain ⟨w, _⟩ := u344
      obtain ⟨hw345, hO⟩ := hw345
      obtain rfl : v346 = none := hw345
      have hO : OKP G h0 a (upd (upd (upd (upd (upd (upd (upd (upd (upd (upd F 2 (nI sz)) 5 (nI cs320)) 6 (nI rg)) 7 (nI hd)) 8 (nI dp)) 12 (nI vr)) 13 as321) 14 wt322) 15 wf323) 16 ls9) (updR (updR (updR R 2 (.ref pq)) 3 (.ref mq)) 4 (va_rf lo)) Z B319 J K318 w := hO.to rfl
      refine W.widen (k := 0) (n := 0) (by show 0 + 0 ≤ 0; omega) (by show 0 + 0 ≤ 0; omega) ?_
      refine W.eq (g2 := F0 m 156 ls []) rfl ?_
      refine lv_aload_n hx hb dX0_assign_156 rfl (lv_at hl 2 rfl) ?_
      refine c_get (v := .ref (a 2)) (C := RX0) (Tc := TX0) (N := 13) (ci := 0) hx hb hq pin_wsX00 hown hE hP hO 24 (sg_24 G h0 a _ _ _ _ _) rfl 1 (by decide) (hq _ pw_5) (fun _ h9 => h9) rfl dX0_assign_157 ?_
      refine lv_bipush (v := 18) hx hb dX0_assign_160 (by decide) ?_
      refine lv_aload_n hx hb dX0_assign_162 rfl (lv_at hl 3 rfl) ?_
      refine p_get (v := .int (K318.2.1 5 q)) (C := RX7) (Tc := TX7) (N := 11) (ci := 13) hx hb hq pin_wsX70 hown hE hP hO (by rw [hf335]; decide) (rep_1 hf335) rfl 5 (by decide) (hq _ pw_142) (fun _ h9 => h9) rfl dX0_assign_163 ?_
      refine lv_iconst (v := 0) hx hb dX0_assign_166 (by decide) ?_
      have hO : OKW G h0 a (upd (upd (upd (upd (upd (upd (upd (upd (upd (upd (upd F 2 (nI sz)) 5 (nI cs320)) 6 (nI rg)) 7 (nI hd)) 8 (nI dp)) 12 (nI vr)) 13 as321) 14 wt322) 15 wf323) 16 ls9) 5 (nI cs320)) (updR (updR (updR R 2 (.ref pq)) 3 (.ref mq)) 4 (va_rf lo)) Z B319 J K318.1 (fun q99 x99 => x99 = rep G a K318 q99) w := hO.to rfl
      obtain ⟨_, qr352, hqr353⟩ := hO.2.1 13 _ (sg_13 G h0 a _ _ _ _ _)
      refine pc_V0 (G := G) (As := [.int 18, .int (K318.2.1 5 q), .int (nI 0)]) (rest := []) hx hb hml hown hq hE hX pX0_al hP hD hS hA hl.1 (K_emit l G h0 a (upd (upd (upd (upd (upd (upd (upd (upd (upd (upd F 2 (nI sz)) 5 (nI cs320)) 6 (nI rg)) 7 (nI hd)) 8 (nI dp)) 12 (nI vr)) 13 as321) 14 wt322) 15 wf323) 16 ls9) (updR (updR (updR R 2 (.ref pq)) 3 (.ref mq)) 4 (va_rf lo)) Z B319 J K318.1 (fun q99 x99 => x99 = rep G a K318 q99) w 18 (K318.2.1 5 q) 0 cs320 (by omega) (by omega) hng343 hO) (gV pw_129 pw_130 pw_131 pw_70 pw_115) hV_X1_emit qr352 1 hqr353 rfl rfl rfl (Nat.le_of_ble_eq_true rfl) dX0_assign_167 ⟨(by show 0 + 0 ≤ 1; omega), (by show 0 + 0 ≤ 6; omega)⟩ ⟨(by show 2 + 1 ≤ (5 * n + 36); omega), (by show 8 + (4 + 11) + 60 ≤ (200 * n + 660); omega)⟩ (fun v351 u349 H locs hw350 hP hD hS => ?_)
      obtain ⟨w, cs354, f355, f356, f357, f358⟩ := u349
      obtain ⟨hw350, h359, h360, hO⟩ := hw350
      have h359 : cs320 ≤ cs354 ∧ cs354 ≤ cs320 + 1 ∧ cs354 ≤ 10000 := h359
      have h360 : Nng f357 := h360
      obtain rfl : v351 = none := hw350
      have hO : OKP G h0 a (upd (upd (upd (upd (upd (upd (upd (upd (upd (upd F 2 (nI sz)) 5 (nI cs354)) 6 (nI rg)) 7 (nI hd)) 8 (nI dp)) 12 (nI vr)) 13 as321) 14 wt322) 15 wf323) 16 ls9) (updR (updR (updR R 2 (.ref pq)) 3 (.ref mq)) 4 (va_rf lo)) Z (updA (updA (updA (updA B319 16 f355) 17 f356) 18 f357) 19 f358) J K318 w := hO.to rfl
      refine W.widen (k := 0) (n := 0) (Nat.le_of_ble_eq_true rfl) (Nat.le_of_ble_eq_true rfl) ?_
      refine W.eq (g2 := F0 m 170 ls []) rfl ?_
      refine W_size (fun hz1 hz2 => ?_)
      refine vx_ret ?_
      have hz361 : BdE K K318 := hbe341
      have hz362 : Bth B (updA (updA (updA (updA B319 16 f355) 17 f356) 18 f357) 19 f358) := (show Thx (upd (upd (upd (upd (upd (upd (upd F 2 (nI sz)) 5 (nI cs)) 6 (nI rg)) 7 (nI hd)) 8 (nI dp)) 12 (nI vr)) 16 ls9) (upd (upd (upd (upd (upd (upd (upd (upd (upd (upd (upd F 2 (nI sz)) 5 (nI cs)) 6 (nI rg)) 7 (nI hd)) 8 (nI dp)) 12 (nI vr)) 16 ls9) 5 (nI cs354)) 13 as321) 14 wt322) 15 wf323) B (updA (updA (updA (updA B319 16 f355) 17 f356) 18 f357) 19 f358) from (Thx.b (Thx.b8 (Thx.b (Thx.b (Thx.f (Thx.f (Thx.f (Thx.f (Bth.thx hbb342) (by omega)) (by omega)) (by omega)) (by omega)) (by omega) (by decide)) (by omega) (by decide)) h360) (by omega) (by decide))).2
      have hz363 : cs354 ≤ 10000 ∧ rg ≤ 625 ∧ dp ≤ 1000 := (by omega)
      have hz364 : vr ≤ vr ∧ vr ≤ 30 ∧ hd + vr = hd + vr := (by omega)
      have hO : OKP G h0 a (upd (upd (upd (upd (upd (upd (upd (upd (upd (upd F 2 (nI sz)) 5 (nI cs354)) 6 (nI rg)) 7 (nI hd)) 8 (nI dp)) 12 (nI vr)) 13 as321) 14 wt322) 15 wf323) 16 ls9) (updR (updR (updR R 2 (.ref pq)) 3 (.ref mq)) 4 (va_rf lo)) Z (updA (updA (updA (updA B319 16 f355) 17 f356) 18 f357) 19 f358) J K318 w := hO.to rfl
      refine W.widen (k := 1) (n := 6) (by omega) (by omega) ?_
      have hzz1 : H.size ≤ s.heap.size + (0) := (by have z : 0 ≤ 0 := (by omega); omega)
      have hzz2 : hSl H ≤ hSl s.heap + (0) := (by have z : 0 ≤ 0 := (by omega); omega)
      exact W.vret hx hb hr (fun t99 ht99 hW99 => ⟨⟨_, (w, (K318, (updA (updA (updA (updA B319 16 f355) 17 f356) 18 f357) 19 f358), cs354, as321, wt322, wf323, vr, hd, dp, rg, ls9)), rfl, ⟨rfl, hz361, hz362, hz363, hz364, hO⟩, by rw [ht99]; exact hP, hD, by rw [ht99]; exact hzz1, by rw [ht99]; exact hzz2⟩, hS.F ht99⟩) hS.2.2 dX0_assign_170
    · obtain ⟨t9, ht9, hl9⟩ := h278.resolve_left c279
      subst ht9
      have hl : lv_has ls 5 [(3, .int (nI t9)), (0, .ref (a 4)), (1, .ref q), (2, .ref q2)] := hl
      refine lv_aload_n hx hb dX0_assign_33 rfl (lv_at hl 1 rfl) ?_
      refine lv_aload_n hx hb dX0_assign_34 rfl (lv_at hl 3 rfl) ?_
      refine lv_aload_n hx hb dX0_assign_35 rfl (lv_at hl 1 rfl) ?_
      refine lv_aload_n hx hb dX0_assign_36 rfl (lv_at hl 3 rfl) ?_
      have hO : OKP G h0 a (upd (upd (upd (upd (upd (upd (upd (upd (upd (upd F 2 (nI sz)) 5 (nI cs)) 6 (nI rg)) 7 (nI hd)) 8 (nI dp)) 12 (nI vr)) 16 ls9) 2 (nI sz)) 5 (nI cs)) 12 (nI vr)) (updR (updR (updR (updR (updR R 2 (.ref pq)) 3 (.ref mq)) 4 (va_rf lo)) 2 (.ref pq)) 3 (.ref mq)) Z B J K w := hO.to rfl
      obtain ⟨_, qr368, hqr369⟩ := hO.2.1 24 _ (sg_24 G h0 a _ _ _ _ _)
      refine pn_V0 (G := G) (As := [.ref q2]) (rest := [.ref q2, .ref (a 4)]) hx hb hml hown hq hE hX pX0_al hP hD hS hA hl.1 ((ihv (by omega)) h0 a (upd (upd (upd (upd (upd (upd (upd F 2 (nI sz)) 5 (nI cs)) 6 (nI rg)) 7 (nI hd)) 8 (nI dp)) 12 (nI vr)) 16 ls9) (updR (updR (updR R 2 (.ref pq)) 3 (.ref mq)) 4 (va_rf lo)) Z B J K w pq dr ml nd nm cp it s9 q2 mq cs vr sz g rk (by omega) (BdE.wp BdE.rfl hwp) (BdE.pt BdE.rfl hwp hps) (BdE.rko BdE.rfl hrk) (by omega) (by omega) hng hmq ht1 ⟨hv1.1, (by have z9 := hv1; omega)⟩ hO hl0) (gV pw_173 pw_174 pw_175 pw_63 pw_224) hV_X0_value qr368 0 hqr369 rfl rfl rfl (Nat.le_of_ble_eq_true rfl) dX0_assign_37 ⟨(by show 0 + 1 ≤ 1; omega), (by show 0 + 6 ≤ 6; omega)⟩ ⟨(by show (5 * (n - 1) + 34) + 1 ≤ (5 * n + 36); omega), (by show 8 + (3 + 11) + (200 * (n - 1) + 600) ≤ (200 * n + 660); omega)⟩ (fun v367 u365 H locs hw366 hP hD hS => ?_) (fun ux ce9 q9 H9 locs9 hux hP9 hD9 hS9 hce hcv hcl => pb_out ux (ThQ.up (Thx.same (Thx.same (Thx.same Thx.rfl rfl) rfl) rfl) (show RhX (updR (updR (updR R 2 (.ref pq)) 3 (.ref mq)) 4 (va_rf lo)) (updR (updR (updR (updR (updR R 2 (.ref pq)) 3 (.ref mq)) 4 (va_rf lo)) 2 (.ref pq)) 3 (.ref mq)) from fun k9 hk9 => by unfold updR; simp only [show ¬ k9 = 1 by omega, show ¬ k9 = 2 by omega, show ¬ k9 = 3 by omega, show ¬ k9 = 4 by omega, if_false]) hux) hnt hlocks hce hcv hcl hP9 hD9 hS9 (by show 0 + 1 ≤ 1; omega) (by show 0 + 6 ≤ 6; omega))
      obtain ⟨w, K370, B371, cs372, as373, wt374, wf375, r376⟩ := u365
      obtain ⟨hw366, h377, h378, h379, hO⟩ := hw366
      have h377 : BdE K K370 := h377
      have h378 : Bth B B371 := h378
      have h379 : cs372 ≤ 10000 := h379
      obtain rfl : v367 = some (.int r376) := hw366
      have hf380 : K370.1 pq = 7 := (BdE.T h377 hp1 (by decide))
      have hf381 : K370.2.2.1 18 pq = some (a 1) := (BdE.C h377 (by rw [hp1]; decide) 18).trans hp2
      have hf382 : K370.2.2.1 14 pq = some dr := (BdE.C h377 (by rw [hp1]; decide) 14).trans hp3
      have hf383 : K370.1 dr = 8 := (BdE.T h377 hp4 (by decide))
      have hf384 : K370.2.2.1 15 pq = some ml := (BdE.C h377 (by rw [hp1]; decide) 15).trans hp5
      have hf385 : K370.1 ml = 5 := (BdE.T h377 hp6 (by decide))
      have hf386 : K370.2.1 24 pq = (nI nd) := (BdE.I h377 (by rw [hp1]; decide) (by decide) (by decide)).trans hp8
      have hf387 : K370.1 q = 1 := (BdE.T h377 hqT (by decide))
      have hf388 : K370.1 mq = 3 := (BdE.T h377 hmq (by decide))
      have hf389 : K370.2.2.1 5 mq = some dO := (BdE.C h377 (by rw [hmq]; decide) 5).trans hdO
      have hf390 : K370.1 dO = 4 := (BdE.T h377 htO (by decide))
      have hf391 : K370.2.1 0 q = 5 := (BdE.I h377 (by rw [hqT]; decide) (by decide) (by decide)).trans hkd
      have hf392 : K370.1 q2 = 1 := (BdE.T h377 ht1 (by decide))
      have hO : OKP G h0 a (upd (upd (upd (upd (upd (upd (upd (upd (upd (upd F 2 (nI sz)) 5 (nI cs372)) 6 (nI rg)) 7 (nI hd)) 8 (nI dp)) 12 (nI vr)) 13 as373) 14 wt374) 15 wf375) 16 ls9) (updR (updR (updR R 2 (.ref pq)) 3 (.ref mq)) 4 (va_rf lo)) Z B371 J K370 w := hO.to rfl
      refine W.widen (k := 0) (n := 0) (by show 0 + 0 ≤ 0; omega) (by show 0 + 0 ≤ 0; omega) ?_
      refine W.eq (g2 := F0 m 40 ls [.int r376, .ref q2, .ref (a 4)]) rfl ?_
      have hbe393 := BdE.trans BdE.rfl h377
      have hbb394 : Bth B B371 := Bth.trans (show Thx (upd (upd (upd (upd (upd (upd (upd F 2 (nI sz)) 5 (nI cs)) 6 (nI rg)) 7 (nI hd)) 8 (nI dp)) 12 (nI vr)) 16 ls9) (upd (upd (upd (upd (upd (upd (upd F 2 (nI sz)) 5 (nI cs)) 6 (nI rg)) 7 (nI hd)) 8 (nI dp)) 12 (nI vr)) 16 ls9) B B from Thx.rfl).2 h378
      have hng395 : Nng (B371 18) := h378.2 hng
      refine lv_aload_n hx hb dX0_assign_40 rfl (lv_at hl 1 rfl) ?_
      refine c_get (v := .ref (a 26)) (C := RX0) (Tc := TX0) (N := 13) (ci := 0) hx hb hq pin_wsX00 hown hE hP hO 24 (sg_24 G h0 a _ _ _ _ _) rfl 3 (by decide) (hq _ pw_8) (fun _ h9 => h9) rfl dX0_assign_41 ?_
      refine lv_iload_n hx hb dX0_assign_44 rfl (lv_at hl 0 rfl) ?_
      refine c_ldi (f := (B371 26)) (n := 30) (t0 := 0) hx hb hE hP hO 26 (sg_26 G h0 a _ _ _ _ _) rfl (vp_in_nI (by omega) (by decide)) dX0_assign_45 ?_
      rw [(nI_clamp (show t9 < 2 ^ 31 by omega))]
      have hO : OKP G h0 a (upd (upd (upd (upd (upd (upd (upd (upd (upd (upd (upd (upd F 2 (nI sz)) 5 (nI cs)) 6 (nI rg)) 7 (nI hd)) 8 (nI dp)) 12 (nI vr)) 16 ls9) 5 (nI cs372)) 13 as373) 14 wt374) 15 wf375) 2 (nI sz)) (updR (updR (updR (updR R 2 (.ref pq)) 3 (.ref mq)) 4 (va_rf lo)) 2 (.ref pq)) Z B371 J K370 w := hO.to rfl
      obtain ⟨_, qr399, hqr400⟩ := hO.2.1 24 _ (sg_24 G h0 a _ _ _ _ _)
      refine pn_V0 (G := G) (As := [.ref q2, .int r376, .int ((B371 26) t9)]) (rest := []) hx hb hml hown hq hE hX pX0_al hP hD hS hA hl.1 (B_fit l G h0 a (upd (upd (upd (upd (upd (upd (upd (upd (upd (upd (upd F 2 (nI sz)) 5 (nI cs)) 6 (nI rg)) 7 (nI hd)) 8 (nI dp)) 12 (nI vr)) 16 ls9) 5 (nI cs372)) 13 as373) 14 wt374) 15 wf375) (updR (updR (updR R 2 (.ref pq)) 3 (.ref mq)) 4 (va_rf lo)) Z B371 J K370 w pq dr ml nd q2 sz r376 ((B371 26) t9) g (by omega) (BdE.pt hbe393 hwp hps).1 (BdE.pt hbe393 hwp hps).2.1 hf392 hO hl0) (gV pw_176 pw_177 pw_178 pw_63 pw_114) hV_X0_fit qr399 0 hqr400 rfl rfl rfl (Nat.le_of_ble_eq_true rfl) dX0_assign_46 ⟨(by show 0 + 1 ≤ 1; omega), (by show 0 + 6 ≤ 6; omega)⟩ ⟨(by show 7 + 1 ≤ (5 * n + 36); omega), (by show 8 + (4 + 11) + 122 ≤ (200 * n + 660); omega)⟩ (fun v398 u396 H locs hw397 hP hD hS => ?_) (fun ux ce9 q9 H9 locs9 hux hP9 hD9 hS9 hce hcv hcl => pb_out ux (ThQ.up (Thx.same (Thx.f (Thx.f (Thx.f (Thx.f (Bth.thx hbb394) (by omega)) (by omega)) (by omega)) (by omega)) rfl) (show RhX (updR (updR (updR R 2 (.ref pq)) 3 (.ref mq)) 4 (va_rf lo)) (updR (updR (updR (updR R 2 (.ref pq)) 3 (.ref mq)) 4 (va_rf lo)) 2 (.ref pq)) from fun k9 hk9 => by unfold updR; simp only [show ¬ k9 = 1 by omega, show ¬ k9 = 2 by omega, show ¬ k9 = 3 by omega, show ¬ k9 = 4 by omega, if_false]) hux) hnt hlocks hce hcv hcl hP9 hD9 hS9 (by show 0 + 1 ≤ 1; omega) (by show 0 + 6 ≤ 6; omega))
      obtain ⟨w, _⟩ := u396
      obtain ⟨hw397, hO⟩ := hw397
      obtain rfl : v398 = none := hw397
      have hO : OKP G h0 a (upd (upd (upd (upd (upd (upd (upd (upd (upd (upd F 2 (nI sz)) 5 (nI cs372)) 6 (nI rg)) 7 (nI hd)) 8 (nI dp)) 12 (nI vr)) 13 as373) 14 wt374) 15 wf375) 16 ls9) (updR (updR (updR R 2 (.ref pq)) 3 (.ref mq)) 4 (va_rf lo)) Z B371 J K370 w := hO.to rfl
      refine W.widen (k := 0) (n := 0) (by show 0 + 0 ≤ 0; omega) (by show 0 + 0 ≤ 0; omega) ?_
      refine W.eq (g2 := F0 m 49 ls []) rfl ?_
      refine lv_aload_n hx hb dX0_assign_49 rfl (lv_at hl 1 rfl) ?_
      refine c_get (v := .ref (a 2)) (C := RX0) (Tc := TX0) (N := 13) (ci := 0) hx hb hq pin_wsX00 hown hE hP hO 24 (sg_24 G h0 a _ _ _ _ _) rfl 1 (by decide) (hq _ pw_5) (fun _ h9 => h9) rfl dX0_assign_50 ?_
      refine lv_iconst (v := 3) hx hb dX0_assign_53 (by decide) ?_
      refine lv_aload_n hx hb dX0_assign_54 rfl (lv_at hl 1 rfl) ?_
      refine c_get (v := .ref (a 27)) (C := RX0) (Tc := TX0) (N := 13) (ci := 0) hx hb hq pin_wsX00 hown hE hP hO 24 (sg_24 G h0 a _ _ _ _ _) rfl 4 (by decide) (hq _ pw_9) (fun _ h9 => h9) rfl dX0_assign_55 ?_
      refine lv_iload_n hx hb dX0_assign_58 rfl (lv_at hl 0 rfl) ?_
      refine c_ldi (f := (B371 27)) (n := 30) (t0 := 0) hx hb hE hP hO 27 (sg_27 G h0 a _ _ _ _ _) rfl (vp_in_nI (by omega) (by decide)) dX0_assign_59 ?_
      rw [(nI_clamp (show t9 < 2 ^ 31 by omega))]
      refine lv_iconst (v := 0) hx hb dX0_assign_60 (by decide) ?_
      have hO : OKW G h0 a (upd (upd (upd (upd (upd (upd (upd (upd (upd (upd (upd F 2 (nI sz)) 5 (nI cs372)) 6 (nI rg)) 7 (nI hd)) 8 (nI dp)) 12 (nI vr)) 13 as373) 14 wt374) 15 wf375) 16 ls9) 5 (nI cs372)) (updR (updR (updR R 2 (.ref pq)) 3 (.ref mq)) 4 (va_rf lo)) Z B371 J K370.1 (fun q99 x99 => x99 = rep G a K370 q99) w := hO.to rfl
      obtain ⟨_, qr404, hqr405⟩ := hO.2.1 13 _ (sg_13 G h0 a _ _ _ _ _)
      refine pc_V0 (G := G) (As := [.int 3, .int ((B371 27) t9), .int (nI 0)]) (rest := []) hx hb hml hown hq hE hX pX0_al hP hD hS hA hl.1 (K_emit l G h0 a (upd (upd (upd (upd (upd (upd (upd (upd (upd (upd F 2 (nI sz)) 5 (nI cs372)) 6 (nI rg)) 7 (nI hd)) 8 (nI dp)) 12 (nI vr)) 13 as373) 14 wt374) 15 wf375) 16 ls9) (updR (updR (updR R 2 (.ref pq)) 3 (.ref mq)) 4 (va_rf lo)) Z B371 J K370.1 (fun q99 x99 => x99 = rep G a K370 q99) w 3 ((B371 27) t9) 0 cs372 (by omega) (by omega) hng395 hO) (gV pw_129 pw_130 pw_131 pw_70 pw_115) hV_X1_emit qr404 1 hqr405 rfl rfl rfl (Nat.le_of_ble_eq_true rfl) dX0_assign_61 ⟨(by show 0 + 0 ≤ 1; omega), (by show 0 + 0 ≤ 6; omega)⟩ ⟨(by show 2 + 1 ≤ (5 * n + 36); omega), (by show 8 + (4 + 11) + 60 ≤ (200 * n + 660); omega)⟩ (fun v403 u401 H locs hw402 hP hD hS => ?_)
      obtain ⟨w, cs406, f407, f408, f409, f410⟩ := u401
      obtain ⟨hw402, h411, h412, hO⟩ := hw402
      have h411 : cs372 ≤ cs406 ∧ cs406 ≤ cs372 + 1 ∧ cs406 ≤ 10000 := h411
      have h412 : Nng f409 := h412
      obtain rfl : v403 = none := hw402
      have hO : OKP G h0 a (upd (upd (upd (upd (upd (upd (upd (upd (upd (upd F 2 (nI sz)) 5 (nI cs406)) 6 (nI rg)) 7 (nI hd)) 8 (nI dp)) 12 (nI vr)) 13 as373) 14 wt374) 15 wf375) 16 ls9) (updR (updR (updR R 2 (.ref pq)) 3 (.ref mq)) 4 (va_rf lo)) Z (updA (updA (updA (updA B371 16 f407) 17 f408) 18 f409) 19 f410) J K370 w := hO.to rfl
      refine W.widen (k := 0) (n := 0) (Nat.le_of_ble_eq_true rfl) (Nat.le_of_ble_eq_true rfl) ?_
      refine W.eq (g2 := F0 m 64 ls []) rfl ?_
      refine lv_aload_n hx hb dX0_assign_64 rfl (lv_at hl 1 rfl) ?_
      refine lv_dup hx hb dX0_assign_65 rfl ?_
      refine c_get (v := .int as373) (C := RX0) (Tc := TX0) (N := 13) (ci := 0) hx hb hq pin_wsX00 hown hE hP hO 24 (sg_24 G h0 a _ _ _ _ _) rfl 8 (by decide) (hq _ pw_55) (fun _ h9 => h9) rfl dX0_assign_66 ?_
      refine lv_iconst (v := 1) hx hb dX0_assign_69 (by decide) ?_
      refine lv_iload_n hx hb dX0_assign_70 rfl (lv_at hl 0 rfl) ?_
      refine lv_ishl hx hb dX0_assign_71 ?_
      refine lv_topi (fun x413 e414 => ?_)
      refine lv_ior hx hb dX0_assign_72 ?_
      refine lv_topi (fun x415 e416 => ?_)
      refine c_put (v := .int x415) (ty := .int) (C := RX0) (Tc := TX0) (N := 13) (ci := 0) hx hb hq pin_wsX00 tyX0 tyX0_ok nmX0 hown hE hP hD hS hO 24 (sg_24 G h0 a _ _ _ _ _) rfl 8 (by decide) (hq _ pw_55) (fun _ h9 => h9) rfl (by decide +kernel) rfl rfl (Nat.le_of_ble_eq_true rfl) (sf_13 G h0 a _ _ _ _ _ x415) dX0_assign_73 (fun H locs w hP hD hS hO => ?_)
      refine lv_goto (tgt := 170) hx hb dX0_assign_76 (by decide) ?_
      refine W_size (fun hz1 hz2 => ?_)
      refine vx_ret ?_
      have hz417 : BdE K K370 := hbe393
      have hz418 : Bth B (updA (updA (updA (updA B371 16 f407) 17 f408) 18 f409) 19 f410) := (show Thx (upd (upd (upd (upd (upd (upd (upd F 2 (nI sz)) 5 (nI cs)) 6 (nI rg)) 7 (nI hd)) 8 (nI dp)) 12 (nI vr)) 16 ls9) (upd (upd (upd (upd (upd (upd (upd (upd (upd (upd (upd F 2 (nI sz)) 5 (nI cs)) 6 (nI rg)) 7 (nI hd)) 8 (nI dp)) 12 (nI vr)) 16 ls9) 5 (nI cs406)) 13 x415) 14 wt374) 15 wf375) B (updA (updA (updA (updA B371 16 f407) 17 f408) 18 f409) 19 f410) from (Thx.b (Thx.b8 (Thx.b (Thx.b (Thx.f (Thx.f (Thx.f (Thx.f (Bth.thx hbb394) (by omega)) (by omega)) (by omega)) (by omega)) (by omega) (by decide)) (by omega) (by decide)) h412) (by omega) (by decide))).2
      have hz419 : cs406 ≤ 10000 ∧ rg ≤ 625 ∧ dp ≤ 1000 := (by omega)
      have hz420 : vr ≤ vr ∧ vr ≤ 30 ∧ hd + vr = hd + vr := (by omega)
      have hO : OKP G h0 a (upd (upd (upd (upd (upd (upd (upd (upd (upd (upd F 2 (nI sz)) 5 (nI cs406)) 6 (nI rg)) 7 (nI hd)) 8 (nI dp)) 12 (nI vr)) 13 x415) 14 wt374) 15 wf375) 16 ls9) (updR (updR (updR R 2 (.ref pq)) 3 (.ref mq)) 4 (va_rf lo)) Z (updA (updA (updA (updA B371 16 f407) 17 f408) 18 f409) 19 f410) J K370 w := hO.to rfl
      refine W.widen (k := 1) (n := 6) (by omega) (by omega) ?_
      have hzz1 : H.size ≤ s.heap.size + (0) := (by have z : 0 ≤ 0 := (by omega); omega)
      have hzz2 : hSl H ≤ hSl s.heap + (0) := (by have z : 0 ≤ 0 := (by omega); omega)
      exact W.vret hx hb hr (fun t99 ht99 hW99 => ⟨⟨_, (w, (K370, (updA (updA (updA (updA B371 16 f407) 17 f408) 18 f409) 19 f410), cs406, x415, wt374, wf375, vr, hd, dp, rg, ls9)), rfl, ⟨rfl, hz417, hz418, hz419, hz420, hO⟩, by rw [ht99]; exact hP, hD, by rw [ht99]; exact hzz1, by rw [ht99]; exact hzz2⟩, hS.F ht99⟩) hS.2.2 dX0_assign_170
theorem dX0_loopCondition_0 : decode cX0_loopCondition 0 = .ok (.aload_n 1, 1) := by decide +kernel
theorem dX0_loopCondition_1 : decode cX0_loopCondition 1 = .ok (.ifnonnull 18, 3) := by decide +kernel
theorem dX0_loopCondition_4 : decode cX0_loopCondition 4 = .ok (.aload_n 0, 1) := by decide +kernel
theorem dX0_loopCondition_5 : decode cX0_loopCondition 5 = .ok (.aload_n 0, 1) := by decide +kernel
theorem dX0_loopCondition_6 : decode cX0_loopCondition 6 = .ok (.getfield 94, 3) := by decide +kernel
theorem dX0_loopCondition_9 : decode cX0_loopCondition 9 = .ok (.putfield 240, 3) := by decide +kernel
theorem dX0_loopCondition_12 : decode cX0_loopCondition 12 = .ok (.aload_n 0, 1) := by decide +kernel
theorem dX0_loopCondition_13 : decode cX0_loopCondition 13 = .ok (.iconst (-1), 1) := by decide +kernel
theorem dX0_loopCondition_14 : decode cX0_loopCondition 14 = .ok (.putfield 237, 3) := by decide +kernel
theorem dX0_loopCondition_17 : decode cX0_loopCondition 17 = .ok (.iconst (-1), 1) := by decide +kernel
theorem dX0_loopCondition_18 : decode cX0_loopCondition 18 = .ok (.ireturn, 1) := by decide +kernel
set_option maxHeartbeats 16000000 in
set_option maxRecDepth 100000 in
theorem B_loopCondN (l : Launch) (G : pT) (h0 : Nat) (a : Nat → Nat) (F : Nat → Int32) (R : Nat → Value) (Z : Int64) (B : Nat → Nat → Int32) (J : Nat → Nat → Int64) (K : PK) (w : va_W) (pq : Nat) (dr : Nat) (ml : Nat) (nd : Nat) (nm : Nat) (cp : Nat) (it : Nat → Nat) (s9 : Nat) (q : Nat) (mq : Nat) (cs : Nat) (vr : Nat) (sz : Nat) (n : Nat) (g : Nat → Nat → Nat) (rk : Nat → Nat) (hsz : sz ≤ 5000) (hwp : WPr G K g) (hps : PgT G K g (a 1) pq dr ml nd nm cp it s9) (hrk : RkO K rk) (hcs : cs ≤ 10000) (hvr : vr ≤ 30) (hng : Nng (B 18)) (hmq : K.1 mq = 3) (hqT : K.1 q = 1) (hqL : 1 ≤ g 0 q ∧ g 0 q ≤ n) (hO : OKP G h0 a (upd (upd (upd F 2 (nI sz)) 5 (nI cs)) 12 (nI vr)) (updR (updR R 2 (.ref pq)) 3 (.ref mq)) Z B J K w) (hl0 : l.stackTraces = false) : PBn l G pX0 yX0_loopCondition cX0_loopCondition 2 (some .int) ({ frames := (5 * n + 33), cells := 1, slots := 6, locals := (200 * n + 560) }) [.ref (a 4), .null] w (fun (v : Option Value) (u : va_W × (PK × (Nat → Nat → Int32) × Nat × Int32 × Int32 × Int32 × Int32)) => v = some (.int u.2.2.2.2.2.2.2) ∧ (BdE K u.2.1) ∧ (Bth B u.2.2.1) ∧ (u.2.2.2.1 ≤ 10000) ∧ (OKP G h0 a (upd (upd (upd (upd (upd (upd F 2 (nI sz)) 5 (nI u.2.2.2.1)) 12 (nI vr)) 13 u.2.2.2.2.1) 14 u.2.2.2.2.2.1) 15 u.2.2.2.2.2.2.1) (updR (updR R 2 (.ref pq)) 3 (.ref mq)) Z u.2.2.1 J u.2.1 u.1)) (fun u => u.1) (fun (u : va_W × (PK × (Nat → Nat → Int32) × Nat × Int32 × Int32 × Int32 × Int32)) => 0) (fun (u : va_W × (PK × (Nat → Nat → Int32) × Nat × Int32 × Int32 × Int32 × Int32)) => 0) (fun (u : va_W × (Nat → Int32) × (Nat → Value) × (Nat → Nat → Int32)) => ThQ G h0 a (upd (upd (upd F 2 (nI sz)) 5 (nI cs)) 12 (nI vr)) (updR (updR R 2 (.ref pq)) 3 (.ref mq)) Z B J u) (fun u => u.1) := by
  intro sz
  refine vx_ofW (cc := cX0_loopCondition) (maxL := 2) (ret := (some .int)) (by decide) rfl ?_
  intro p e s m args below meth c s₁ B9 hml hnt hv
  obtain ⟨rfl, hsz, hP, hD0, hE, hX⟩ := hv
  have hx := B9.exec
  have hb := B9.bytes
  have hr := B9.returns
  have hts := atoms_spec (ws := Cond.code yX0_loopCondition cX0_loopCondition 2 (some .int) :: pw) B9.pre
  have hq : ∀ w ∈ pw, w.before _ s = true := fun w h => hts w (List.mem_cons_of_mem _ h)
  have hown : s.vm.findClass RX0 = some m.cls := findClass_of_methodNamed B9.named
  have hlocks := B9.notSynchronized
  subst hsz
  have hD := hD0.self (sz := s.heap.size)
  have hA : ∀ q : Nat, s.heap.size ≤ q → va_A w s.heap.size q := fun q h => Or.inr h
  generalize va_A w s.heap.size = A at hD hE hA ⊢
  have hS : va_S A s.heap s.heap [] := va_S.rf
  have hl := lv_entry ([.ref (a 4), .null]) (n := 2) (Nat.le_of_ble_eq_true rfl)
  rw [lg_entry_eq]
  generalize (lg_sl ([.ref (a 4), .null]) ++ List.replicate (2 - (lg_sl ([.ref (a 4), .null])).length) Slot.unset).toArray = ls at hl ⊢
  have hl : lv_has ls 2 [(0, .ref (a 4)), (1, .null)] := hl
  have hpg := hps.1
  have hp1 := hpg.1
  have hp2 := hpg.2.1
  have hp3 := hpg.2.2.1
  have hp4 := hpg.2.2.2.1
  have hp5 := hpg.2.2.2.2.1
  have hp6 := hpg.2.2.2.2.2.1
  have hp8 := hpg.2.2.2.2.2.2.2.1
  have hp9 := hpg.2.2.2.2.2.2.2.2
  refine lv_aload_nN hx hb dX0_loopCondition_0 rfl (lv_at hl 1 rfl) ?_
  refine lv_ifnonnullN hx hb dX0_loopCondition_1 ?_
  refine lv_aload_n hx hb dX0_loopCondition_4 rfl (lv_at hl 0 rfl) ?_
  refine lv_aload_n hx hb dX0_loopCondition_5 rfl (lv_at hl 0 rfl) ?_
  refine c_get (v := .int (F 13)) (C := RX0) (Tc := TX0) (N := 13) (ci := 0) hx hb hq pin_wsX00 hown hE hP hO 24 (sg_24 G h0 a _ _ _ _ _) rfl 8 (by decide) (hq _ pw_55) (fun _ h9 => h9) rfl dX0_loopCondition_6 ?_
  refine c_put (v := .int (F 13)) (ty := .int) (C := RX0) (Tc := TX0) (N := 13) (ci := 0) hx hb hq pin_wsX00 tyX0 tyX0_ok nmX0 hown hE hP hD hS hO 24 (sg_24 G h0 a _ _ _ _ _) rfl 9 (by decide) (hq _ pw_156) (fun _ h9 => h9) rfl (by decide +kernel) rfl rfl (Nat.le_of_ble_eq_true rfl) (sf_14 G h0 a _ _ _ _ _ (F 13)) dX0_loopCondition_9 (fun H locs w hP hD hS hO => ?_)
  refine lv_aload_n hx hb dX0_loopCondition_12 rfl (lv_at hl 0 rfl) ?_
  refine lv_iconst (v := (-1)) hx hb dX0_loopCondition_13 (by decide) ?_
  refine c_put (v := .int (-1)) (ty := .int) (C := RX0) (Tc := TX0) (N := 13) (ci := 0) hx hb hq pin_wsX00 tyX0 tyX0_ok nmX0 hown hE hP hD hS hO 24 (sg_24 G h0 a _ _ _ _ _) rfl 10 (by decide) (hq _ pw_157) (fun _ h9 => h9) rfl (by decide +kernel) rfl rfl (Nat.le_of_ble_eq_true rfl) (sf_15 G h0 a _ _ _ _ _ (-1)) dX0_loopCondition_14 (fun H locs w hP hD hS hO => ?_)
  refine lv_iconst (v := (-1)) hx hb dX0_loopCondition_17 (by decide) ?_
  refine W_size (fun hz1 hz2 => ?_)
  refine vx_ret ?_
  have hz1 : BdE K K := BdE.rfl
  have hz2 : Bth B B := (show Thx (upd (upd (upd F 2 (nI sz)) 5 (nI cs)) 12 (nI vr)) (upd (upd (upd (upd (upd F 2 (nI sz)) 5 (nI cs)) 12 (nI vr)) 14 (F 13)) 15 (-1)) B B from (Thx.f (Thx.f Thx.rfl (by omega)) (by omega))).2
  have hz3 : cs ≤ 10000 := (by omega)
  have hO : OKP G h0 a (upd (upd (upd (upd (upd (upd F 2 (nI sz)) 5 (nI cs)) 12 (nI vr)) 13 (F 13)) 14 (F 13)) 15 ((-1) : Int32)) (updR (updR R 2 (.ref pq)) 3 (.ref mq)) Z B J K w := hO.to rfl
  refine W.widen (k := 1) (n := 6) (by omega) (by omega) ?_
  have hzz1 : H.size ≤ s.heap.size + (0) := (by have z : 0 ≤ 0 := (by omega); omega)
  have hzz2 : hSl H ≤ hSl s.heap + (0) := (by have z : 0 ≤ 0 := (by omega); omega)
  exact W.iret (v := (-1)) hx hb hr (fun t99 ht99 hW99 => ⟨⟨_, (w, (K, B, cs, (F 13), (F 13), ((-1) : Int32), ((-1) : Int32))), rfl, ⟨rfl, hz1, hz2, hz3, hO⟩, by rw [ht99]; exact hP, hD, by rw [ht99]; exact hzz1, by rw [ht99]; exact hzz2⟩, hS.F ht99⟩) hS.2.2 dX0_loopCondition_18
theorem dX0_loopCondition_19 : decode cX0_loopCondition 19 = .ok (.aload_n 0, 1) := by decide +kernel
theorem dX0_loopCondition_20 : decode cX0_loopCondition 20 = .ok (.aload_n 1, 1) := by decide +kernel
theorem dX0_loopCondition_21 : decode cX0_loopCondition 21 = .ok (.aload_n 0, 1) := by decide +kernel
theorem dX0_loopCondition_22 : decode cX0_loopCondition 22 = .ok (.aload_n 1, 1) := by decide +kernel
theorem dX0_loopCondition_23 : decode cX0_loopCondition 23 = .ok (.invokevirtual 209, 3) := by decide +kernel
theorem dX0_loopCondition_26 : decode cX0_loopCondition 26 = .ok (.bipush 61, 2) := by decide +kernel
theorem dX0_loopCondition_28 : decode cX0_loopCondition 28 = .ok (.invokevirtual 213, 3) := by decide +kernel
theorem dX0_loopCondition_31 : decode cX0_loopCondition 31 = .ok (.aload_n 0, 1) := by decide +kernel
theorem dX0_loopCondition_32 : decode cX0_loopCondition 32 = .ok (.getfield 15, 3) := by decide +kernel
theorem dX0_loopCondition_35 : decode cX0_loopCondition 35 = .ok (.bipush 7, 2) := by decide +kernel
theorem dX0_loopCondition_37 : decode cX0_loopCondition 37 = .ok (.iconst (-1), 1) := by decide +kernel
theorem dX0_loopCondition_38 : decode cX0_loopCondition 38 = .ok (.iconst 0, 1) := by decide +kernel
theorem dX0_loopCondition_39 : decode cX0_loopCondition 39 = .ok (.invokevirtual 243, 3) := by decide +kernel
theorem dX0_loopCondition_42 : decode cX0_loopCondition 42 = .ok (.ireturn, 1) := by decide +kernel
set_option maxHeartbeats 16000000 in
set_option maxRecDepth 100000 in
theorem B_loopCond (l : Launch) (G : pT) (h0 : Nat) (a : Nat → Nat) (F : Nat → Int32) (R : Nat → Value) (Z : Int64) (B : Nat → Nat → Int32) (J : Nat → Nat → Int64) (K : PK) (w : va_W) (pq : Nat) (dr : Nat) (ml : Nat) (nd : Nat) (nm : Nat) (cp : Nat) (it : Nat → Nat) (s9 : Nat) (q : Nat) (mq : Nat) (cs : Nat) (vr : Nat) (sz : Nat) (n : Nat) (g : Nat → Nat → Nat) (rk : Nat → Nat) (hsz : sz ≤ 5000) (hwp : WPr G K g) (hps : PgT G K g (a 1) pq dr ml nd nm cp it s9) (hrk : RkO K rk) (hcs : cs ≤ 10000) (hvr : vr ≤ 30) (hng : Nng (B 18)) (hmq : K.1 mq = 3) (hqT : K.1 q = 1) (hqL : 1 ≤ g 0 q ∧ g 0 q ≤ n) (pv : PVa l G n) (hO : OKP G h0 a (upd (upd (upd F 2 (nI sz)) 5 (nI cs)) 12 (nI vr)) (updR (updR R 2 (.ref pq)) 3 (.ref mq)) Z B J K w) (hl0 : l.stackTraces = false) : PBn l G pX0 yX0_loopCondition cX0_loopCondition 2 (some .int) ({ frames := (5 * n + 35), cells := 1, slots := 6, locals := (200 * n + 640) }) [.ref (a 4), .ref q] w (fun (v : Option Value) (u : va_W × (PK × (Nat → Nat → Int32) × Nat × Int32 × Int32 × Int32 × Int32)) => v = some (.int u.2.2.2.2.2.2.2) ∧ (BdE K u.2.1) ∧ (Bth B u.2.2.1) ∧ (u.2.2.2.1 ≤ 10000) ∧ (OKP G h0 a (upd (upd (upd (upd (upd (upd F 2 (nI sz)) 5 (nI u.2.2.2.1)) 12 (nI vr)) 13 u.2.2.2.2.1) 14 u.2.2.2.2.2.1) 15 u.2.2.2.2.2.2.1) (updR (updR R 2 (.ref pq)) 3 (.ref mq)) Z u.2.2.1 J u.2.1 u.1)) (fun u => u.1) (fun (u : va_W × (PK × (Nat → Nat → Int32) × Nat × Int32 × Int32 × Int32 × Int32)) => 0) (fun (u : va_W × (PK × (Nat → Nat → Int32) × Nat × Int32 × Int32 × Int32 × Int32)) => 0) (fun (u : va_W × (Nat → Int32) × (Nat → Value) × (Nat → Nat → Int32)) => ThQ G h0 a (upd (upd (upd F 2 (nI sz)) 5 (nI cs)) 12 (nI vr)) (updR (updR R 2 (.ref pq)) 3 (.ref mq)) Z B J u) (fun u => u.1) := by
  intro sz
  refine vx_ofW (cc := cX0_loopCondition) (maxL := 2) (ret := (some .int)) (by decide) rfl ?_
  intro p e s m args below meth c s₁ B9 hml hnt hv
  obtain ⟨rfl, hsz, hP, hD0, hE, hX⟩ := hv
  have hx := B9.exec
  have hb := B9.bytes
  have hr := B9.returns
  have hts := atoms_spec (ws := Cond.code yX0_loopCondition cX0_loopCondition 2 (some .int) :: pw) B9.pre
  have hq : ∀ w ∈ pw, w.before _ s = true := fun w h => hts w (List.mem_cons_of_mem _ h)
  have hown : s.vm.findClass RX0 = some m.cls := findClass_of_methodNamed B9.named
  have hlocks := B9.notSynchronized
  subst hsz
  have hD := hD0.self (sz := s.heap.size)
  have hA : ∀ q : Nat, s.heap.size ≤ q → va_A w s.heap.size q := fun q h => Or.inr h
  generalize va_A w s.heap.size = A at hD hE hA ⊢
  have hS : va_S A s.heap s.heap [] := va_S.rf
  have hl := lv_entry ([.ref (a 4), .ref q]) (n := 2) (Nat.le_of_ble_eq_true rfl)
  rw [lg_entry_eq]
  generalize (lg_sl ([.ref (a 4), .ref q]) ++ List.replicate (2 - (lg_sl ([.ref (a 4), .ref q])).length) Slot.unset).toArray = ls at hl ⊢
  have hl : lv_has ls 2 [(0, .ref (a 4)), (1, .ref q)] := hl
  have hpg := hps.1
  have hp1 := hpg.1
  have hp2 := hpg.2.1
  have hp3 := hpg.2.2.1
  have hp4 := hpg.2.2.2.1
  have hp5 := hpg.2.2.2.2.1
  have hp6 := hpg.2.2.2.2.2.1
  have hp8 := hpg.2.2.2.2.2.2.2.1
  have hp9 := hpg.2.2.2.2.2.2.2.2
  refine lv_aload_n hx hb dX0_loopCondition_0 rfl (lv_at hl 1 rfl) ?_
  refine lv_ifnonnull (tgt := 19) hx hb dX0_loopCondition_1 (by decide) ?_
  refine lv_aload_n hx hb dX0_loopCondition_19 rfl (lv_at hl 0 rfl) ?_
  refine lv_aload_n hx hb dX0_loopCondition_20 rfl (lv_at hl 1 rfl) ?_
  refine lv_aload_n hx hb dX0_loopCondition_21 rfl (lv_at hl 0 rfl) ?_
  refine lv_aload_n hx hb dX0_loopCondition_22 rfl (lv_at hl 1 rfl) ?_
  have hO : OKP G h0 a (upd (upd (upd (upd (upd (upd F 2 (nI sz)) 5 (nI cs)) 12 (nI vr)) 2 (nI sz)) 5 (nI cs)) 12 (nI vr)) (updR (updR (updR (updR R 2 (.ref pq)) 3 (.ref mq)) 2 (.ref pq)) 3 (.ref mq)) Z B J K w := hO.to rfl
  obtain ⟨_, qr4, hqr5⟩ := hO.2.1 24 _ (sg_24 G h0 a _ _ _ _ _)
  refine pn_V0 (G := G) (As := [.ref q]) (rest := [.ref q, .ref (a 4)]) hx hb hml hown hq hE hX pX0_al hP hD hS hA hl.1 (pv h0 a (upd (upd (upd F 2 (nI sz)) 5 (nI cs)) 12 (nI vr)) (updR (updR R 2 (.ref pq)) 3 (.ref mq)) Z B J K w pq dr ml nd nm cp it s9 q mq cs vr sz g rk (by omega) (BdE.wp BdE.rfl hwp) (BdE.pt BdE.rfl hwp hps) (BdE.rko BdE.rfl hrk) (by omega) (by omega) hng hmq hqT hqL hO hl0) (gV pw_173 pw_174 pw_175 pw_63 pw_224) hV_X0_value qr4 0 hqr5 rfl rfl rfl (Nat.le_of_ble_eq_true rfl) dX0_loopCondition_23 ⟨(by show 0 + 1 ≤ 1; omega), (by show 0 + 6 ≤ 6; omega)⟩ ⟨(by show (5 * n + 34) + 1 ≤ (5 * n + 35); omega), (by show 8 + (3 + 11) + (200 * n + 600) ≤ (200 * n + 640); omega)⟩ (fun v3 u1 H locs hw2 hP hD hS => ?_) (fun ux ce9 q9 H9 locs9 hux hP9 hD9 hS9 hce hcv hcl => pb_out ux (ThQ.up (Thx.same (Thx.same (Thx.same Thx.rfl rfl) rfl) rfl) (show RhX (updR (updR R 2 (.ref pq)) 3 (.ref mq)) (updR (updR (updR (updR R 2 (.ref pq)) 3 (.ref mq)) 2 (.ref pq)) 3 (.ref mq)) from fun k9 hk9 => by unfold updR; simp only [show ¬ k9 = 1 by omega, show ¬ k9 = 2 by omega, show ¬ k9 = 3 by omega, show ¬ k9 = 4 by omega, if_false]) hux) hnt hlocks hce hcv hcl hP9 hD9 hS9 (by show 0 + 1 ≤ 1; omega) (by show 0 + 6 ≤ 6; omega))
  obtain ⟨w, K6, B7, cs8, as9, wt10, wf11, r12⟩ := u1
  obtain ⟨hw2, h13, h14, h15, hO⟩ := hw2
  have h13 : BdE K K6 := h13
  have h14 : Bth B B7 := h14
  have h15 : cs8 ≤ 10000 := h15
  obtain rfl : v3 = some (.int r12) := hw2
  have hf16 : K6.1 pq = 7 := (BdE.T h13 hp1 (by decide))
  have hf17 : K6.2.2.1 18 pq = some (a 1) := (BdE.C h13 (by rw [hp1]; decide) 18).trans hp2
  have hf18 : K6.2.2.1 14 pq = some dr := (BdE.C h13 (by rw [hp1]; decide) 14).trans hp3
  have hf19 : K6.1 dr = 8 := (BdE.T h13 hp4 (by decide))
  have hf20 : K6.2.2.1 15 pq = some ml := (BdE.C h13 (by rw [hp1]; decide) 15).trans hp5
  have hf21 : K6.1 ml = 5 := (BdE.T h13 hp6 (by decide))
  have hf22 : K6.2.1 24 pq = (nI nd) := (BdE.I h13 (by rw [hp1]; decide) (by decide) (by decide)).trans hp8
  have hf23 : K6.1 q = 1 := (BdE.T h13 hqT (by decide))
  have hf24 : K6.1 mq = 3 := (BdE.T h13 hmq (by decide))
  have hO : OKP G h0 a (upd (upd (upd (upd (upd (upd F 2 (nI sz)) 5 (nI cs8)) 12 (nI vr)) 13 as9) 14 wt10) 15 wf11) (updR (updR R 2 (.ref pq)) 3 (.ref mq)) Z B7 J K6 w := hO.to rfl
  refine W.widen (k := 0) (n := 0) (by show 0 + 0 ≤ 0; omega) (by show 0 + 0 ≤ 0; omega) ?_
  refine W.eq (g2 := F0 m 26 ls [.int r12, .ref q, .ref (a 4)]) rfl ?_
  have hbe25 := BdE.trans BdE.rfl h13
  have hbb26 : Bth B B7 := Bth.trans (show Thx (upd (upd (upd F 2 (nI sz)) 5 (nI cs)) 12 (nI vr)) (upd (upd (upd F 2 (nI sz)) 5 (nI cs)) 12 (nI vr)) B B from Thx.rfl).2 h14
  have hng27 : Nng (B7 18) := h14.2 hng
  refine lv_bipush (v := 61) hx hb dX0_loopCondition_26 (by decide) ?_
  have hO : OKP G h0 a (upd (upd (upd (upd (upd (upd (upd (upd F 2 (nI sz)) 5 (nI cs)) 12 (nI vr)) 5 (nI cs8)) 13 as9) 14 wt10) 15 wf11) 2 (nI sz)) (updR (updR (updR R 2 (.ref pq)) 3 (.ref mq)) 2 (.ref pq)) Z B7 J K6 w := hO.to rfl
  obtain ⟨_, qr31, hqr32⟩ := hO.2.1 24 _ (sg_24 G h0 a _ _ _ _ _)
  refine pn_V0 (G := G) (As := [.ref q, .int r12, .int 61]) (rest := []) hx hb hml hown hq hE hX pX0_al hP hD hS hA hl.1 (B_fit l G h0 a (upd (upd (upd (upd (upd (upd (upd F 2 (nI sz)) 5 (nI cs)) 12 (nI vr)) 5 (nI cs8)) 13 as9) 14 wt10) 15 wf11) (updR (updR R 2 (.ref pq)) 3 (.ref mq)) Z B7 J K6 w pq dr ml nd q sz r12 61 g (by omega) (BdE.pt hbe25 hwp hps).1 (BdE.pt hbe25 hwp hps).2.1 hf23 hO hl0) (gV pw_176 pw_177 pw_178 pw_63 pw_114) hV_X0_fit qr31 0 hqr32 rfl rfl rfl (Nat.le_of_ble_eq_true rfl) dX0_loopCondition_28 ⟨(by show 0 + 1 ≤ 1; omega), (by show 0 + 6 ≤ 6; omega)⟩ ⟨(by show 7 + 1 ≤ (5 * n + 35); omega), (by show 8 + (4 + 11) + 122 ≤ (200 * n + 640); omega)⟩ (fun v30 u28 H locs hw29 hP hD hS => ?_) (fun ux ce9 q9 H9 locs9 hux hP9 hD9 hS9 hce hcv hcl => pb_out ux (ThQ.up (Thx.same (Thx.f (Thx.f (Thx.f (Thx.f (Bth.thx hbb26) (by omega)) (by omega)) (by omega)) (by omega)) rfl) (show RhX (updR (updR R 2 (.ref pq)) 3 (.ref mq)) (updR (updR (updR R 2 (.ref pq)) 3 (.ref mq)) 2 (.ref pq)) from fun k9 hk9 => by unfold updR; simp only [show ¬ k9 = 1 by omega, show ¬ k9 = 2 by omega, show ¬ k9 = 3 by omega, show ¬ k9 = 4 by omega, if_false]) hux) hnt hlocks hce hcv hcl hP9 hD9 hS9 (by show 0 + 1 ≤ 1; omega) (by show 0 + 6 ≤ 6; omega))
  obtain ⟨w, _⟩ := u28
  obtain ⟨hw29, hO⟩ := hw29
  obtain rfl : v30 = none := hw29
  have hO : OKP G h0 a (upd (upd (upd (upd (upd (upd F 2 (nI sz)) 5 (nI cs8)) 12 (nI vr)) 13 as9) 14 wt10) 15 wf11) (updR (updR R 2 (.ref pq)) 3 (.ref mq)) Z B7 J K6 w := hO.to rfl
  refine W.widen (k := 0) (n := 0) (by show 0 + 0 ≤ 0; omega) (by show 0 + 0 ≤ 0; omega) ?_
  refine W.eq (g2 := F0 m 31 ls []) rfl ?_
  refine lv_aload_n hx hb dX0_loopCondition_31 rfl (lv_at hl 0 rfl) ?_
  refine c_get (v := .ref (a 2)) (C := RX0) (Tc := TX0) (N := 13) (ci := 0) hx hb hq pin_wsX00 hown hE hP hO 24 (sg_24 G h0 a _ _ _ _ _) rfl 1 (by decide) (hq _ pw_5) (fun _ h9 => h9) rfl dX0_loopCondition_32 ?_
  refine lv_bipush (v := 7) hx hb dX0_loopCondition_35 (by decide) ?_
  refine lv_iconst (v := (-1)) hx hb dX0_loopCondition_37 (by decide) ?_
  refine lv_iconst (v := 0) hx hb dX0_loopCondition_38 (by decide) ?_
  have hO : OKW G h0 a (upd (upd (upd (upd (upd (upd (upd F 2 (nI sz)) 5 (nI cs8)) 12 (nI vr)) 13 as9) 14 wt10) 15 wf11) 5 (nI cs8)) (updR (updR R 2 (.ref pq)) 3 (.ref mq)) Z B7 J K6.1 (fun q99 x99 => x99 = rep G a K6 q99) w := hO.to rfl
  obtain ⟨_, qr36, hqr37⟩ := hO.2.1 13 _ (sg_13 G h0 a _ _ _ _ _)
  refine pc_V0 (G := G) (As := [.int 7, .int (-1), .int (nI 0)]) (rest := []) hx hb hml hown hq hE hX pX0_al hP hD hS hA hl.1 (K_jump l G h0 a (upd (upd (upd (upd (upd (upd F 2 (nI sz)) 5 (nI cs8)) 12 (nI vr)) 13 as9) 14 wt10) 15 wf11) (updR (updR R 2 (.ref pq)) 3 (.ref mq)) Z B7 J K6.1 (fun q99 x99 => x99 = rep G a K6 q99) w 7 (-1) 0 cs8 (by omega) (by omega) hng27 hO) (gV pw_197 pw_198 pw_199 pw_70 pw_132) hV_X1_jump qr36 1 hqr37 rfl rfl rfl (Nat.le_of_ble_eq_true rfl) dX0_loopCondition_39 ⟨(by show 0 + 0 ≤ 1; omega), (by show 0 + 0 ≤ 6; omega)⟩ ⟨(by show 3 + 1 ≤ (5 * n + 35); omega), (by show 8 + (4 + 11) + 83 ≤ (200 * n + 640); omega)⟩ (fun v35 u33 H locs hw34 hP hD hS => ?_)
  obtain ⟨w, cs38, f39, f40, f41, f42, r43⟩ := u33
  obtain ⟨hw34, h44, h45, hO⟩ := hw34
  have h44 : cs8 ≤ cs38 ∧ cs38 ≤ cs8 + 1 ∧ cs38 ≤ 10000 := h44
  have h45 : Nng f41 := h45
  obtain rfl : v35 = some (.int r43) := hw34
  have hO : OKP G h0 a (upd (upd (upd (upd (upd (upd F 2 (nI sz)) 5 (nI cs38)) 12 (nI vr)) 13 as9) 14 wt10) 15 wf11) (updR (updR R 2 (.ref pq)) 3 (.ref mq)) Z (updA (updA (updA (updA B7 16 f39) 17 f40) 18 f41) 19 f42) J K6 w := hO.to rfl
  refine W.widen (k := 0) (n := 0) (Nat.le_of_ble_eq_true rfl) (Nat.le_of_ble_eq_true rfl) ?_
  refine W.eq (g2 := F0 m 42 ls [.int r43]) rfl ?_
  refine W_size (fun hz1 hz2 => ?_)
  refine vx_ret ?_
  have hz46 : BdE K K6 := hbe25
  have hz47 : Bth B (updA (updA (updA (updA B7 16 f39) 17 f40) 18 f41) 19 f42) := (show Thx (upd (upd (upd F 2 (nI sz)) 5 (nI cs)) 12 (nI vr)) (upd (upd (upd (upd (upd (upd (upd F 2 (nI sz)) 5 (nI cs)) 12 (nI vr)) 5 (nI cs38)) 13 as9) 14 wt10) 15 wf11) B (updA (updA (updA (updA B7 16 f39) 17 f40) 18 f41) 19 f42) from (Thx.b (Thx.b8 (Thx.b (Thx.b (Thx.f (Thx.f (Thx.f (Thx.f (Bth.thx hbb26) (by omega)) (by omega)) (by omega)) (by omega)) (by omega) (by decide)) (by omega) (by decide)) h45) (by omega) (by decide))).2
  have hz48 : cs38 ≤ 10000 := (by omega)
  have hO : OKP G h0 a (upd (upd (upd (upd (upd (upd F 2 (nI sz)) 5 (nI cs38)) 12 (nI vr)) 13 as9) 14 wt10) 15 wf11) (updR (updR R 2 (.ref pq)) 3 (.ref mq)) Z (updA (updA (updA (updA B7 16 f39) 17 f40) 18 f41) 19 f42) J K6 w := hO.to rfl
  refine W.widen (k := 1) (n := 6) (by omega) (by omega) ?_
  have hzz1 : H.size ≤ s.heap.size + (0) := (by have z : 0 ≤ 0 := (by omega); omega)
  have hzz2 : hSl H ≤ hSl s.heap + (0) := (by have z : 0 ≤ 0 := (by omega); omega)
  exact W.iret (v := r43) hx hb hr (fun t99 ht99 hW99 => ⟨⟨_, (w, (K6, (updA (updA (updA (updA B7 16 f39) 17 f40) 18 f41) 19 f42), cs38, as9, wt10, wf11, r43)), rfl, ⟨rfl, hz46, hz47, hz48, hO⟩, by rw [ht99]; exact hP, hD, by rw [ht99]; exact hzz1, by rw [ht99]; exact hzz2⟩, hS.F ht99⟩) hS.2.2 dX0_loopCondition_42
theorem dX0_jumpStatement_0 : decode cX0_jumpStatement 0 = .ok (.aload_n 0, 1) := by decide +kernel
theorem dX0_jumpStatement_1 : decode cX0_jumpStatement 1 = .ok (.getfield 84, 3) := by decide +kernel
theorem dX0_jumpStatement_4 : decode cX0_jumpStatement 4 = .ok (.ifnonnull 17, 3) := by decide +kernel
theorem dX0_jumpStatement_7 : decode cX0_jumpStatement 7 = .ok (.aload_n 0, 1) := by decide +kernel
theorem dX0_jumpStatement_8 : decode cX0_jumpStatement 8 = .ok (.getfield 9, 3) := by decide +kernel
theorem dX0_jumpStatement_11 : decode cX0_jumpStatement 11 = .ok (.bipush 14, 2) := by decide +kernel
theorem dX0_jumpStatement_13 : decode cX0_jumpStatement 13 = .ok (.aload_n 1, 1) := by decide +kernel
theorem dX0_jumpStatement_14 : decode cX0_jumpStatement 14 = .ok (.getfield 114, 3) := by decide +kernel
theorem dX0_jumpStatement_17 : decode cX0_jumpStatement 17 = .ok (.invokevirtual 136, 3) := by decide +kernel
theorem dX0_jumpStatement_21 : decode cX0_jumpStatement 21 = .ok (.aload_n 0, 1) := by decide +kernel
theorem dX0_jumpStatement_22 : decode cX0_jumpStatement 22 = .ok (.getfield 88, 3) := by decide +kernel
theorem dX0_jumpStatement_25 : decode cX0_jumpStatement 25 = .ok (.aload_n 0, 1) := by decide +kernel
theorem dX0_jumpStatement_26 : decode cX0_jumpStatement 26 = .ok (.getfield 84, 3) := by decide +kernel
theorem dX0_jumpStatement_29 : decode cX0_jumpStatement 29 = .ok (.getfield 279, 3) := by decide +kernel
theorem dX0_jumpStatement_32 : decode cX0_jumpStatement 32 = .ok (.if_icmp .le 8, 3) := by decide +kernel
theorem dX0_jumpStatement_40 : decode cX0_jumpStatement 40 = .ok (.bipush 6, 2) := by decide +kernel
theorem dX0_jumpStatement_42 : decode cX0_jumpStatement 42 = .ok (.istore_n 2, 1) := by decide +kernel
theorem dX0_jumpStatement_43 : decode cX0_jumpStatement 43 = .ok (.aload_n 1, 1) := by decide +kernel
theorem dX0_jumpStatement_44 : decode cX0_jumpStatement 44 = .ok (.getfield 178, 3) := by decide +kernel
theorem dX0_jumpStatement_47 : decode cX0_jumpStatement 47 = .ok (.bipush 29, 2) := by decide +kernel
theorem dX0_jumpStatement_49 : decode cX0_jumpStatement 49 = .ok (.if_icmp .ne 45, 3) := by decide +kernel
theorem dX0_jumpStatement_94 : decode cX0_jumpStatement 94 = .ok (.aload_n 0, 1) := by decide +kernel
theorem dX0_jumpStatement_95 : decode cX0_jumpStatement 95 = .ok (.getfield 84, 3) := by decide +kernel
theorem dX0_jumpStatement_98 : decode cX0_jumpStatement 98 = .ok (.aload_n 0, 1) := by decide +kernel
theorem dX0_jumpStatement_99 : decode cX0_jumpStatement 99 = .ok (.getfield 15, 3) := by decide +kernel
theorem dX0_jumpStatement_102 : decode cX0_jumpStatement 102 = .ok (.iload_n 2, 1) := by decide +kernel
theorem dX0_jumpStatement_103 : decode cX0_jumpStatement 103 = .ok (.aload_n 0, 1) := by decide +kernel
theorem dX0_jumpStatement_104 : decode cX0_jumpStatement 104 = .ok (.getfield 84, 3) := by decide +kernel
theorem dX0_jumpStatement_107 : decode cX0_jumpStatement 107 = .ok (.getfield 264, 3) := by decide +kernel
theorem dX0_jumpStatement_110 : decode cX0_jumpStatement 110 = .ok (.iconst 0, 1) := by decide +kernel
theorem dX0_jumpStatement_111 : decode cX0_jumpStatement 111 = .ok (.invokevirtual 243, 3) := by decide +kernel
theorem dX0_jumpStatement_114 : decode cX0_jumpStatement 114 = .ok (.putfield 264, 3) := by decide +kernel
theorem dX0_jumpStatement_117 : decode cX0_jumpStatement 117 = .ok (.aload_n 0, 1) := by decide +kernel
theorem dX0_jumpStatement_118 : decode cX0_jumpStatement 118 = .ok (.getfield 84, 3) := by decide +kernel
theorem dX0_jumpStatement_121 : decode cX0_jumpStatement 121 = .ok (.dup, 1) := by decide +kernel
theorem dX0_jumpStatement_122 : decode cX0_jumpStatement 122 = .ok (.getfield 267, 3) := by decide +kernel
theorem dX0_jumpStatement_125 : decode cX0_jumpStatement 125 = .ok (.aload_n 0, 1) := by decide +kernel
theorem dX0_jumpStatement_126 : decode cX0_jumpStatement 126 = .ok (.getfield 94, 3) := by decide +kernel
theorem dX0_jumpStatement_129 : decode cX0_jumpStatement 129 = .ok (.iand, 1) := by decide +kernel
theorem dX0_jumpStatement_130 : decode cX0_jumpStatement 130 = .ok (.putfield 267, 3) := by decide +kernel
theorem dX0_jumpStatement_133 : decode cX0_jumpStatement 133 = .ok (.aload_n 0, 1) := by decide +kernel
theorem dX0_jumpStatement_134 : decode cX0_jumpStatement 134 = .ok (.iconst (-1), 1) := by decide +kernel
theorem dX0_jumpStatement_135 : decode cX0_jumpStatement 135 = .ok (.putfield 94, 3) := by decide +kernel
theorem dX0_jumpStatement_138 : decode cX0_jumpStatement 138 = .ok (.return_, 1) := by decide +kernel
theorem dX0_jumpStatement_52 : decode cX0_jumpStatement 52 = .ok (.aload_n 0, 1) := by decide +kernel
theorem dX0_jumpStatement_53 : decode cX0_jumpStatement 53 = .ok (.getfield 84, 3) := by decide +kernel
theorem dX0_jumpStatement_56 : decode cX0_jumpStatement 56 = .ok (.aload_n 0, 1) := by decide +kernel
theorem dX0_jumpStatement_57 : decode cX0_jumpStatement 57 = .ok (.getfield 15, 3) := by decide +kernel
theorem dX0_jumpStatement_60 : decode cX0_jumpStatement 60 = .ok (.iload_n 2, 1) := by decide +kernel
theorem dX0_jumpStatement_61 : decode cX0_jumpStatement 61 = .ok (.aload_n 0, 1) := by decide +kernel
theorem dX0_jumpStatement_62 : decode cX0_jumpStatement 62 = .ok (.getfield 84, 3) := by decide +kernel
theorem dX0_jumpStatement_65 : decode cX0_jumpStatement 65 = .ok (.getfield 270, 3) := by decide +kernel
theorem dX0_jumpStatement_68 : decode cX0_jumpStatement 68 = .ok (.iconst 0, 1) := by decide +kernel
theorem dX0_jumpStatement_69 : decode cX0_jumpStatement 69 = .ok (.invokevirtual 243, 3) := by decide +kernel
theorem dX0_jumpStatement_72 : decode cX0_jumpStatement 72 = .ok (.putfield 270, 3) := by decide +kernel
theorem dX0_jumpStatement_75 : decode cX0_jumpStatement 75 = .ok (.aload_n 0, 1) := by decide +kernel
theorem dX0_jumpStatement_76 : decode cX0_jumpStatement 76 = .ok (.getfield 84, 3) := by decide +kernel
theorem dX0_jumpStatement_79 : decode cX0_jumpStatement 79 = .ok (.dup, 1) := by decide +kernel
theorem dX0_jumpStatement_80 : decode cX0_jumpStatement 80 = .ok (.getfield 273, 3) := by decide +kernel
theorem dX0_jumpStatement_83 : decode cX0_jumpStatement 83 = .ok (.aload_n 0, 1) := by decide +kernel
theorem dX0_jumpStatement_84 : decode cX0_jumpStatement 84 = .ok (.getfield 94, 3) := by decide +kernel
theorem dX0_jumpStatement_87 : decode cX0_jumpStatement 87 = .ok (.iand, 1) := by decide +kernel
theorem dX0_jumpStatement_88 : decode cX0_jumpStatement 88 = .ok (.putfield 273, 3) := by decide +kernel
theorem dX0_jumpStatement_91 : decode cX0_jumpStatement 91 = .ok (.goto 42, 3) := by decide +kernel
theorem dX0_jumpStatement_35 : decode cX0_jumpStatement 35 = .ok (.bipush 28, 2) := by decide +kernel
theorem dX0_jumpStatement_37 : decode cX0_jumpStatement 37 = .ok (.goto 5, 3) := by decide +kernel
set_option maxHeartbeats 16000000 in
set_option maxRecDepth 100000 in
theorem B_jump (l : Launch) (G : pT) (h0 : Nat) (a : Nat → Nat) (F : Nat → Int32) (R : Nat → Value) (Z : Int64) (B : Nat → Nat → Int32) (J : Nat → Nat → Int64) (K : PK) (w : va_W) (pq : Nat) (dr : Nat) (ml : Nat) (nd : Nat) (nm : Nat) (cp : Nat) (it : Nat → Nat) (s9 : Nat) (q : Nat) (mq : Nat) (cs : Nat) (vr : Nat) (sz : Nat) (n : Nat) (hd : Nat) (dp : Nat) (rg : Nat) (ls9 : Int32) (lo : Option Nat) (g : Nat → Nat → Nat) (rk : Nat → Nat) (hsz : sz ≤ 5000) (hwp : WPr G K g) (hps : PgT G K g (a 1) pq dr ml nd nm cp it s9) (hrk : RkO K rk) (hcs : cs ≤ 10000) (hvr : vr ≤ 30) (hng : Nng (B 18)) (hmq : K.1 mq = 3) (hqT : K.1 q = 1) (hqL : 1 ≤ g 0 q ∧ g 0 q ≤ n) (hdp : dp ≤ 1000) (hrg : rg ≤ 625) (hhd : hd + 2 * n + 30 ≤ 900 + vr) (hlo : LpO K lo) (hO : OKP G h0 a (upd (upd (upd (upd (upd (upd (upd F 2 (nI sz)) 5 (nI cs)) 6 (nI rg)) 7 (nI hd)) 8 (nI dp)) 12 (nI vr)) 16 ls9) (updR (updR (updR R 2 (.ref pq)) 3 (.ref mq)) 4 (va_rf lo)) Z B J K w) (hl0 : l.stackTraces = false) : PBn l G pX0 yX0_jumpStatement cX0_jumpStatement 3 none ({ frames := (5 * n + 33), cells := 1, slots := 6, locals := (200 * n + 560) }) [.ref (a 4), .ref q] w (fun (v : Option Value) (u : va_W × (PK × (Nat → Nat → Int32) × Nat × Int32 × Int32 × Int32 × Nat × Nat × Nat × Nat × Int32)) => v = none ∧ (BdE K u.2.1) ∧ (Bth B u.2.2.1) ∧ (u.2.2.2.1 ≤ 10000 ∧ u.2.2.2.2.2.2.2.2.2.2.1 ≤ 625 ∧ u.2.2.2.2.2.2.2.2.2.1 ≤ 1000) ∧ (vr ≤ u.2.2.2.2.2.2.2.1 ∧ u.2.2.2.2.2.2.2.1 ≤ 30 ∧ u.2.2.2.2.2.2.2.2.1 + vr = hd + u.2.2.2.2.2.2.2.1) ∧ (OKP G h0 a (upd (upd (upd (upd (upd (upd (upd (upd (upd (upd F 2 (nI sz)) 5 (nI u.2.2.2.1)) 6 (nI u.2.2.2.2.2.2.2.2.2.2.1)) 7 (nI u.2.2.2.2.2.2.2.2.1)) 8 (nI u.2.2.2.2.2.2.2.2.2.1)) 12 (nI u.2.2.2.2.2.2.2.1)) 13 u.2.2.2.2.1) 14 u.2.2.2.2.2.1) 15 u.2.2.2.2.2.2.1) 16 u.2.2.2.2.2.2.2.2.2.2.2) (updR (updR (updR R 2 (.ref pq)) 3 (.ref mq)) 4 (va_rf lo)) Z u.2.2.1 J u.2.1 u.1)) (fun u => u.1) (fun (u : va_W × (PK × (Nat → Nat → Int32) × Nat × Int32 × Int32 × Int32 × Nat × Nat × Nat × Nat × Int32)) => 0) (fun (u : va_W × (PK × (Nat → Nat → Int32) × Nat × Int32 × Int32 × Int32 × Nat × Nat × Nat × Nat × Int32)) => 0) (fun (u : va_W × (Nat → Int32) × (Nat → Value) × (Nat → Nat → Int32)) => ThQ G h0 a (upd (upd (upd (upd (upd (upd (upd F 2 (nI sz)) 5 (nI cs)) 6 (nI rg)) 7 (nI hd)) 8 (nI dp)) 12 (nI vr)) 16 ls9) (updR (updR (updR R 2 (.ref pq)) 3 (.ref mq)) 4 (va_rf lo)) Z B J u) (fun u => u.1) := by
  intro sz
  refine vx_ofW (cc := cX0_jumpStatement) (maxL := 3) (ret := none) (by decide) rfl ?_
  intro p e s m args below meth c s₁ B9 hml hnt hv
  obtain ⟨rfl, hsz, hP, hD0, hE, hX⟩ := hv
  have hx := B9.exec
  have hb := B9.bytes
  have hr := B9.returns
  have hts := atoms_spec (ws := Cond.code yX0_jumpStatement cX0_jumpStatement 3 none :: pw) B9.pre
  have hq : ∀ w ∈ pw, w.before _ s = true := fun w h => hts w (List.mem_cons_of_mem _ h)
  have hown : s.vm.findClass RX0 = some m.cls := findClass_of_methodNamed B9.named
  have hlocks := B9.notSynchronized
  subst hsz
  have hD := hD0.self (sz := s.heap.size)
  have hA : ∀ q : Nat, s.heap.size ≤ q → va_A w s.heap.size q := fun q h => Or.inr h
  generalize va_A w s.heap.size = A at hD hE hA ⊢
  have hS : va_S A s.heap s.heap [] := va_S.rf
  have hl := lv_entry ([.ref (a 4), .ref q]) (n := 3) (Nat.le_of_ble_eq_true rfl)
  rw [lg_entry_eq]
  generalize (lg_sl ([.ref (a 4), .ref q]) ++ List.replicate (3 - (lg_sl ([.ref (a 4), .ref q])).length) Slot.unset).toArray = ls at hl ⊢
  have hl : lv_has ls 3 [(0, .ref (a 4)), (1, .ref q)] := hl
  have hpg := hps.1
  have hp1 := hpg.1
  have hp2 := hpg.2.1
  have hp3 := hpg.2.2.1
  have hp4 := hpg.2.2.2.1
  have hp5 := hpg.2.2.2.2.1
  have hp6 := hpg.2.2.2.2.2.1
  have hp8 := hpg.2.2.2.2.2.2.2.1
  have hp9 := hpg.2.2.2.2.2.2.2.2
  rcases lo with _ | lq
  · have hl : lv_has ls 3 [(0, .ref (a 4)), (1, .ref q)] := hl
    refine W.eq (g2 := F0 m 0 ls []) rfl ?_
    have hO : OKP G h0 a (upd (upd (upd (upd (upd (upd (upd F 2 (nI sz)) 5 (nI cs)) 6 (nI rg)) 7 (nI hd)) 8 (nI dp)) 12 (nI vr)) 16 ls9) (updR (updR (updR R 2 (.ref pq)) 3 (.ref mq)) 4 (.null)) Z B J K w := hO.to rfl
    refine lv_aload_n hx hb dX0_jumpStatement_0 rfl (lv_at hl 0 rfl) ?_
    refine c_get (v := .null) (C := RX0) (Tc := TX0) (N := 13) (ci := 0) hx hb hq pin_wsX00 hown hE hP hO 24 (sg_24 G h0 a _ _ _ _ _) rfl 11 (by decide) (hq _ pw_73) (fun _ h9 => h9) rfl dX0_jumpStatement_1 ?_
    refine lv_ifnonnullN hx hb dX0_jumpStatement_4 ?_
    refine lv_aload_n hx hb dX0_jumpStatement_7 rfl (lv_at hl 0 rfl) ?_
    refine c_get (v := .ref (a 1)) (C := RX0) (Tc := TX0) (N := 13) (ci := 0) hx hb hq pin_wsX00 hown hE hP hO 24 (sg_24 G h0 a _ _ _ _ _) rfl 0 (by decide) (hq _ pw_4) (fun _ h9 => h9) rfl dX0_jumpStatement_8 ?_
    refine lv_bipush (v := 14) hx hb dX0_jumpStatement_11 (by decide) ?_
    refine lv_aload_n hx hb dX0_jumpStatement_13 rfl (lv_at hl 1 rfl) ?_
    refine p_get (v := .int (K.2.1 1 q)) (C := RX7) (Tc := TX7) (N := 11) (ci := 13) hx hb hq pin_wsX70 hown hE hP hO (by rw [hqT]; decide) (rep_1 hqT) rfl 1 (by decide) (hq _ pw_81) (fun _ h9 => h9) rfl dX0_jumpStatement_14 ?_
    have hO : OKW G h0 a (upd (upd (upd (upd (upd (upd (upd (upd F 2 (nI sz)) 5 (nI cs)) 6 (nI rg)) 7 (nI hd)) 8 (nI dp)) 12 (nI vr)) 16 ls9) 2 (nI sz)) (updR (updR (updR R 2 (.ref pq)) 3 (.ref mq)) 4 (.null)) Z B J K.1 (fun q99 x99 => x99 = rep G a K q99) w := hO.to rfl
    obtain ⟨_, qr4, hqr5⟩ := hO.2.1 2 _ (sg_2 G h0 a _ _ _ _ _)
    refine pn_V0 (G := G) (As := [.int 14, .int (K.2.1 1 q)]) (rest := []) hx hb hml hown hq hE hX pX0_al hP hD hS hA hl.1 (K_fail l G h0 a (upd (upd (upd (upd (upd (upd (upd F 2 (nI sz)) 5 (nI cs)) 6 (nI rg)) 7 (nI hd)) 8 (nI dp)) 12 (nI vr)) 16 ls9) (updR (updR (updR R 2 (.ref pq)) 3 (.ref mq)) 4 (.null)) Z B J K.1 (fun q99 x99 => x99 = rep G a K q99) w 14 (K.2.1 1 q) sz (by omega) hO hl0) (gV pw_64 pw_65 pw_66 pw_59 pw_43) hV_X10_fail qr4 7 hqr5 rfl rfl rfl (Nat.le_of_ble_eq_true rfl) dX0_jumpStatement_17 ⟨(by show 0 + 1 ≤ 1; omega), (by show 0 + 6 ≤ 6; omega)⟩ ⟨(by show 6 + 1 ≤ (5 * n + 33); omega), (by show 8 + (3 + 11) + 100 ≤ (200 * n + 560); omega)⟩ (fun v3 u1 H locs hw2 hP hD hS => hw2.elim) (fun ux ce9 q9 H9 locs9 hux hP9 hD9 hS9 hce hcv hcl => pb_out ux (ThQ.up (Thx.same Thx.rfl rfl) (show RhX (updR (updR (updR R 2 (.ref pq)) 3 (.ref mq)) 4 (va_rf none)) (updR (updR (updR R 2 (.ref pq)) 3 (.ref mq)) 4 (.null)) from fun k9 hk9 => by unfold updR; simp only [show ¬ k9 = 1 by omega, show ¬ k9 = 2 by omega, show ¬ k9 = 3 by omega, show ¬ k9 = 4 by omega, if_false]) hux) hnt hlocks hce hcv hcl hP9 hD9 hS9 (by show 0 + 1 ≤ 1; omega) (by show 0 + 6 ≤ 6; omega))
  · have hl : lv_has ls 3 [(0, .ref (a 4)), (1, .ref q)] := hl
    refine W.eq (g2 := F0 m 0 ls []) rfl ?_
    have hO : OKP G h0 a (upd (upd (upd (upd (upd (upd (upd F 2 (nI sz)) 5 (nI cs)) 6 (nI rg)) 7 (nI hd)) 8 (nI dp)) 12 (nI vr)) 16 ls9) (updR (updR (updR R 2 (.ref pq)) 3 (.ref mq)) 4 (.ref lq)) Z B J K w := hO.to rfl
    have hlT := hlo lq rfl
    refine lv_aload_n hx hb dX0_jumpStatement_0 rfl (lv_at hl 0 rfl) ?_
    refine c_get (v := .ref lq) (C := RX0) (Tc := TX0) (N := 13) (ci := 0) hx hb hq pin_wsX00 hown hE hP hO 24 (sg_24 G h0 a _ _ _ _ _) rfl 11 (by decide) (hq _ pw_73) (fun _ h9 => h9) rfl dX0_jumpStatement_1 ?_
    refine lv_ifnonnull (tgt := 21) hx hb dX0_jumpStatement_4 (by decide) ?_
    refine lv_aload_n hx hb dX0_jumpStatement_21 rfl (lv_at hl 0 rfl) ?_
    refine c_get (v := .int ls9) (C := RX0) (Tc := TX0) (N := 13) (ci := 0) hx hb hq pin_wsX00 hown hE hP hO 24 (sg_24 G h0 a _ _ _ _ _) rfl 12 (by decide) (hq _ pw_74) (fun _ h9 => h9) rfl dX0_jumpStatement_22 ?_
    refine lv_aload_n hx hb dX0_jumpStatement_25 rfl (lv_at hl 0 rfl) ?_
    refine c_get (v := .ref lq) (C := RX0) (Tc := TX0) (N := 13) (ci := 0) hx hb hq pin_wsX00 hown hE hP hO 24 (sg_24 G h0 a _ _ _ _ _) rfl 11 (by decide) (hq _ pw_73) (fun _ h9 => h9) rfl dX0_jumpStatement_26 ?_
    refine p_get (v := .int (K.2.1 26 lq)) (C := RX4) (Tc := TX4) (N := 6) (ci := 11) hx hb hq pin_wsX40 hown hE hP hO (by rw [hlT]; decide) (rep_9 hlT) rfl 1 (by decide) (hq _ pw_281) (fun _ h9 => h9) rfl dX0_jumpStatement_29 ?_
    refine lv_icmp_le (tgt := 40) hx hb dX0_jumpStatement_32 (by decide) (fun c6 => ?_) (fun c6 => ?_)
    · refine lv_bipush (v := 6) hx hb dX0_jumpStatement_40 (by decide) ?_
      refine lv_istore_n (lv' := [(2, .int 6), (0, .ref (a 4)), (1, .ref q)]) hx hb dX0_jumpStatement_42 rfl hl (by decide) rfl (fun ls hl => ?_)
      refine lv_aload_n hx hb dX0_jumpStatement_43 rfl (lv_at hl 2 rfl) ?_
      refine p_get (v := .int (K.2.1 0 q)) (C := RX7) (Tc := TX7) (N := 11) (ci := 13) hx hb hq pin_wsX70 hown hE hP hO (by rw [hqT]; decide) (rep_1 hqT) rfl 0 (by decide) (hq _ pw_166) (fun _ h9 => h9) rfl dX0_jumpStatement_44 ?_
      refine lv_bipush (v := 29) hx hb dX0_jumpStatement_47 (by decide) ?_
      refine lv_icmp_ne (tgt := 94) hx hb dX0_jumpStatement_49 (by decide) (fun c7 => ?_) (fun c7 => ?_)
      · refine lv_aload_n hx hb dX0_jumpStatement_94 rfl (lv_at hl 1 rfl) ?_
        refine c_get (v := .ref lq) (C := RX0) (Tc := TX0) (N := 13) (ci := 0) hx hb hq pin_wsX00 hown hE hP hO 24 (sg_24 G h0 a _ _ _ _ _) rfl 11 (by decide) (hq _ pw_73) (fun _ h9 => h9) rfl dX0_jumpStatement_95 ?_
        refine lv_aload_n hx hb dX0_jumpStatement_98 rfl (lv_at hl 1 rfl) ?_
        refine c_get (v := .ref (a 2)) (C := RX0) (Tc := TX0) (N := 13) (ci := 0) hx hb hq pin_wsX00 hown hE hP hO 24 (sg_24 G h0 a _ _ _ _ _) rfl 1 (by decide) (hq _ pw_5) (fun _ h9 => h9) rfl dX0_jumpStatement_99 ?_
        refine lv_iload_n hx hb dX0_jumpStatement_102 rfl (lv_at hl 0 rfl) ?_
        refine lv_aload_n hx hb dX0_jumpStatement_103 rfl (lv_at hl 1 rfl) ?_
        refine c_get (v := .ref lq) (C := RX0) (Tc := TX0) (N := 13) (ci := 0) hx hb hq pin_wsX00 hown hE hP hO 24 (sg_24 G h0 a _ _ _ _ _) rfl 11 (by decide) (hq _ pw_73) (fun _ h9 => h9) rfl dX0_jumpStatement_104 ?_
        refine p_get (v := .int (K.2.1 28 lq)) (C := RX4) (Tc := TX4) (N := 6) (ci := 11) hx hb hq pin_wsX40 hown hE hP hO (by rw [hlT]; decide) (rep_9 hlT) rfl 3 (by decide) (hq _ pw_284) (fun _ h9 => h9) rfl dX0_jumpStatement_107 ?_
        refine lv_iconst (v := 0) hx hb dX0_jumpStatement_110 (by decide) ?_
        have hO : OKW G h0 a (upd (upd (upd (upd (upd (upd (upd (upd F 2 (nI sz)) 5 (nI cs)) 6 (nI rg)) 7 (nI hd)) 8 (nI dp)) 12 (nI vr)) 16 ls9) 5 (nI cs)) (updR (updR (updR R 2 (.ref pq)) 3 (.ref mq)) 4 (.ref lq)) Z B J K.1 (fun q99 x99 => x99 = rep G a K q99) w := hO.to rfl
        obtain ⟨_, qr11, hqr12⟩ := hO.2.1 13 _ (sg_13 G h0 a _ _ _ _ _)
        refine pc_V0 (G := G) (As := [.int 6, .int (K.2.1 28 lq), .int (nI 0)]) (rest := [.ref lq]) hx hb hml hown hq hE hX pX0_al hP hD hS hA hl.1 (K_jump l G h0 a (upd (upd (upd (upd (upd (upd (upd F 2 (nI sz)) 5 (nI cs)) 6 (nI rg)) 7 (nI hd)) 8 (nI dp)) 12 (nI vr)) 16 ls9) (updR (updR (updR R 2 (.ref pq)) 3 (.ref mq)) 4 (.ref lq)) Z B J K.1 (fun q99 x99 => x99 = rep G a K q99) w 6 (K.2.1 28 lq) 0 cs (by omega) (by omega) hng hO) (gV pw_197 pw_198 pw_199 pw_70 pw_132) hV_X1_jump qr11 1 hqr12 rfl rfl rfl (Nat.le_of_ble_eq_true rfl) dX0_jumpStatement_111 ⟨(by show 0 + 0 ≤ 1; omega), (by show 0 + 0 ≤ 6; omega)⟩ ⟨(by show 3 + 1 ≤ (5 * n + 33); omega), (by show 8 + (4 + 11) + 83 ≤ (200 * n + 560); omega)⟩ (fun v10 u8 H locs hw9 hP hD hS => ?_)
        obtain ⟨w, cs13, f14, f15, f16, f17, r18⟩ := u8
        obtain ⟨hw9, h19, h20, hO⟩ := hw9
        have h19 : cs ≤ cs13 ∧ cs13 ≤ cs + 1 ∧ cs13 ≤ 10000 := h19
        have h20 : Nng f16 := h20
        obtain rfl : v10 = some (.int r18) := hw9
        have hO : OKP G h0 a (upd (upd (upd (upd (upd (upd (upd F 2 (nI sz)) 5 (nI cs13)) 6 (nI rg)) 7 (nI hd)) 8 (nI dp)) 12 (nI vr)) 16 ls9) (updR (updR (updR R 2 (.ref pq)) 3 (.ref mq)) 4 (.ref lq)) Z (updA (updA (updA (updA B 16 f14) 17 f15) 18 f16) 19 f17) J K w := hO.to rfl
        refine W.widen (k := 0) (n := 0) (Nat.le_of_ble_eq_true rfl) (Nat.le_of_ble_eq_true rfl) ?_
        refine W.eq (g2 := F0 m 114 ls [.int r18, .ref lq]) rfl ?_
        refine p_put (v := .int r18) (ty := .int) (C := RX4) (Tc := TX4) (N := 6) (ci := 11) (K' := (kI K 28 lq r18)) hx hb hq pin_wsX40 tyX4 tyX4_ok nmX4 hown hE hP hD hS hO (by rw [hlT]; decide) (rep_9 hlT) rfl 3 (by decide) (hq _ pw_284) (fun _ h9 => h9) rfl (by decide +kernel) rfl rfl (Nat.le_of_ble_eq_true rfl) rfl (by rw [rep_9 (show (kI K 28 lq r18).1 lq = 9 from hlT), pi_28] <;> rfl) (fun p9 hp9 => rep_kI hp9) dX0_jumpStatement_114 (fun H locs w hP hD hS hO => ?_)
        obtain ⟨K21, hK22⟩ : ∃ z : PK, z = (kI K 28 lq r18) := ⟨_, rfl⟩
        rw [← hK22] at hO
        have hf23 : K21.1 pq = 7 := (by rw [hK22]; exact hp1)
        have hf24 : K21.2.2.1 18 pq = some (a 1) := (by rw [hK22]; exact hp2)
        have hf25 : K21.2.2.1 14 pq = some dr := (by rw [hK22]; exact hp3)
        have hf26 : K21.1 dr = 8 := (by rw [hK22]; exact hp4)
        have hf27 : K21.2.2.1 15 pq = some ml := (by rw [hK22]; exact hp5)
        have hf28 : K21.1 ml = 5 := (by rw [hK22]; exact hp6)
        have hf29 : K21.2.1 24 pq = (nI nd) := (by rw [hK22]; exact (kI_of (by decide)).trans hp8)
        have hf30 : K21.1 q = 1 := (by rw [hK22]; exact hqT)
        have hf31 : K21.1 mq = 3 := (by rw [hK22]; exact hmq)
        have hf32 : K21.1 lq = 9 := (by rw [hK22]; exact hlT)
        have hf33 : K21.2.1 28 lq = r18 := by rw [hK22]; exact kI_eq
        have hbe34 : BdE K K21 := BdE.trans BdE.rfl (by rw [hK22]; exact BdE.kI (Or.inr (by decide)))
        refine lv_aload_n hx hb dX0_jumpStatement_117 rfl (lv_at hl 1 rfl) ?_
        refine c_get (v := .ref lq) (C := RX0) (Tc := TX0) (N := 13) (ci := 0) hx hb hq pin_wsX00 hown hE hP hO 24 (sg_24 G h0 a _ _ _ _ _) rfl 11 (by decide) (hq _ pw_73) (fun _ h9 => h9) rfl dX0_jumpStatement_118 ?_
        refine lv_dup hx hb dX0_jumpStatement_121 rfl ?_
        refine p_get (v := .int (K21.2.1 30 lq)) (C := RX4) (Tc := TX4) (N := 6) (ci := 11) hx hb hq pin_wsX40 hown hE hP hO (by rw [hf32]; decide) (rep_9 hf32) rfl 5 (by decide) (hq _ pw_285) (fun _ h9 => h9) rfl dX0_jumpStatement_122 ?_
        refine lv_aload_n hx hb dX0_jumpStatement_125 rfl (lv_at hl 1 rfl) ?_
        refine c_get (v := .int (F 13)) (C := RX0) (Tc := TX0) (N := 13) (ci := 0) hx hb hq pin_wsX00 hown hE hP hO 24 (sg_24 G h0 a _ _ _ _ _) rfl 8 (by decide) (hq _ pw_55) (fun _ h9 => h9) rfl dX0_jumpStatement_126 ?_
        refine lv_iand hx hb dX0_jumpStatement_129 ?_
        refine lv_topi (fun x35 e36 => ?_)
        refine p_put (v := .int x35) (ty := .int) (C := RX4) (Tc := TX4) (N := 6) (ci := 11) (K' := (kI K21 30 lq x35)) hx hb hq pin_wsX40 tyX4 tyX4_ok nmX4 hown hE hP hD hS hO (by rw [hf32]; decide) (rep_9 hf32) rfl 5 (by decide) (hq _ pw_285) (fun _ h9 => h9) rfl (by decide +kernel) rfl rfl (Nat.le_of_ble_eq_true rfl) rfl (by rw [rep_9 (show (kI K21 30 lq x35).1 lq = 9 from hf32), pi_30] <;> rfl) (fun p9 hp9 => rep_kI hp9) dX0_jumpStatement_130 (fun H locs w hP hD hS hO => ?_)
        obtain ⟨K37, hK38⟩ : ∃ z : PK, z = (kI K21 30 lq x35) := ⟨_, rfl⟩
        rw [← hK38] at hO
        have hf39 : K37.1 pq = 7 := (by rw [hK38]; exact hf23)
        have hf40 : K37.2.2.1 18 pq = some (a 1) := (by rw [hK38]; exact hf24)
        have hf41 : K37.2.2.1 14 pq = some dr := (by rw [hK38]; exact hf25)
        have hf42 : K37.1 dr = 8 := (by rw [hK38]; exact hf26)
        have hf43 : K37.2.2.1 15 pq = some ml := (by rw [hK38]; exact hf27)
        have hf44 : K37.1 ml = 5 := (by rw [hK38]; exact hf28)
        have hf45 : K37.2.1 24 pq = (nI nd) := (by rw [hK38]; exact (kI_of (by decide)).trans hf29)
        have hf46 : K37.1 q = 1 := (by rw [hK38]; exact hf30)
        have hf47 : K37.1 mq = 3 := (by rw [hK38]; exact hf31)
        have hf48 : K37.1 lq = 9 := (by rw [hK38]; exact hf32)
        have hf49 : K37.2.1 28 lq = r18 := (by rw [hK38]; exact (kI_of (by decide)).trans hf33)
        have hf50 : K37.2.1 30 lq = x35 := by rw [hK38]; exact kI_eq
        have hbe51 : BdE K K37 := BdE.trans hbe34 (by rw [hK38]; exact BdE.kI (Or.inr (by decide)))
        refine lv_aload_n hx hb dX0_jumpStatement_133 rfl (lv_at hl 1 rfl) ?_
        refine lv_iconst (v := (-1)) hx hb dX0_jumpStatement_134 (by decide) ?_
        refine c_put (v := .int (-1)) (ty := .int) (C := RX0) (Tc := TX0) (N := 13) (ci := 0) hx hb hq pin_wsX00 tyX0 tyX0_ok nmX0 hown hE hP hD hS hO 24 (sg_24 G h0 a _ _ _ _ _) rfl 8 (by decide) (hq _ pw_55) (fun _ h9 => h9) rfl (by decide +kernel) rfl rfl (Nat.le_of_ble_eq_true rfl) (sf_13 G h0 a _ _ _ _ _ (-1)) dX0_jumpStatement_135 (fun H locs w hP hD hS hO => ?_)
        refine W_size (fun hz1 hz2 => ?_)
        refine vx_ret ?_
        have hz52 : BdE K K37 := hbe51
        have hz53 : Bth B (updA (updA (updA (updA B 16 f14) 17 f15) 18 f16) 19 f17) := (show Thx (upd (upd (upd (upd (upd (upd (upd F 2 (nI sz)) 5 (nI cs)) 6 (nI rg)) 7 (nI hd)) 8 (nI dp)) 12 (nI vr)) 16 ls9) (upd (upd (upd (upd (upd (upd (upd (upd (upd F 2 (nI sz)) 5 (nI cs)) 6 (nI rg)) 7 (nI hd)) 8 (nI dp)) 12 (nI vr)) 16 ls9) 5 (nI cs13)) 13 (-1)) B (updA (updA (updA (updA B 16 f14) 17 f15) 18 f16) 19 f17) from (Thx.b (Thx.b8 (Thx.b (Thx.b (Thx.f (Thx.f Thx.rfl (by omega)) (by omega)) (by omega) (by decide)) (by omega) (by decide)) h20) (by omega) (by decide))).2
        have hz54 : cs13 ≤ 10000 ∧ rg ≤ 625 ∧ dp ≤ 1000 := (by omega)
        have hz55 : vr ≤ vr ∧ vr ≤ 30 ∧ hd + vr = hd + vr := (by omega)
        have hO : OKP G h0 a (upd (upd (upd (upd (upd (upd (upd (upd (upd (upd F 2 (nI sz)) 5 (nI cs13)) 6 (nI rg)) 7 (nI hd)) 8 (nI dp)) 12 (nI vr)) 13 ((-1) : Int32)) 14 (F 14)) 15 (F 15)) 16 ls9) (updR (updR (updR R 2 (.ref pq)) 3 (.ref mq)) 4 (va_rf (some lq))) Z (updA (updA (updA (updA B 16 f14) 17 f15) 18 f16) 19 f17) J K37 w := hO.to rfl
        refine W.widen (k := 1) (n := 6) (by omega) (by omega) ?_
        have hzz1 : H.size ≤ s.heap.size + (0) := (by have z : 0 ≤ 0 := (by omega); omega)
        have hzz2 : hSl H ≤ hSl s.heap + (0) := (by have z : 0 ≤ 0 := (by omega); omega)
        exact W.vret hx hb hr (fun t99 ht99 hW99 => ⟨⟨_, (w, (K37, (updA (updA (updA (updA B 16 f14) 17 f15) 18 f16) 19 f17), cs13, ((-1) : Int32), (F 14), (F 15), vr, hd, dp, rg, ls9)), rfl, ⟨rfl, hz52, hz53, hz54, hz55, hO⟩, by rw [ht99]; exact hP, hD, by rw [ht99]; exact hzz1, by rw [ht99]; exact hzz2⟩, hS.F ht99⟩) hS.2.2 dX0_jumpStatement_138
      · refine lv_aload_n hx hb dX0_jumpStatement_52 rfl (lv_at hl 1 rfl) ?_
        refine c_get (v := .ref lq) (C := RX0) (Tc := TX0) (N := 13) (ci := 0) hx hb hq pin_wsX00 hown hE hP hO 24 (sg_24 G h0 a _ _ _ _ _) rfl 11 (by decide) (hq _ pw_73) (fun _ h9 => h9) rfl dX0_jumpStatement_53 ?_
        refine lv_aload_n hx hb dX0_jumpStatement_56 rfl (lv_at hl 1 rfl) ?_
        refine c_get (v := .ref (a 2)) (C := RX0) (Tc := TX0) (N := 13) (ci := 0) hx hb hq pin_wsX00 hown hE hP hO 24 (sg_24 G h0 a _ _ _ _ _) rfl 1 (by decide) (hq _ pw_5) (fun _ h9 => h9) rfl dX0_jumpStatement_57 ?_
        refine lv_iload_n hx hb dX0_jumpStatement_60 rfl (lv_at hl 0 rfl) ?_
        refine lv_aload_n hx hb dX0_jumpStatement_61 rfl (lv_at hl 1 rfl) ?_
        refine c_get (v := .ref lq) (C := RX0) (Tc := TX0) (N := 13) (ci := 0) hx hb hq pin_wsX00 hown hE hP hO 24 (sg_24 G h0 a _ _ _ _ _) rfl 11 (by decide) (hq _ pw_73) (fun _ h9 => h9) rfl dX0_jumpStatement_62 ?_
        refine p_get (v := .int (K.2.1 27 lq)) (C := RX4) (Tc := TX4) (N := 6) (ci := 11) hx hb hq pin_wsX40 hown hE hP hO (by rw [hlT]; decide) (rep_9 hlT) rfl 2 (by decide) (hq _ pw_282) (fun _ h9 => h9) rfl dX0_jumpStatement_65 ?_
        refine lv_iconst (v := 0) hx hb dX0_jumpStatement_68 (by decide) ?_
        have hO : OKW G h0 a (upd (upd (upd (upd (upd (upd (upd (upd F 2 (nI sz)) 5 (nI cs)) 6 (nI rg)) 7 (nI hd)) 8 (nI dp)) 12 (nI vr)) 16 ls9) 5 (nI cs)) (updR (updR (updR R 2 (.ref pq)) 3 (.ref mq)) 4 (.ref lq)) Z B J K.1 (fun q99 x99 => x99 = rep G a K q99) w := hO.to rfl
        obtain ⟨_, qr59, hqr60⟩ := hO.2.1 13 _ (sg_13 G h0 a _ _ _ _ _)
        refine pc_V0 (G := G) (As := [.int 6, .int (K.2.1 27 lq), .int (nI 0)]) (rest := [.ref lq]) hx hb hml hown hq hE hX pX0_al hP hD hS hA hl.1 (K_jump l G h0 a (upd (upd (upd (upd (upd (upd (upd F 2 (nI sz)) 5 (nI cs)) 6 (nI rg)) 7 (nI hd)) 8 (nI dp)) 12 (nI vr)) 16 ls9) (updR (updR (updR R 2 (.ref pq)) 3 (.ref mq)) 4 (.ref lq)) Z B J K.1 (fun q99 x99 => x99 = rep G a K q99) w 6 (K.2.1 27 lq) 0 cs (by omega) (by omega) hng hO) (gV pw_197 pw_198 pw_199 pw_70 pw_132) hV_X1_jump qr59 1 hqr60 rfl rfl rfl (Nat.le_of_ble_eq_true rfl) dX0_jumpStatement_69 ⟨(by show 0 + 0 ≤ 1; omega), (by show 0 + 0 ≤ 6; omega)⟩ ⟨(by show 3 + 1 ≤ (5 * n + 33); omega), (by show 8 + (4 + 11) + 83 ≤ (200 * n + 560); omega)⟩ (fun v58 u56 H locs hw57 hP hD hS => ?_)
        obtain ⟨w, cs61, f62, f63, f64, f65, r66⟩ := u56
        obtain ⟨hw57, h67, h68, hO⟩ := hw57
        have h67 : cs ≤ cs61 ∧ cs61 ≤ cs + 1 ∧ cs61 ≤ 10000 := h67
        have h68 : Nng f64 := h68
        obtain rfl : v58 = some (.int r66) := hw57
        have hO : OKP G h0 a (upd (upd (upd (upd (upd (upd (upd F 2 (nI sz)) 5 (nI cs61)) 6 (nI rg)) 7 (nI hd)) 8 (nI dp)) 12 (nI vr)) 16 ls9) (updR (updR (updR R 2 (.ref pq)) 3 (.ref mq)) 4 (.ref lq)) Z (updA (updA (updA (updA B 16 f62) 17 f63) 18 f64) 19 f65) J K w := hO.to rfl
        refine W.widen (k := 0) (n := 0) (Nat.le_of_ble_eq_true rfl) (Nat.le_of_ble_eq_true rfl) ?_
        refine W.eq (g2 := F0 m 72 ls [.int r66, .ref lq]) rfl ?_
        refine p_put (v := .int r66) (ty := .int) (C := RX4) (Tc := TX4) (N := 6) (ci := 11) (K' := (kI K 27 lq r66)) hx hb hq pin_wsX40 tyX4 tyX4_ok nmX4 hown hE hP hD hS hO (by rw [hlT]; decide) (rep_9 hlT) rfl 2 (by decide) (hq _ pw_282) (fun _ h9 => h9) rfl (by decide +kernel) rfl rfl (Nat.le_of_ble_eq_true rfl) rfl (by rw [rep_9 (show (kI K 27 lq r66).1 lq = 9 from hlT), pi_27] <;> rfl) (fun p9 hp9 => rep_kI hp9) dX0_jumpStatement_72 (fun H locs w hP hD hS hO => ?_)
        obtain ⟨K69, hK70⟩ : ∃ z : PK, z = (kI K 27 lq r66) := ⟨_, rfl⟩
        rw [← hK70] at hO
        have hf71 : K69.1 pq = 7 := (by rw [hK70]; exact hp1)
        have hf72 : K69.2.2.1 18 pq = some (a 1) := (by rw [hK70]; exact hp2)
        have hf73 : K69.2.2.1 14 pq = some dr := (by rw [hK70]; exact hp3)
        have hf74 : K69.1 dr = 8 := (by rw [hK70]; exact hp4)
        have hf75 : K69.2.2.1 15 pq = some ml := (by rw [hK70]; exact hp5)
        have hf76 : K69.1 ml = 5 := (by rw [hK70]; exact hp6)
        have hf77 : K69.2.1 24 pq = (nI nd) := (by rw [hK70]; exact (kI_of (by decide)).trans hp8)
        have hf78 : K69.1 q = 1 := (by rw [hK70]; exact hqT)
        have hf79 : K69.1 mq = 3 := (by rw [hK70]; exact hmq)
        have hf80 : K69.1 lq = 9 := (by rw [hK70]; exact hlT)
        have hf81 : K69.2.1 27 lq = r66 := by rw [hK70]; exact kI_eq
        have hbe82 : BdE K K69 := BdE.trans BdE.rfl (by rw [hK70]; exact BdE.kI (Or.inr (by decide)))
        refine lv_aload_n hx hb dX0_jumpStatement_75 rfl (lv_at hl 1 rfl) ?_
        refine c_get (v := .ref lq) (C := RX0) (Tc := TX0) (N := 13) (ci := 0) hx hb hq pin_wsX00 hown hE hP hO 24 (sg_24 G h0 a _ _ _ _ _) rfl 11 (by decide) (hq _ pw_73) (fun _ h9 => h9) rfl dX0_jumpStatement_76 ?_
        refine lv_dup hx hb dX0_jumpStatement_79 rfl ?_
        refine p_get (v := .int (K69.2.1 29 lq)) (C := RX4) (Tc := TX4) (N := 6) (ci := 11) hx hb hq pin_wsX40 hown hE hP hO (by rw [hf80]; decide) (rep_9 hf80) rfl 4 (by decide) (hq _ pw_283) (fun _ h9 => h9) rfl dX0_jumpStatement_80 ?_
        refine lv_aload_n hx hb dX0_jumpStatement_83 rfl (lv_at hl 1 rfl) ?_
        refine c_get (v := .int (F 13)) (C := RX0) (Tc := TX0) (N := 13) (ci := 0) hx hb hq pin_wsX00 hown hE hP hO 24 (sg_24 G h0 a _ _ _ _ _) rfl 8 (by decide) (hq _ pw_55) (fun _ h9 => h9) rfl dX0_jumpStatement_84 ?_
        refine lv_iand hx hb dX0_jumpStatement_87 ?_
        refine lv_topi (fun x83 e84 => ?_)
        refine p_put (v := .int x83) (ty := .int) (C := RX4) (Tc := TX4) (N := 6) (ci := 11) (K' := (kI K69 29 lq x83)) hx hb hq pin_wsX40 tyX4 tyX4_ok nmX4 hown hE hP hD hS hO (by rw [hf80]; decide) (rep_9 hf80) rfl 4 (by decide) (hq _ pw_283) (fun _ h9 => h9) rfl (by decide +kernel) rfl rfl (Nat.le_of_ble_eq_true rfl) rfl (by rw [rep_9 (show (kI K69 29 lq x83).1 lq = 9 from hf80), pi_29] <;> rfl) (fun p9 hp9 => rep_kI hp9) dX0_jumpStatement_88 (fun H locs w hP hD hS hO => ?_)
        obtain ⟨K85, hK86⟩ : ∃ z : PK, z = (kI K69 29 lq x83) := ⟨_, rfl⟩
        rw [← hK86] at hO
        have hf87 : K85.1 pq = 7 := (by rw [hK86]; exact hf71)
        have hf88 : K85.2.2.1 18 pq = some (a 1) := (by rw [hK86]; exact hf72)
        have hf89 : K85.2.2.1 14 pq = some dr := (by rw [hK86]; exact hf73)
        have hf90 : K85.1 dr = 8 := (by rw [hK86]; exact hf74)
        have hf91 : K85.2.2.1 15 pq = some ml := (by rw [hK86]; exact hf75)
        have hf92 : K85.1 ml = 5 := (by rw [hK86]; exact hf76)
        have hf93 : K85.2.1 24 pq = (nI nd) := (by rw [hK86]; exact (kI_of (by decide)).trans hf77)
        have hf94 : K85.1 q = 1 := (by rw [hK86]; exact hf78)
        have hf95 : K85.1 mq = 3 := (by rw [hK86]; exact hf79)
        have hf96 : K85.1 lq = 9 := (by rw [hK86]; exact hf80)
        have hf97 : K85.2.1 27 lq = r66 := (by rw [hK86]; exact (kI_of (by decide)).trans hf81)
        have hf98 : K85.2.1 29 lq = x83 := by rw [hK86]; exact kI_eq
        have hbe99 : BdE K K85 := BdE.trans hbe82 (by rw [hK86]; exact BdE.kI (Or.inr (by decide)))
        refine lv_goto (tgt := 133) hx hb dX0_jumpStatement_91 (by decide) ?_
        refine lv_aload_n hx hb dX0_jumpStatement_133 rfl (lv_at hl 1 rfl) ?_
        refine lv_iconst (v := (-1)) hx hb dX0_jumpStatement_134 (by decide) ?_
        refine c_put (v := .int (-1)) (ty := .int) (C := RX0) (Tc := TX0) (N := 13) (ci := 0) hx hb hq pin_wsX00 tyX0 tyX0_ok nmX0 hown hE hP hD hS hO 24 (sg_24 G h0 a _ _ _ _ _) rfl 8 (by decide) (hq _ pw_55) (fun _ h9 => h9) rfl (by decide +kernel) rfl rfl (Nat.le_of_ble_eq_true rfl) (sf_13 G h0 a _ _ _ _ _ (-1)) dX0_jumpStatement_135 (fun H locs w hP hD hS hO => ?_)
        refine W_size (fun hz1 hz2 => ?_)
        refine vx_ret ?_
        have hz100 : BdE K K85 := hbe99
        have hz101 : Bth B (updA (updA (updA (updA B 16 f62) 17 f63) 18 f64) 19 f65) := (show Thx (upd (upd (upd (upd (upd (upd (upd F 2 (nI sz)) 5 (nI cs)) 6 (nI rg)) 7 (nI hd)) 8 (nI dp)) 12 (nI vr)) 16 ls9) (upd (upd (upd (upd (upd (upd (upd (upd (upd F 2 (nI sz)) 5 (nI cs)) 6 (nI rg)) 7 (nI hd)) 8 (nI dp)) 12 (nI vr)) 16 ls9) 5 (nI cs61)) 13 (-1)) B (updA (updA (updA (updA B 16 f62) 17 f63) 18 f64) 19 f65) from (Thx.b (Thx.b8 (Thx.b (Thx.b (Thx.f (Thx.f Thx.rfl (by omega)) (by omega)) (by omega) (by decide)) (by omega) (by decide)) h68) (by omega) (by decide))).2
        have hz102 : cs61 ≤ 10000 ∧ rg ≤ 625 ∧ dp ≤ 1000 := (by omega)
        have hz103 : vr ≤ vr ∧ vr ≤ 30 ∧ hd + vr = hd + vr := (by omega)
        have hO : OKP G h0 a (upd (upd (upd (upd (upd (upd (upd (upd (upd (upd F 2 (nI sz)) 5 (nI cs61)) 6 (nI rg)) 7 (nI hd)) 8 (nI dp)) 12 (nI vr)) 13 ((-1) : Int32)) 14 (F 14)) 15 (F 15)) 16 ls9) (updR (updR (updR R 2 (.ref pq)) 3 (.ref mq)) 4 (va_rf (some lq))) Z (updA (updA (updA (updA B 16 f62) 17 f63) 18 f64) 19 f65) J K85 w := hO.to rfl
        refine W.widen (k := 1) (n := 6) (by omega) (by omega) ?_
        have hzz1 : H.size ≤ s.heap.size + (0) := (by have z : 0 ≤ 0 := (by omega); omega)
        have hzz2 : hSl H ≤ hSl s.heap + (0) := (by have z : 0 ≤ 0 := (by omega); omega)
        exact W.vret hx hb hr (fun t99 ht99 hW99 => ⟨⟨_, (w, (K85, (updA (updA (updA (updA B 16 f62) 17 f63) 18 f64) 19 f65), cs61, ((-1) : Int32), (F 14), (F 15), vr, hd, dp, rg, ls9)), rfl, ⟨rfl, hz100, hz101, hz102, hz103, hO⟩, by rw [ht99]; exact hP, hD, by rw [ht99]; exact hzz1, by rw [ht99]; exact hzz2⟩, hS.F ht99⟩) hS.2.2 dX0_jumpStatement_138
    · refine lv_bipush (v := 28) hx hb dX0_jumpStatement_35 (by decide) ?_
      refine lv_goto (tgt := 42) hx hb dX0_jumpStatement_37 (by decide) ?_
      refine lv_istore_n (lv' := [(2, .int 28), (0, .ref (a 4)), (1, .ref q)]) hx hb dX0_jumpStatement_42 rfl hl (by decide) rfl (fun ls hl => ?_)
      refine lv_aload_n hx hb dX0_jumpStatement_43 rfl (lv_at hl 2 rfl) ?_
      refine p_get (v := .int (K.2.1 0 q)) (C := RX7) (Tc := TX7) (N := 11) (ci := 13) hx hb hq pin_wsX70 hown hE hP hO (by rw [hqT]; decide) (rep_1 hqT) rfl 0 (by decide) (hq _ pw_166) (fun _ h9 => h9) rfl dX0_jumpStatement_44 ?_
      refine lv_bipush (v := 29) hx hb dX0_jumpStatement_47 (by decide) ?_
      refine lv_icmp_ne (tgt := 94) hx hb dX0_jumpStatement_49 (by decide) (fun c104 => ?_) (fun c104 => ?_)
      · refine lv_aload_n hx hb dX0_jumpStatement_94 rfl (lv_at hl 1 rfl) ?_
        refine c_get (v := .ref lq) (C := RX0) (Tc := TX0) (N := 13) (ci := 0) hx hb hq pin_wsX00 hown hE hP hO 24 (sg_24 G h0 a _ _ _ _ _) rfl 11 (by decide) (hq _ pw_73) (fun _ h9 => h9) rfl dX0_jumpStatement_95 ?_
        refine lv_aload_n hx hb dX0_jumpStatement_98 rfl (lv_at hl 1 rfl) ?_
        refine c_get (v := .ref (a 2)) (C := RX0) (Tc := TX0) (N := 13) (ci := 0) hx hb hq pin_wsX00 hown hE hP hO 24 (sg_24 G h0 a _ _ _ _ _) rfl 1 (by decide) (hq _ pw_5) (fun _ h9 => h9) rfl dX0_jumpStatement_99 ?_
        refine lv_iload_n hx hb dX0_jumpStatement_102 rfl (lv_at hl 0 rfl) ?_
        refine lv_aload_n hx hb dX0_jumpStatement_103 rfl (lv_at hl 1 rfl) ?_
        refine c_get (v := .ref lq) (C := RX0) (Tc := TX0) (N := 13) (ci := 0) hx hb hq pin_wsX00 hown hE hP hO 24 (sg_24 G h0 a _ _ _ _ _) rfl 11 (by decide) (hq _ pw_73) (fun _ h9 => h9) rfl dX0_jumpStatement_104 ?_
        refine p_get (v := .int (K.2.1 28 lq)) (C := RX4) (Tc := TX4) (N := 6) (ci := 11) hx hb hq pin_wsX40 hown hE hP hO (by rw [hlT]; decide) (rep_9 hlT) rfl 3 (by decide) (hq _ pw_284) (fun _ h9 => h9) rfl dX0_jumpStatement_107 ?_
        refine lv_iconst (v := 0) hx hb dX0_jumpStatement_110 (by decide) ?_
        have hO : OKW G h0 a (upd (upd (upd (upd (upd (upd (upd (upd F 2 (nI sz)) 5 (nI cs)) 6 (nI rg)) 7 (nI hd)) 8 (nI dp)) 12 (nI vr)) 16 ls9) 5 (nI cs)) (updR (updR (updR R 2 (.ref pq)) 3 (.ref mq)) 4 (.ref lq)) Z B J K.1 (fun q99 x99 => x99 = rep G a K q99) w := hO.to rfl
        obtain ⟨_, qr108, hqr109⟩ := hO.2.1 13 _ (sg_13 G h0 a _ _ _ _ _)
        refine pc_V0 (G := G) (As := [.int 28, .int (K.2.1 28 lq), .int (nI 0)]) (rest := [.ref lq]) hx hb hml hown hq hE hX pX0_al hP hD hS hA hl.1 (K_jump l G h0 a (upd (upd (upd (upd (upd (upd (upd F 2 (nI sz)) 5 (nI cs)) 6 (nI rg)) 7 (nI hd)) 8 (nI dp)) 12 (nI vr)) 16 ls9) (updR (updR (updR R 2 (.ref pq)) 3 (.ref mq)) 4 (.ref lq)) Z B J K.1 (fun q99 x99 => x99 = rep G a K q99) w 28 (K.2.1 28 lq) 0 cs (by omega) (by omega) hng hO) (gV pw_197 pw_198 pw_199 pw_70 pw_132) hV_X1_jump qr108 1 hqr109 rfl rfl rfl (Nat.le_of_ble_eq_true rfl) dX0_jumpStatement_111 ⟨(by show 0 + 0 ≤ 1; omega), (by show 0 + 0 ≤ 6; omega)⟩ ⟨(by show 3 + 1 ≤ (5 * n + 33); omega), (by show 8 + (4 + 11) + 83 ≤ (200 * n + 560); omega)⟩ (fun v107 u105 H locs hw106 hP hD hS => ?_)
        obtain ⟨w, cs110, f111, f112, f113, f114, r115⟩ := u105
        obtain ⟨hw106, h116, h117, hO⟩ := hw106
        have h116 : cs ≤ cs110 ∧ cs110 ≤ cs + 1 ∧ cs110 ≤ 10000 := h116
        have h117 : Nng f113 := h117
        obtain rfl : v107 = some (.int r115) := hw106
        have hO : OKP G h0 a (upd (upd (upd (upd (upd (upd (upd F 2 (nI sz)) 5 (nI cs110)) 6 (nI rg)) 7 (nI hd)) 8 (nI dp)) 12 (nI vr)) 16 ls9) (updR (updR (updR R 2 (.ref pq)) 3 (.ref mq)) 4 (.ref lq)) Z (updA (updA (updA (updA B 16 f111) 17 f112) 18 f113) 19 f114) J K w := hO.to rfl
        refine W.widen (k := 0) (n := 0) (Nat.le_of_ble_eq_true rfl) (Nat.le_of_ble_eq_true rfl) ?_
        refine W.eq (g2 := F0 m 114 ls [.int r115, .ref lq]) rfl ?_
        refine p_put (v := .int r115) (ty := .int) (C := RX4) (Tc := TX4) (N := 6) (ci := 11) (K' := (kI K 28 lq r115)) hx hb hq pin_wsX40 tyX4 tyX4_ok nmX4 hown hE hP hD hS hO (by rw [hlT]; decide) (rep_9 hlT) rfl 3 (by decide) (hq _ pw_284) (fun _ h9 => h9) rfl (by decide +kernel) rfl rfl (Nat.le_of_ble_eq_true rfl) rfl (by rw [rep_9 (show (kI K 28 lq r115).1 lq = 9 from hlT), pi_28] <;> rfl) (fun p9 hp9 => rep_kI hp9) dX0_jumpStatement_114 (fun H locs w hP hD hS hO => ?_)
        obtain ⟨K118, hK119⟩ : ∃ z : PK, z = (kI K 28 lq r115) := ⟨_, rfl⟩
        rw [← hK119] at hO
        have hf120 : K118.1 pq = 7 := (by rw [hK119]; exact hp1)
        have hf121 : K118.2.2.1 18 pq = some (a 1) := (by rw [hK119]; exact hp2)
        have hf122 : K118.2.2.1 14 pq = some dr := (by rw [hK119]; exact hp3)
        have hf123 : K118.1 dr = 8 := (by rw [hK119]; exact hp4)
        have hf124 : K118.2.2.1 15 pq = some ml := (by rw [hK119]; exact hp5)
        have hf125 : K118.1 ml = 5 := (by rw [hK119]; exact hp6)
        have hf126 : K118.2.1 24 pq = (nI nd) := (by rw [hK119]; exact (kI_of (by decide)).trans hp8)
        have hf127 : K118.1 q = 1 := (by rw [hK119]; exact hqT)
        have hf128 : K118.1 mq = 3 := (by rw [hK119]; exact hmq)
        have hf129 : K118.1 lq = 9 := (by rw [hK119]; exact hlT)
        have hf130 : K118.2.1 28 lq = r115 := by rw [hK119]; exact kI_eq
        have hbe131 : BdE K K118 := BdE.trans BdE.rfl (by rw [hK119]; exact BdE.kI (Or.inr (by decide)))
        refine lv_aload_n hx hb dX0_jumpStatement_117 rfl (lv_at hl 1 rfl) ?_
        refine c_get (v := .ref lq) (C := RX0) (Tc := TX0) (N := 13) (ci := 0) hx hb hq pin_wsX00 hown hE hP hO 24 (sg_24 G h0 a _ _ _ _ _) rfl 11 (by decide) (hq _ pw_73) (fun _ h9 => h9) rfl dX0_jumpStatement_118 ?_
        refine lv_dup hx hb dX0_jumpStatement_121 rfl ?_
        refine p_get (v := .int (K118.2.1 30 lq)) (C := RX4) (Tc := TX4) (N := 6) (ci := 11) hx hb hq pin_wsX40 hown hE hP hO (by rw [hf129]; decide) (rep_9 hf129) rfl 5 (by decide) (hq _ pw_285) (fun _ h9 => h9) rfl dX0_jumpStatement_122 ?_
        refine lv_aload_n hx hb dX0_jumpStatement_125 rfl (lv_at hl 1 rfl) ?_
        refine c_get (v := .int (F 13)) (C := RX0) (Tc := TX0) (N := 13) (ci := 0) hx hb hq pin_wsX00 hown hE hP hO 24 (sg_24 G h0 a _ _ _ _ _) rfl 8 (by decide) (hq _ pw_55) (fun _ h9 => h9) rfl dX0_jumpStatement_126 ?_
        refine lv_iand hx hb dX0_jumpStatement_129 ?_
        refine lv_topi (fun x132 e133 => ?_)
        refine p_put (v := .int x132) (ty := .int) (C := RX4) (Tc := TX4) (N := 6) (ci := 11) (K' := (kI K118 30 lq x132)) hx hb hq pin_wsX40 tyX4 tyX4_ok nmX4 hown hE hP hD hS hO (by rw [hf129]; decide) (rep_9 hf129) rfl 5 (by decide) (hq _ pw_285) (fun _ h9 => h9) rfl (by decide +kernel) rfl rfl (Nat.le_of_ble_eq_true rfl) rfl (by rw [rep_9 (show (kI K118 30 lq x132).1 lq = 9 from hf129), pi_30] <;> rfl) (fun p9 hp9 => rep_kI hp9) dX0_jumpStatement_130 (fun H locs w hP hD hS hO => ?_)
        obtain ⟨K134, hK135⟩ : ∃ z : PK, z = (kI K118 30 lq x132) := ⟨_, rfl⟩
        rw [← hK135] at hO
        have hf136 : K134.1 pq = 7 := (by rw [hK135]; exact hf120)
        have hf137 : K134.2.2.1 18 pq = some (a 1) := (by rw [hK135]; exact hf121)
        have hf138 : K134.2.2.1 14 pq = some dr := (by rw [hK135]; exact hf122)
        have hf139 : K134.1 dr = 8 := (by rw [hK135]; exact hf123)
        have hf140 : K134.2.2.1 15 pq = some ml := (by rw [hK135]; exact hf124)
        have hf141 : K134.1 ml = 5 := (by rw [hK135]; exact hf125)
        have hf142 : K134.2.1 24 pq = (nI nd) := (by rw [hK135]; exact (kI_of (by decide)).trans hf126)
        have hf143 : K134.1 q = 1 := (by rw [hK135]; exact hf127)
        have hf144 : K134.1 mq = 3 := (by rw [hK135]; exact hf128)
        have hf145 : K134.1 lq = 9 := (by rw [hK135]; exact hf129)
        have hf146 : K134.2.1 28 lq = r115 := (by rw [hK135]; exact (kI_of (by decide)).trans hf130)
        have hf147 : K134.2.1 30 lq = x132 := by rw [hK135]; exact kI_eq
        have hbe148 : BdE K K134 := BdE.trans hbe131 (by rw [hK135]; exact BdE.kI (Or.inr (by decide)))
        refine lv_aload_n hx hb dX0_jumpStatement_133 rfl (lv_at hl 1 rfl) ?_
        refine lv_iconst (v := (-1)) hx hb dX0_jumpStatement_134 (by decide) ?_
        refine c_put (v := .int (-1)) (ty := .int) (C := RX0) (Tc := TX0) (N := 13) (ci := 0) hx hb hq pin_wsX00 tyX0 tyX0_ok nmX0 hown hE hP hD hS hO 24 (sg_24 G h0 a _ _ _ _ _) rfl 8 (by decide) (hq _ pw_55) (fun _ h9 => h9) rfl (by decide +kernel) rfl rfl (Nat.le_of_ble_eq_true rfl) (sf_13 G h0 a _ _ _ _ _ (-1)) dX0_jumpStatement_135 (fun H locs w hP hD hS hO => ?_)
        refine W_size (fun hz1 hz2 => ?_)
        refine vx_ret ?_
        have hz149 : BdE K K134 := hbe148
        have hz150 : Bth B (updA (updA (updA (updA B 16 f111) 17 f112) 18 f113) 19 f114) := (show Thx (upd (upd (upd (upd (upd (upd (upd F 2 (nI sz)) 5 (nI cs)) 6 (nI rg)) 7 (nI hd)) 8 (nI dp)) 12 (nI vr)) 16 ls9) (upd (upd (upd (upd (upd (upd (upd (upd (upd F 2 (nI sz)) 5 (nI cs)) 6 (nI rg)) 7 (nI hd)) 8 (nI dp)) 12 (nI vr)) 16 ls9) 5 (nI cs110)) 13 (-1)) B (updA (updA (updA (updA B 16 f111) 17 f112) 18 f113) 19 f114) from (Thx.b (Thx.b8 (Thx.b (Thx.b (Thx.f (Thx.f Thx.rfl (by omega)) (by omega)) (by omega) (by decide)) (by omega) (by decide)) h117) (by omega) (by decide))).2
        have hz151 : cs110 ≤ 10000 ∧ rg ≤ 625 ∧ dp ≤ 1000 := (by omega)
        have hz152 : vr ≤ vr ∧ vr ≤ 30 ∧ hd + vr = hd + vr := (by omega)
        have hO : OKP G h0 a (upd (upd (upd (upd (upd (upd (upd (upd (upd (upd F 2 (nI sz)) 5 (nI cs110)) 6 (nI rg)) 7 (nI hd)) 8 (nI dp)) 12 (nI vr)) 13 ((-1) : Int32)) 14 (F 14)) 15 (F 15)) 16 ls9) (updR (updR (updR R 2 (.ref pq)) 3 (.ref mq)) 4 (va_rf (some lq))) Z (updA (updA (updA (updA B 16 f111) 17 f112) 18 f113) 19 f114) J K134 w := hO.to rfl
        refine W.widen (k := 1) (n := 6) (by omega) (by omega) ?_
        have hzz1 : H.size ≤ s.heap.size + (0) := (by have z : 0 ≤ 0 := (by omega); omega)
        have hzz2 : hSl H ≤ hSl s.heap + (0) := (by have z : 0 ≤ 0 := (by omega); omega)
        exact W.vret hx hb hr (fun t99 ht99 hW99 => ⟨⟨_, (w, (K134, (updA (updA (updA (updA B 16 f111) 17 f112) 18 f113) 19 f114), cs110, ((-1) : Int32), (F 14), (F 15), vr, hd, dp, rg, ls9)), rfl, ⟨rfl, hz149, hz150, hz151, hz152, hO⟩, by rw [ht99]; exact hP, hD, by rw [ht99]; exact hzz1, by rw [ht99]; exact hzz2⟩, hS.F ht99⟩) hS.2.2 dX0_jumpStatement_138
      · refine lv_aload_n hx hb dX0_jumpStatement_52 rfl (lv_at hl 1 rfl) ?_
        refine c_get (v := .ref lq) (C := RX0) (Tc := TX0) (N := 13) (ci := 0) hx hb hq pin_wsX00 hown hE hP hO 24 (sg_24 G h0 a _ _ _ _ _) rfl 11 (by decide) (hq _ pw_73) (fun _ h9 => h9) rfl dX0_jumpStatement_53 ?_
        refine lv_aload_n hx hb dX0_jumpStatement_56 rfl (lv_at hl 1 rfl) ?_
        refine c_get (v := .ref (a 2)) (C := RX0) (Tc := TX0) (N := 13) (ci := 0) hx hb hq pin_wsX00 hown hE hP hO 24 (sg_24 G h0 a _ _ _ _ _) rfl 1 (by decide) (hq _ pw_5) (fun _ h9 => h9) rfl dX0_jumpStatement_57 ?_
        refine lv_iload_n hx hb dX0_jumpStatement_60 rfl (lv_at hl 0 rfl) ?_
        refine lv_aload_n hx hb dX0_jumpStatement_61 rfl (lv_at hl 1 rfl) ?_
        refine c_get (v := .ref lq) (C := RX0) (Tc := TX0) (N := 13) (ci := 0) hx hb hq pin_wsX00 hown hE hP hO 24 (sg_24 G h0 a _ _ _ _ _) rfl 11 (by decide) (hq _ pw_73) (fun _ h9 => h9) rfl dX0_jumpStatement_62 ?_
        refine p_get (v := .int (K.2.1 27 lq)) (C := RX4) (Tc := TX4) (N := 6) (ci := 11) hx hb hq pin_wsX40 hown hE hP hO (by rw [hlT]; decide) (rep_9 hlT) rfl 2 (by decide) (hq _ pw_282) (fun _ h9 => h9) rfl dX0_jumpStatement_65 ?_
        refine lv_iconst (v := 0) hx hb dX0_jumpStatement_68 (by decide) ?_
        have hO : OKW G h0 a (upd (upd (upd (upd (upd (upd (upd (upd F 2 (nI sz)) 5 (nI cs)) 6 (nI rg)) 7 (nI hd)) 8 (nI dp)) 12 (nI vr)) 16 ls9) 5 (nI cs)) (updR (updR (updR R 2 (.ref pq)) 3 (.ref mq)) 4 (.ref lq)) Z B J K.1 (fun q99 x99 => x99 = rep G a K q99) w := hO.to rfl
        obtain ⟨_, qr156, hqr157⟩ := hO.2.1 13 _ (sg_13 G h0 a _ _ _ _ _)
        refine pc_V0 (G := G) (As := [.int 28, .int (K.2.1 27 lq), .int (nI 0)]) (rest := [.ref lq]) hx hb hml hown hq hE hX pX0_al hP hD hS hA hl.1 (K_jump l G h0 a (upd (upd (upd (upd (upd (upd (upd F 2 (nI sz)) 5 (nI cs)) 6 (nI rg)) 7 (nI hd)) 8 (nI dp)) 12 (nI vr)) 16 ls9) (updR (updR (updR R 2 (.ref pq)) 3 (.ref mq)) 4 (.ref lq)) Z B J K.1 (fun q99 x99 => x99 = rep G a K q99) w 28 (K.2.1 27 lq) 0 cs (by omega) (by omega) hng hO) (gV pw_197 pw_198 pw_199 pw_70 pw_132) hV_X1_jump qr156 1 hqr157 rfl rfl rfl (Nat.le_of_ble_eq_true rfl) dX0_jumpStatement_69 ⟨(by show 0 + 0 ≤ 1; omega), (by show 0 + 0 ≤ 6; omega)⟩ ⟨(by show 3 + 1 ≤ (5 * n + 33); omega), (by show 8 + (4 + 11) + 83 ≤ (200 * n + 560); omega)⟩ (fun v155 u153 H locs hw154 hP hD hS => ?_)
        obtain ⟨w, cs158, f159, f160, f161, f162, r163⟩ := u153
        obtain ⟨hw154, h164, h165, hO⟩ := hw154
        have h164 : cs ≤ cs158 ∧ cs158 ≤ cs + 1 ∧ cs158 ≤ 10000 := h164
        have h165 : Nng f161 := h165
        obtain rfl : v155 = some (.int r163) := hw154
        have hO : OKP G h0 a (upd (upd (upd (upd (upd (upd (upd F 2 (nI sz)) 5 (nI cs158)) 6 (nI rg)) 7 (nI hd)) 8 (nI dp)) 12 (nI vr)) 16 ls9) (updR (updR (updR R 2 (.ref pq)) 3 (.ref mq)) 4 (.ref lq)) Z (updA (updA (updA (updA B 16 f159) 17 f160) 18 f161) 19 f162) J K w := hO.to rfl
        refine W.widen (k := 0) (n := 0) (Nat.le_of_ble_eq_true rfl) (Nat.le_of_ble_eq_true rfl) ?_
        refine W.eq (g2 := F0 m 72 ls [.int r163, .ref lq]) rfl ?_
        refine p_put (v := .int r163) (ty := .int) (C := RX4) (Tc := TX4) (N := 6) (ci := 11) (K' := (kI K 27 lq r163)) hx hb hq pin_wsX40 tyX4 tyX4_ok nmX4 hown hE hP hD hS hO (by rw [hlT]; decide) (rep_9 hlT) rfl 2 (by decide) (hq _ pw_282) (fun _ h9 => h9) rfl (by decide +kernel) rfl rfl (Nat.le_of_ble_eq_true rfl) rfl (by rw [rep_9 (show (kI K 27 lq r163).1 lq = 9 from hlT), pi_27] <;> rfl) (fun p9 hp9 => rep_kI hp9) dX0_jumpStatement_72 (fun H locs w hP hD hS hO => ?_)
        obtain ⟨K166, hK167⟩ : ∃ z : PK, z = (kI K 27 lq r163) := ⟨_, rfl⟩
        rw [← hK167] at hO
        have hf168 : K166.1 pq = 7 := (by rw [hK167]; exact hp1)
        have hf169 : K166.2.2.1 18 pq = some (a 1) := (by rw [hK167]; exact hp2)
        have hf170 : K166.2.2.1 14 pq = some dr := (by rw [hK167]; exact hp3)
        have hf171 : K166.1 dr = 8 := (by rw [hK167]; exact hp4)
        have hf172 : K166.2.2.1 15 pq = some ml := (by rw [hK167]; exact hp5)
        have hf173 : K166.1 ml = 5 := (by rw [hK167]; exact hp6)
        have hf174 : K166.2.1 24 pq = (nI nd) := (by rw [hK167]; exact (kI_of (by decide)).trans hp8)
        have hf175 : K166.1 q = 1 := (by rw [hK167]; exact hqT)
        have hf176 : K166.1 mq = 3 := (by rw [hK167]; exact hmq)
        have hf177 : K166.1 lq = 9 := (by rw [hK167]; exact hlT)
        have hf178 : K166.2.1 27 lq = r163 := by rw [hK167]; exact kI_eq
        have hbe179 : BdE K K166 := BdE.trans BdE.rfl (by rw [hK167]; exact BdE.kI (Or.inr (by decide)))
        refine lv_aload_n hx hb dX0_jumpStatement_75 rfl (lv_at hl 1 rfl) ?_
        refine c_get (v := .ref lq) (C := RX0) (Tc := TX0) (N := 13) (ci := 0) hx hb hq pin_wsX00 hown hE hP hO 24 (sg_24 G h0 a _ _ _ _ _) rfl 11 (by decide) (hq _ pw_73) (fun _ h9 => h9) rfl dX0_jumpStatement_76 ?_
        refine lv_dup hx hb dX0_jumpStatement_79 rfl ?_
        refine p_get (v := .int (K166.2.1 29 lq)) (C := RX4) (Tc := TX4) (N := 6) (ci := 11) hx hb hq pin_wsX40 hown hE hP hO (by rw [hf177]; decide) (rep_9 hf177) rfl 4 (by decide) (hq _ pw_283) (fun _ h9 => h9) rfl dX0_jumpStatement_80 ?_
        refine lv_aload_n hx hb dX0_jumpStatement_83 rfl (lv_at hl 1 rfl) ?_
        refine c_get (v := .int (F 13)) (C := RX0) (Tc := TX0) (N := 13) (ci := 0) hx hb hq pin_wsX00 hown hE hP hO 24 (sg_24 G h0 a _ _ _ _ _) rfl 8 (by decide) (hq _ pw_55) (fun _ h9 => h9) rfl dX0_jumpStatement_84 ?_
        refine lv_iand hx hb dX0_jumpStatement_87 ?_
        refine lv_topi (fun x180 e181 => ?_)
        refine p_put (v := .int x180) (ty := .int) (C := RX4) (Tc := TX4) (N := 6) (ci := 11) (K' := (kI K166 29 lq x180)) hx hb hq pin_wsX40 tyX4 tyX4_ok nmX4 hown hE hP hD hS hO (by rw [hf177]; decide) (rep_9 hf177) rfl 4 (by decide) (hq _ pw_283) (fun _ h9 => h9) rfl (by decide +kernel) rfl rfl (Nat.le_of_ble_eq_true rfl) rfl (by rw [rep_9 (show (kI K166 29 lq x180).1 lq = 9 from hf177), pi_29] <;> rfl) (fun p9 hp9 => rep_kI hp9) dX0_jumpStatement_88 (fun H locs w hP hD hS hO => ?_)
        obtain ⟨K182, hK183⟩ : ∃ z : PK, z = (kI K166 29 lq x180) := ⟨_, rfl⟩
        rw [← hK183] at hO
        have hf184 : K182.1 pq = 7 := (by rw [hK183]; exact hf168)
        have hf185 : K182.2.2.1 18 pq = some (a 1) := (by rw [hK183]; exact hf169)
        have hf186 : K182.2.2.1 14 pq = some dr := (by rw [hK183]; exact hf170)
        have hf187 : K182.1 dr = 8 := (by rw [hK183]; exact hf171)
        have hf188 : K182.2.2.1 15 pq = some ml := (by rw [hK183]; exact hf172)
        have hf189 : K182.1 ml = 5 := (by rw [hK183]; exact hf173)
        have hf190 : K182.2.1 24 pq = (nI nd) := (by rw [hK183]; exact (kI_of (by decide)).trans hf174)
        have hf191 : K182.1 q = 1 := (by rw [hK183]; exact hf175)
        have hf192 : K182.1 mq = 3 := (by rw [hK183]; exact hf176)
        have hf193 : K182.1 lq = 9 := (by rw [hK183]; exact hf177)
        have hf194 : K182.2.1 27 lq = r163 := (by rw [hK183]; exact (kI_of (by decide)).trans hf178)
        have hf195 : K182.2.1 29 lq = x180 := by rw [hK183]; exact kI_eq
        have hbe196 : BdE K K182 := BdE.trans hbe179 (by rw [hK183]; exact BdE.kI (Or.inr (by decide)))
        refine lv_goto (tgt := 133) hx hb dX0_jumpStatement_91 (by decide) ?_
        refine lv_aload_n hx hb dX0_jumpStatement_133 rfl (lv_at hl 1 rfl) ?_
        refine lv_iconst (v := (-1)) hx hb dX0_jumpStatement_134 (by decide) ?_
        refine c_put (v := .int (-1)) (ty := .int) (C := RX0) (Tc := TX0) (N := 13) (ci := 0) hx hb hq pin_wsX00 tyX0 tyX0_ok nmX0 hown hE hP hD hS hO 24 (sg_24 G h0 a _ _ _ _ _) rfl 8 (by decide) (hq _ pw_55) (fun _ h9 => h9) rfl (by decide +kernel) rfl rfl (Nat.le_of_ble_eq_true rfl) (sf_13 G h0 a _ _ _ _ _ (-1)) dX0_jumpStatement_135 (fun H locs w hP hD hS hO => ?_)
        refine W_size (fun hz1 hz2 => ?_)
        refine vx_ret ?_
        have hz197 : BdE K K182 := hbe196
        have hz198 : Bth B (updA (updA (updA (updA B 16 f159) 17 f160) 18 f161) 19 f162) := (show Thx (upd (upd (upd (upd (upd (upd (upd F 2 (nI sz)) 5 (nI cs)) 6 (nI rg)) 7 (nI hd)) 8 (nI dp)) 12 (nI vr)) 16 ls9) (upd (upd (upd (upd (upd (upd (upd (upd (upd F 2 (nI sz)) 5 (nI cs)) 6 (nI rg)) 7 (nI hd)) 8 (nI dp)) 12 (nI vr)) 16 ls9) 5 (nI cs158)) 13 (-1)) B (updA (updA (updA (updA B 16 f159) 17 f160) 18 f161) 19 f162) from (Thx.b (Thx.b8 (Thx.b (Thx.b (Thx.f (Thx.f Thx.rfl (by omega)) (by omega)) (by omega) (by decide)) (by omega) (by decide)) h165) (by omega) (by decide))).2
        have hz199 : cs158 ≤ 10000 ∧ rg ≤ 625 ∧ dp ≤ 1000 := (by omega)
        have hz200 : vr ≤ vr ∧ vr ≤ 30 ∧ hd + vr = hd + vr := (by omega)
        have hO : OKP G h0 a (upd (upd (upd (upd (upd (upd (upd (upd (upd (upd F 2 (nI sz)) 5 (nI cs158)) 6 (nI rg)) 7 (nI hd)) 8 (nI dp)) 12 (nI vr)) 13 ((-1) : Int32)) 14 (F 14)) 15 (F 15)) 16 ls9) (updR (updR (updR R 2 (.ref pq)) 3 (.ref mq)) 4 (va_rf (some lq))) Z (updA (updA (updA (updA B 16 f159) 17 f160) 18 f161) 19 f162) J K182 w := hO.to rfl
        refine W.widen (k := 1) (n := 6) (by omega) (by omega) ?_
        have hzz1 : H.size ≤ s.heap.size + (0) := (by have z : 0 ≤ 0 := (by omega); omega)
        have hzz2 : hSl H ≤ hSl s.heap + (0) := (by have z : 0 ≤ 0 := (by omega); omega)
        exact W.vret hx hb hr (fun t99 ht99 hW99 => ⟨⟨_, (w, (K182, (updA (updA (updA (updA B 16 f159) 17 f160) 18 f161) 19 f162), cs158, ((-1) : Int32), (F 14), (F 15), vr, hd, dp, rg, ls9)), rfl, ⟨rfl, hz197, hz198, hz199, hz200, hO⟩, by rw [ht99]; exact hP, hD, by rw [ht99]; exact hzz1, by rw [ht99]; exact hzz2⟩, hS.F ht99⟩) hS.2.2 dX0_jumpStatement_138
