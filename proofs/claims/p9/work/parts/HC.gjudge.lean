def RgQ (K : PK) (pq : Nat) (ab : Nat → Int64) (i : Nat) : Prop := K.2.1 25 pq = 2147483647 → ∀ k : Nat, 7 ≤ k → k < i → ¬ bitL (ab k) k
section JN
variable {G : pT} {K K1 K2 : PK} {g : Nat → Nat → Nat} {ax pq dr ml nd nm cp s k i d : Nat} {it rk : Nat → Nat} {ab : Nat → Int64} {v : Int32}
theorem LgK.pss (h : LgK K K1 pq) (hw : PgS G K g ax pq dr ml nd nm cp it s) : PgS G K1 g ax pq dr ml nd nm cp it s := by
  obtain ⟨v, e⟩ := h
  rw [e]; exact PgS.kI hw (by decide)
theorem LyN.start (h : PaN K dr nd) : LyN K dr nd 0 := fun j hj _ d he => (h j hj d he).2
theorem LyN.lk (h : LyN K dr nd k) (hx : LkX K K1) : LyN K1 dr nd k := fun j hj hkj d he => by
  obtain ⟨h1, h2, h3, h4, h5⟩ := hx
  rw [h4] at he
  have lz : ∀ o : Option Nat, lsz K1 o = lsz K o := fun o => by
    cases o with
    | none => rfl
    | some x => show szL K1 x = szL K x; unfold szL; rw [h2]
  rw [h3 11 d (by decide), h3 12 d (by decide), lz, lz]
  exact h j hj hkj d he
theorem LyN.lg (h : LyN K dr nd k) (hx : LgK K K1 pq) : LyN K1 dr nd k := fun j hj hkj d he => by
  obtain ⟨v, e⟩ := hx
  subst e
  rw [lsz_kI (by decide), lsz_kI (by decide)]
  exact h j hj hkj d he
end JN
theorem dX9_judgeNames_0 : decode cX9_judgeNames 0 = .ok (.aload_n 0, 1) := by decide +kernel
theorem dX9_judgeNames_1 : decode cX9_judgeNames 1 = .ok (.invokevirtual 72, 3) := by decide +kernel
theorem dX9_judgeNames_4 : decode cX9_judgeNames 4 = .ok (.aload_n 0, 1) := by decide +kernel
theorem dX9_judgeNames_5 : decode cX9_judgeNames 5 = .ok (.invokevirtual 75, 3) := by decide +kernel
theorem dX9_judgeNames_8 : decode cX9_judgeNames 8 = .ok (.aload_n 0, 1) := by decide +kernel
theorem dX9_judgeNames_9 : decode cX9_judgeNames 9 = .ok (.invokevirtual 78, 3) := by decide +kernel
theorem dX9_judgeNames_12 : decode cX9_judgeNames 12 = .ok (.aload_n 0, 1) := by decide +kernel
theorem dX9_judgeNames_13 : decode cX9_judgeNames 13 = .ok (.invokevirtual 81, 3) := by decide +kernel
theorem dX9_judgeNames_16 : decode cX9_judgeNames 16 = .ok (.bipush 7, 2) := by decide +kernel
theorem dX9_judgeNames_18 : decode cX9_judgeNames 18 = .ok (.istore_n 1, 1) := by decide +kernel
theorem dX9_judgeNames_19 : decode cX9_judgeNames 19 = .ok (.iload_n 1, 1) := by decide +kernel
theorem dX9_judgeNames_20 : decode cX9_judgeNames 20 = .ok (.aload_n 0, 1) := by decide +kernel
theorem dX9_judgeNames_21 : decode cX9_judgeNames 21 = .ok (.getfield 33, 3) := by decide +kernel
theorem dX9_judgeNames_24 : decode cX9_judgeNames 24 = .ok (.if_icmp .ge 33, 3) := by decide +kernel
theorem dX9_judgeNames_57 : decode cX9_judgeNames 57 = .ok (.aload_n 0, 1) := by decide +kernel
theorem dX9_judgeNames_58 : decode cX9_judgeNames 58 = .ok (.invokevirtual 75, 3) := by decide +kernel
theorem dX9_judgeNames_61 : decode cX9_judgeNames 61 = .ok (.aload_n 0, 1) := by decide +kernel
theorem dX9_judgeNames_62 : decode cX9_judgeNames 62 = .ok (.invokevirtual 91, 3) := by decide +kernel
theorem dX9_judgeNames_65 : decode cX9_judgeNames 65 = .ok (.aload_n 0, 1) := by decide +kernel
theorem dX9_judgeNames_66 : decode cX9_judgeNames 66 = .ok (.invokevirtual 75, 3) := by decide +kernel
theorem dX9_judgeNames_69 : decode cX9_judgeNames 69 = .ok (.aload_n 0, 1) := by decide +kernel
theorem dX9_judgeNames_70 : decode cX9_judgeNames 70 = .ok (.invokevirtual 94, 3) := by decide +kernel
theorem dX9_judgeNames_73 : decode cX9_judgeNames 73 = .ok (.return_, 1) := by decide +kernel
theorem dX9_judgeNames_27 : decode cX9_judgeNames 27 = .ok (.aload_n 0, 1) := by decide +kernel
theorem dX9_judgeNames_28 : decode cX9_judgeNames 28 = .ok (.iload_n 1, 1) := by decide +kernel
theorem dX9_judgeNames_29 : decode cX9_judgeNames 29 = .ok (.iload_n 1, 1) := by decide +kernel
theorem dX9_judgeNames_30 : decode cX9_judgeNames 30 = .ok (.invokevirtual 65, 3) := by decide +kernel
theorem dX9_judgeNames_33 : decode cX9_judgeNames 33 = .ok (.ifCond .eq 18, 3) := by decide +kernel
theorem dX9_judgeNames_51 : decode cX9_judgeNames 51 = .ok (.iinc 1 1, 3) := by decide +kernel
theorem dX9_judgeNames_54 : decode cX9_judgeNames 54 = .ok (.goto (-35), 3) := by decide +kernel
theorem dX9_judgeNames_36 : decode cX9_judgeNames 36 = .ok (.aload_n 0, 1) := by decide +kernel
theorem dX9_judgeNames_37 : decode cX9_judgeNames 37 = .ok (.bipush 6, 2) := by decide +kernel
theorem dX9_judgeNames_39 : decode cX9_judgeNames 39 = .ok (.aload_n 0, 1) := by decide +kernel
theorem dX9_judgeNames_40 : decode cX9_judgeNames 40 = .ok (.getfield 17, 3) := by decide +kernel
theorem dX9_judgeNames_43 : decode cX9_judgeNames 43 = .ok (.iload_n 1, 1) := by decide +kernel
theorem dX9_judgeNames_44 : decode cX9_judgeNames 44 = .ok (.aaload, 1) := by decide +kernel
theorem dX9_judgeNames_45 : decode cX9_judgeNames 45 = .ok (.getfield 84, 3) := by decide +kernel
theorem dX9_judgeNames_48 : decode cX9_judgeNames 48 = .ok (.invokevirtual 87, 3) := by decide +kernel
theorem hV_X9_firstRound : yX9_firstRound.cls = RX9 ∧ yX9_firstRound.cls ≠ "java/lang/invoke/MethodHandle" ∧ yX9_firstRound.cls ≠ "java/lang/invoke/VarHandle" ∧ (parseMethodDescriptor yX9_firstRound.desc).map (fun d => d.parameters.length) = some 0 := by decide +kernel
theorem hV_X9_settle : yX9_settle.cls = RX9 ∧ yX9_settle.cls ≠ "java/lang/invoke/MethodHandle" ∧ yX9_settle.cls ≠ "java/lang/invoke/VarHandle" ∧ (parseMethodDescriptor yX9_settle.desc).map (fun d => d.parameters.length) = some 0 := by decide +kernel
theorem hV_X9_resolveTypes : yX9_resolveTypes.cls = RX9 ∧ yX9_resolveTypes.cls ≠ "java/lang/invoke/MethodHandle" ∧ yX9_resolveTypes.cls ≠ "java/lang/invoke/VarHandle" ∧ (parseMethodDescriptor yX9_resolveTypes.desc).map (fun d => d.parameters.length) = some 0 := by decide +kernel
theorem hV_X9_link : yX9_link.cls = RX9 ∧ yX9_link.cls ≠ "java/lang/invoke/MethodHandle" ∧ yX9_link.cls ≠ "java/lang/invoke/VarHandle" ∧ (parseMethodDescriptor yX9_link.desc).map (fun d => d.parameters.length) = some 0 := by decide +kernel
theorem hV_X9_thirdRound : yX9_thirdRound.cls = RX9 ∧ yX9_thirdRound.cls ≠ "java/lang/invoke/MethodHandle" ∧ yX9_thirdRound.cls ≠ "java/lang/invoke/VarHandle" ∧ (parseMethodDescriptor yX9_thirdRound.desc).map (fun d => d.parameters.length) = some 0 := by decide +kernel
theorem hV_X9_layOut : yX9_layOut.cls = RX9 ∧ yX9_layOut.cls ≠ "java/lang/invoke/MethodHandle" ∧ yX9_layOut.cls ≠ "java/lang/invoke/VarHandle" ∧ (parseMethodDescriptor yX9_layOut.desc).map (fun d => d.parameters.length) = some 0 := by decide +kernel
set_option maxHeartbeats 60000000 in
set_option maxRecDepth 100000 in
theorem G_judgeNames (l : Launch) (G : pT) (h0 : Nat) (a : Nat → Nat) (F : Nat → Int32) (R : Nat → Value) (Z : Int64) (B : Nat → Nat → Int32) (J : Nat → Nat → Int64) (K : PK) (w : va_W) (pq : Nat) (dr : Nat) (ml : Nat) (nd : Nat) (nm : Nat) (cp : Nat) (it : Nat → Nat) (s9 : Nat) (sz : Nat) (g : Nat → Nat → Nat) (hsz : sz ≤ 5000) (hwp : WPr G K g) (hps : PgS G K g (a 1) pq dr ml nd nm cp it s9) (hs9 : s9 ≤ 5000) (hO : OKP G h0 a (upd F 2 (nI sz)) R Z B J K w) (hl0 : l.stackTraces = false) : PBn l G pX0 yX9_judgeNames cX9_judgeNames 2 none ({ frames := 10, cells := (37 * s9 + 10), slots := (37 * (80 + 8 * s9) + 15 * s9 + 2010), locals := 237 }) [.ref pq] w (fun (v : Option Value) (u : va_W × (PK × (Nat → Nat) × (Nat → Int32))) => v = none ∧ (WPr G u.2.1 g) ∧ (PgT G u.2.1 g (a 1) pq dr ml nd nm cp it s9) ∧ (RkO u.2.1 u.2.2.1) ∧ (OKP G h0 a (upd F 2 (nI sz)) R Z (updA B 11 u.2.2.2) J u.2.1 u.1)) (fun u => u.1) (fun (u : va_W × (PK × (Nat → Nat) × (Nat → Int32))) => (37 * s9)) (fun (u : va_W × (PK × (Nat → Nat) × (Nat → Int32))) => (37 * (80 + 8 * s9))) (fun (u : va_W × (Nat → Int32) × (Nat → Value) × (Nat → Nat → Int32)) => ThQ G h0 a (upd F 2 (nI sz)) R Z B J u) (fun u => u.1) := by
  intro sz
  refine vx_ofW (cc := cX9_judgeNames) (maxL := 2) (ret := none) (by decide) rfl ?_
  intro p e s m args below meth c s₁ B9 hml hnt hv
  obtain ⟨rfl, hsz, hP, hD0, hE, hX⟩ := hv
  have hx := B9.exec
  have hb := B9.bytes
  have hr := B9.returns
  have hts := atoms_spec (ws := Cond.code yX9_judgeNames cX9_judgeNames 2 none :: pw) B9.pre
  have hq : ∀ w ∈ pw, w.before _ s = true := fun w h => hts w (List.mem_cons_of_mem _ h)
  have hown : s.vm.findClass RX9 = some m.cls := findClass_of_methodNamed B9.named
  have hlocks := B9.notSynchronized
  subst hsz
  have hD := hD0.self (sz := s.heap.size)
  have hA : ∀ q : Nat, s.heap.size ≤ q → va_A w s.heap.size q := fun q h => Or.inr h
  generalize va_A w s.heap.size = A at hD hE hA ⊢
  have hS : va_S A s.heap s.heap [] := va_S.rf
  have hl := lv_entry ([.ref pq]) (n := 2) (Nat.le_of_ble_eq_true rfl)
  rw [lg_entry_eq]
  generalize (lg_sl ([.ref pq]) ++ List.replicate (2 - (lg_sl ([.ref pq])).length) Slot.unset).toArray = ls at hl ⊢
  have hl : lv_has ls 2 [(0, .ref pq)] := hl
  have hp01 := hps.1
  have hp1 := hp01.1
  have hp2 := hp01.2.1
  have hp3 := hp01.2.2.1
  have hp4 := hp01.2.2.2.1
  have hp5 := hp01.2.2.2.2.1
  have hp6 := hp01.2.2.2.2.2.1
  have hp8 := hp01.2.2.2.2.2.2.2.1
  have hp9 := hp01.2.2.2.2.2.2.2.2
  refine lv_aload_n hx hb dX9_judgeNames_0 rfl (lv_at hl 0 rfl) ?_
  have hO : OKP G h0 a (upd (upd F 2 (nI sz)) 2 (nI sz)) R Z B J K w := hO.to rfl
  obtain ⟨qr4, hqr5⟩ := p_recv hO (by rw [hp1]; decide) (rep_7 hp1)
  refine pc_V0 (G := G) (As := []) (rest := []) hx hb hml hown hq hE hX pX0_al hP hD hS hA hl.1 (G_firstRound l G h0 a (upd F 2 (nI sz)) R Z B J K w pq dr ml nd nm cp it s9 sz g (by omega) hwp hps.t hO) (gV pw_1187 pw_1188 pw_1189 pw_106 pw_1128) hV_X9_firstRound qr4 6 hqr5 rfl rfl rfl (Nat.le_of_ble_eq_true rfl) dX9_judgeNames_1 ⟨(by show 0 + 0 ≤ (37 * s9 + 10); omega), (by show 0 + 0 ≤ (37 * (80 + 8 * s9) + 15 * s9 + 2010); omega)⟩ ⟨Nat.le_of_ble_eq_true rfl, Nat.le_of_ble_eq_true rfl⟩ (fun v3 u1 H locs hw2 hP hD hS => ?_)
  obtain ⟨w, K6⟩ := u1
  obtain ⟨hw2, h7, hO⟩ := hw2
  have h7 : LgK K K6 pq := h7
  obtain rfl : v3 = none := hw2
  have hO : OKP G h0 a (upd F 2 (nI sz)) R Z B J K6 w := hO.to rfl
  refine W.widen (k := 0) (n := 0) (Nat.le_of_ble_eq_true rfl) (Nat.le_of_ble_eq_true rfl) ?_
  refine W.eq (g2 := F0 m 4 ls []) rfl ?_
  have hwq8 := LgK.wp h7 hwp
  have hpq9 := LgK.ps h7 hps.t
  have hps10 := LgK.pss h7 hps
  have hpx11 := hpq9.1
  have hp1 := hpx11.1
  have hp2 := hpx11.2.1
  have hp3 := hpx11.2.2.1
  have hp4 := hpx11.2.2.2.1
  have hp5 := hpx11.2.2.2.2.1
  have hp6 := hpx11.2.2.2.2.2.1
  have hp8 := hpx11.2.2.2.2.2.2.2.1
  have hp9 := hpx11.2.2.2.2.2.2.2.2
  refine lv_aload_n hx hb dX9_judgeNames_4 rfl (lv_at hl 0 rfl) ?_
  have hO : OKP G h0 a (upd (upd F 2 (nI sz)) 2 (nI sz)) R Z B J K6 w := hO.to rfl
  obtain ⟨qr15, hqr16⟩ := p_recv hO (by rw [hp1]; decide) (rep_7 hp1)
  refine pn_V0 (G := G) (As := []) (rest := []) hx hb hml hown hq hE hX pX0_al hP hD hS hA hl.1 (G_settle l G h0 a (upd F 2 (nI sz)) R Z B J K6 w pq dr ml nd sz g (by omega) hpq9.1 hO hl0) (gV pw_1190 pw_1191 pw_1192 pw_106 pw_1129) hV_X9_settle qr15 6 hqr16 rfl rfl rfl (Nat.le_of_ble_eq_true rfl) dX9_judgeNames_5 ⟨(by show 0 + 1 ≤ (37 * s9 + 10); omega), (by show 0 + 6 ≤ (37 * (80 + 8 * s9) + 15 * s9 + 2010); omega)⟩ ⟨Nat.le_of_ble_eq_true rfl, Nat.le_of_ble_eq_true rfl⟩ (fun v14 u12 H locs hw13 hP hD hS => ?_) (fun ux ce9 q9 H9 locs9 hux hP9 hD9 hS9 hce hcv hcl => pb_out ux (ThQ.up (Thx.same Thx.rfl rfl) RhX.rfl hux) hnt hlocks hce hcv hcl hP9 hD9 hS9 (by show 0 + 1 ≤ (37 * s9 + 10); omega) (by show 0 + 6 ≤ (37 * (80 + 8 * s9) + 15 * s9 + 2010); omega))
  obtain ⟨w, _⟩ := u12
  obtain ⟨hw13, h17, hO⟩ := hw13
  have h17 : K6.2.1 25 pq = 2147483647 := h17
  obtain rfl : v14 = none := hw13
  have hO : OKP G h0 a (upd F 2 (nI sz)) R Z B J K6 w := hO.to rfl
  refine W.widen (k := 0) (n := 0) (by show 0 + 0 ≤ 0; omega) (by show 0 + 0 ≤ 0; omega) ?_
  refine W.eq (g2 := F0 m 8 ls []) rfl ?_
  refine lv_aload_n hx hb dX9_judgeNames_8 rfl (lv_at hl 0 rfl) ?_
  have hO : OKP G h0 a (upd (upd F 2 (nI sz)) 2 (nI sz)) R Z B J K6 w := hO.to rfl
  obtain ⟨qr21, hqr22⟩ := p_recv hO (by rw [hp1]; decide) (rep_7 hp1)
  refine pc_V0 (G := G) (As := []) (rest := []) hx hb hml hown hq hE hX pX0_al hP hD hS hA hl.1 (G_resolveTypes l G h0 a (upd F 2 (nI sz)) R Z B J K6 w pq dr ml nd sz g hpq9.1 (by omega) hpq9.2.1 hO) (gV pw_1193 pw_1194 pw_1195 pw_106 pw_1137) hV_X9_resolveTypes qr21 6 hqr22 rfl rfl rfl (Nat.le_of_ble_eq_true rfl) dX9_judgeNames_9 ⟨(by show 0 + 0 ≤ (37 * s9 + 10); omega), (by show 0 + 0 ≤ (37 * (80 + 8 * s9) + 15 * s9 + 2010); omega)⟩ ⟨Nat.le_of_ble_eq_true rfl, Nat.le_of_ble_eq_true rfl⟩ (fun v20 u18 H locs hw19 hP hD hS => ?_)
  obtain ⟨w, f23⟩ := u18
  obtain ⟨hw19, hO⟩ := hw19
  obtain rfl : v20 = none := hw19
  have hO : OKP G h0 a (upd F 2 (nI sz)) R Z (updA B 11 f23) J K6 w := hO.to rfl
  refine W.widen (k := 0) (n := 0) (Nat.le_of_ble_eq_true rfl) (Nat.le_of_ble_eq_true rfl) ?_
  refine W.eq (g2 := F0 m 12 ls []) rfl ?_
  refine lv_aload_n hx hb dX9_judgeNames_12 rfl (lv_at hl 0 rfl) ?_
  have hln24 := LyN.start hps10.pn
  have hO : OKP G h0 a (upd (upd F 2 (nI sz)) 2 (nI sz)) R Z (updA B 11 f23) J K6 w := hO.to rfl
  obtain ⟨qr28, hqr29⟩ := p_recv hO (by rw [hp1]; decide) (rep_7 hp1)
  refine pc_V0 (G := G) (As := []) (rest := []) hx hb hml hown hq hE hX pX0_al hP hD hS hA hl.1 (G_link l G h0 a (upd F 2 (nI sz)) R Z (updA B 11 f23) J K6 w pq dr ml nd nm cp it s9 sz g (by omega) hwq8 hps10 hO) (gV pw_1196 pw_1197 pw_1198 pw_106 pw_1140) hV_X9_link qr28 6 hqr29 rfl rfl rfl (Nat.le_of_ble_eq_true rfl) dX9_judgeNames_13 ⟨(by show 0 + 0 ≤ (37 * s9 + 10); omega), (by show 0 + 0 ≤ (37 * (80 + 8 * s9) + 15 * s9 + 2010); omega)⟩ ⟨Nat.le_of_ble_eq_true rfl, Nat.le_of_ble_eq_true rfl⟩ (fun v27 u25 H locs hw26 hP hD hS => ?_)
  obtain ⟨w, K30, ab31⟩ := u25
  obtain ⟨hw26, h32, h33, h34, h35, h36, h37, h38, hO⟩ := hw26
  have h32 : LkX K6 K30 := h32
  have h33 : WPr G K30 g := h33
  have h34 : PgT G K30 g (a 1) pq dr ml nd nm cp it s9 := h34
  have h35 : AbF K30 dr nd ab31 := h35
  have h36 : PaB K30 dr nd ab31 := h36
  have h37 : WCl ab31 nd nd := h37
  have h38 : Bi0 ab31 7 := h38
  obtain rfl : v27 = none := hw26
  have hO : OKP G h0 a (upd F 2 (nI sz)) R Z (updA B 11 f23) J K30 w := hO.to rfl
  refine W.widen (k := 0) (n := 0) (Nat.le_of_ble_eq_true rfl) (Nat.le_of_ble_eq_true rfl) ?_
  refine W.eq (g2 := F0 m 16 ls []) rfl ?_
  have hln39 := LyN.lk hln24 h32
  have hpx40 := h34.1
  have hp1 := hpx40.1
  have hp2 := hpx40.2.1
  have hp3 := hpx40.2.2.1
  have hp4 := hpx40.2.2.2.1
  have hp5 := hpx40.2.2.2.2.1
  have hp6 := hpx40.2.2.2.2.2.1
  have hp8 := hpx40.2.2.2.2.2.2.2.1
  have hp9 := hpx40.2.2.2.2.2.2.2.2
  refine lv_bipush (v := 7) hx hb dX9_judgeNames_16 (by decide) ?_
  refine lv_istore_n (lv' := [(1, .int 7), (0, .ref pq)]) hx hb dX9_judgeNames_18 rfl hl (by decide) rfl (fun ls hl => ?_)
  have loop_2 : ∀ (n_2 : Nat) (i2 : Nat) (K2 : PK) (H : Heap) (locs : List Loc) (ls : Array Slot) (w : va_W), i2 ≤ nd → nd + 1 ≤ i2 + n_2 → (LgK K30 K2 pq) → (RgQ K2 pq ab31 i2) → va_P G.1 pCl w H → va_D A w → va_S A s.heap H locs → OKP G h0 a (upd F 2 (nI sz)) R Z (updA B 11 f23) J K2 w → lv_has ls 2 [(1, .int (nI i2)), (0, .ref pq)] → W p l e (headSpec (Cond.code yX9_judgeNames cX9_judgeNames 2 none :: pw) ({ frames := 10, cells := (37 * s9 + 10), slots := (37 * (80 + 8 * s9) + 15 * s9 + 2010), locals := 237 } : Room)).room s m ([.ref pq] : List Value).toArray below meth c H locs 0 0 (vx_MQ below (pQn G A (fun (v : Option Value) (u : va_W × (PK × (Nat → Nat) × (Nat → Int32))) => v = none ∧ (WPr G u.2.1 g) ∧ (PgT G u.2.1 g (a 1) pq dr ml nd nm cp it s9) ∧ (RkO u.2.1 u.2.2.1) ∧ (OKP G h0 a (upd F 2 (nI sz)) R Z (updA B 11 u.2.2.2) J u.2.1 u.1)) (fun u => u.1) (fun (u : va_W × (PK × (Nat → Nat) × (Nat → Int32))) => (37 * s9)) (fun (u : va_W × (PK × (Nat → Nat) × (Nat → Int32))) => (37 * (80 + 8 * s9)))) (pXX G A (fun (u : va_W × (Nat → Int32) × (Nat → Value) × (Nat → Nat → Int32)) => ThQ G h0 a (upd F 2 (nI sz)) R Z B J u) (fun u => u.1)) ([.ref pq] : List Value).toArray s ({ frames := 10, cells := (37 * s9 + 10), slots := (37 * (80 + 8 * s9) + 15 * s9 + 2010), locals := 237 } : Room).cells ({ frames := 10, cells := (37 * s9 + 10), slots := (37 * (80 + 8 * s9) + 15 * s9 + 2010), locals := 237 } : Room).slots A) (F0 m 19 ls []) := by
    intro n_2
    induction n_2 with
    | zero => intro i2 K2 H locs ls w hk_2 hn_2; omega
    | succ n_2 ih_2 =>
      intro i2 K2 H locs ls w hk_2 hn_2 hlg2 hrg2 hP hD hS hO hl
      have hwz2 := LgK.wp hlg2 h33
      have hpz2 := LgK.ps hlg2 h34
      have hpx41 := hpz2.1
      have hp1 := hpx41.1
      have hp2 := hpx41.2.1
      have hp3 := hpx41.2.2.1
      have hp4 := hpx41.2.2.2.1
      have hp5 := hpx41.2.2.2.2.1
      have hp6 := hpx41.2.2.2.2.2.1
      have hp8 := hpx41.2.2.2.2.2.2.2.1
      have hp9 := hpx41.2.2.2.2.2.2.2.2
      refine lv_iload_n hx hb dX9_judgeNames_19 rfl (lv_at hl 0 rfl) ?_
      refine lv_aload_n hx hb dX9_judgeNames_20 rfl (lv_at hl 1 rfl) ?_
      refine p_get (v := .int (nI nd)) (C := RX9) (Tc := TX9) (N := 5) (ci := 6) hx hb hq pin_wsX90 hown hE hP hO (by rw [hp1]; decide) (rep_7 hp1) rfl 2 (by decide) (hq _ pw_14) (fun _ h9 => h9) (congrArg (fun z => some (Value.int z)) hp8) dX9_judgeNames_21 ?_
      refine lv_icmp_ge (tgt := 57) hx hb dX9_judgeNames_24 (by decide) (fun c42 => ?_) (fun c42 => ?_)
      · have n43 : nd ≤ i2 := (nI_leI (a := nd) (b := i2) (by omega) (by omega)).mp c42
        refine lv_aload_n hx hb dX9_judgeNames_57 rfl (lv_at hl 1 rfl) ?_
        have hO : OKP G h0 a (upd (upd F 2 (nI sz)) 2 (nI sz)) R Z (updA B 11 f23) J K2 w := hO.to rfl
        obtain ⟨qr47, hqr48⟩ := p_recv hO (by rw [hp1]; decide) (rep_7 hp1)
        refine pn_V0 (G := G) (As := []) (rest := []) hx hb hml hown hq hE hX pX0_al hP hD hS hA hl.1 (G_settle l G h0 a (upd F 2 (nI sz)) R Z (updA B 11 f23) J K2 w pq dr ml nd sz g (by omega) hpz2.1 hO hl0) (gV pw_1190 pw_1191 pw_1192 pw_106 pw_1129) hV_X9_settle qr47 6 hqr48 rfl rfl rfl (Nat.le_of_ble_eq_true rfl) dX9_judgeNames_58 ⟨(by show 0 + 1 ≤ (37 * s9 + 10); omega), (by show 0 + 6 ≤ (37 * (80 + 8 * s9) + 15 * s9 + 2010); omega)⟩ ⟨Nat.le_of_ble_eq_true rfl, Nat.le_of_ble_eq_true rfl⟩ (fun v46 u44 H locs hw45 hP hD hS => ?_) (fun ux ce9 q9 H9 locs9 hux hP9 hD9 hS9 hce hcv hcl => pb_out ux (ThQ.up (Thx.same (Thx.b Thx.rfl (by omega) (by decide)) rfl) RhX.rfl hux) hnt hlocks hce hcv hcl hP9 hD9 hS9 (by show 0 + 1 ≤ (37 * s9 + 10); omega) (by show 0 + 6 ≤ (37 * (80 + 8 * s9) + 15 * s9 + 2010); omega))
        obtain ⟨w, _⟩ := u44
        obtain ⟨hw45, h49, hO⟩ := hw45
        have h49 : K2.2.1 25 pq = 2147483647 := h49
        obtain rfl : v46 = none := hw45
        have hO : OKP G h0 a (upd F 2 (nI sz)) R Z (updA B 11 f23) J K2 w := hO.to rfl
        refine W.widen (k := 0) (n := 0) (by show 0 + 0 ≤ 0; omega) (by show 0 + 0 ≤ 0; omega) ?_
        refine W.eq (g2 := F0 m 61 ls []) rfl ?_
        have hirr : ∀ k : Nat, 7 ≤ k → k < nd → ¬ bitL (ab31 k) k := fun k h1 h2 => hrg2 h49 k h1 (by omega)
        have hrkl := RkO.mk h35 h36 h37 h38 h34.a h34.2.1 (by omega) hirr
        have hrk2 := LgK.rko hlg2 hrkl
        have hln2 := LyN.lg hln39 hlg2
        refine lv_aload_n hx hb dX9_judgeNames_61 rfl (lv_at hl 1 rfl) ?_
        have hO : OKP G h0 a (upd (upd F 2 (nI sz)) 2 (nI sz)) R Z (updA B 11 f23) J K2 w := hO.to rfl
        obtain ⟨qr53, hqr54⟩ := p_recv hO (by rw [hp1]; decide) (rep_7 hp1)
        refine pc_V0 (G := G) (As := []) (rest := []) hx hb hml hown hq hE hX pX0_al hP hD hS hA hl.1 (G_thirdRound l G h0 a (upd F 2 (nI sz)) R Z (updA B 11 f23) J K2 w pq dr ml nd nm cp it s9 sz g (fun q => cntB (K30.2.2.2.1 q) nd) (by omega) hwz2 hpz2 hrk2 hO) (gV pw_1199 pw_1200 pw_1201 pw_106 pw_1162) hV_X9_thirdRound qr53 6 hqr54 rfl rfl rfl (Nat.le_of_ble_eq_true rfl) dX9_judgeNames_62 ⟨(by show 0 + 0 ≤ (37 * s9 + 10); omega), (by show 0 + 0 ≤ (37 * (80 + 8 * s9) + 15 * s9 + 2010); omega)⟩ ⟨Nat.le_of_ble_eq_true rfl, Nat.le_of_ble_eq_true rfl⟩ (fun v52 u50 H locs hw51 hP hD hS => ?_)
        obtain ⟨w, K55⟩ := u50
        obtain ⟨hw51, h56, hO⟩ := hw51
        have h56 : LgK K2 K55 pq := h56
        obtain rfl : v52 = none := hw51
        have hO : OKP G h0 a (upd F 2 (nI sz)) R Z (updA B 11 f23) J K55 w := hO.to rfl
        refine W.widen (k := 0) (n := 0) (Nat.le_of_ble_eq_true rfl) (Nat.le_of_ble_eq_true rfl) ?_
        refine W.eq (g2 := F0 m 65 ls []) rfl ?_
        have hwq57 := LgK.wp h56 hwz2
        have hpq58 := LgK.ps h56 hpz2
        have hrk59 := LgK.rko h56 hrk2
        have hln60 := LyN.lg hln2 h56
        have hpx61 := hpq58.1
        have hp1 := hpx61.1
        have hp2 := hpx61.2.1
        have hp3 := hpx61.2.2.1
        have hp4 := hpx61.2.2.2.1
        have hp5 := hpx61.2.2.2.2.1
        have hp6 := hpx61.2.2.2.2.2.1
        have hp8 := hpx61.2.2.2.2.2.2.2.1
        have hp9 := hpx61.2.2.2.2.2.2.2.2
        refine lv_aload_n hx hb dX9_judgeNames_65 rfl (lv_at hl 1 rfl) ?_
        have hO : OKP G h0 a (upd (upd F 2 (nI sz)) 2 (nI sz)) R Z (updA B 11 f23) J K55 w := hO.to rfl
        obtain ⟨qr65, hqr66⟩ := p_recv hO (by rw [hp1]; decide) (rep_7 hp1)
        refine pn_V0 (G := G) (As := []) (rest := []) hx hb hml hown hq hE hX pX0_al hP hD hS hA hl.1 (G_settle l G h0 a (upd F 2 (nI sz)) R Z (updA B 11 f23) J K55 w pq dr ml nd sz g (by omega) hpq58.1 hO hl0) (gV pw_1190 pw_1191 pw_1192 pw_106 pw_1129) hV_X9_settle qr65 6 hqr66 rfl rfl rfl (Nat.le_of_ble_eq_true rfl) dX9_judgeNames_66 ⟨(by show 0 + 1 ≤ (37 * s9 + 10); omega), (by show 0 + 6 ≤ (37 * (80 + 8 * s9) + 15 * s9 + 2010); omega)⟩ ⟨Nat.le_of_ble_eq_true rfl, Nat.le_of_ble_eq_true rfl⟩ (fun v64 u62 H locs hw63 hP hD hS => ?_) (fun ux ce9 q9 H9 locs9 hux hP9 hD9 hS9 hce hcv hcl => pb_out ux (ThQ.up (Thx.same (Thx.b Thx.rfl (by omega) (by decide)) rfl) RhX.rfl hux) hnt hlocks hce hcv hcl hP9 hD9 hS9 (by show 0 + 1 ≤ (37 * s9 + 10); omega) (by show 0 + 6 ≤ (37 * (80 + 8 * s9) + 15 * s9 + 2010); omega))
        obtain ⟨w, _⟩ := u62
        obtain ⟨hw63, h67, hO⟩ := hw63
        have h67 : K55.2.1 25 pq = 2147483647 := h67
        obtain rfl : v64 = none := hw63
        have hO : OKP G h0 a (upd F 2 (nI sz)) R Z (updA B 11 f23) J K55 w := hO.to rfl
        refine W.widen (k := 0) (n := 0) (by show 0 + 0 ≤ 0; omega) (by show 0 + 0 ≤ 0; omega) ?_
        refine W.eq (g2 := F0 m 69 ls []) rfl ?_
        refine lv_aload_n hx hb dX9_judgeNames_69 rfl (lv_at hl 1 rfl) ?_
        have hly0 : LyB G K55 g (fun q => cntB (K30.2.2.2.1 q) nd) (fz K55 dr 8) (fz K55 dr 9) (K55.2.2.2.2.1 dr) (a 1) pq dr ml nd nm cp it s9 0 := ⟨hwq57, hpq58, hrk59, fun j hj => ⟨rfl, rfl⟩, rfl, hln60⟩
        have hO : OKP G h0 a (upd (upd F 2 (nI sz)) 2 (nI sz)) R Z (updA B 11 f23) J K55 w := hO.to rfl
        obtain ⟨qr71, hqr72⟩ := p_recv hO (by rw [hp1]; decide) (rep_7 hp1)
        refine pn_V0 (G := G) (As := []) (rest := []) hx hb hml hown hq hE hX pX0_al hP hD hS hA hl.1 (G_layOut l G h0 a (upd F 2 (nI sz)) R Z (updA B 11 f23) J K55 w pq dr ml nd nm cp it s9 sz (80 + 8 * s9) (fun q => cntB (K30.2.2.2.1 q) nd) (fz K55 dr 8) (fz K55 dr 9) (K55.2.2.2.2.1 dr) g (by omega) hly0 hs9 rfl hO hl0) (gV pw_1202 pw_1203 pw_1204 pw_106 pw_1186) hV_X9_layOut qr71 6 hqr72 rfl rfl rfl (Nat.le_of_ble_eq_true rfl) dX9_judgeNames_70 ⟨(by show 0 + (37 * s9 + 5) ≤ (37 * s9 + 10); omega), (by show 0 + (37 * (80 + 8 * s9) + 15 * s9 + 2000) ≤ (37 * (80 + 8 * s9) + 15 * s9 + 2010); omega)⟩ ⟨Nat.le_of_ble_eq_true rfl, Nat.le_of_ble_eq_true rfl⟩ (fun v70 u68 H locs hw69 hP hD hS => ?_) (fun ux ce9 q9 H9 locs9 hux hP9 hD9 hS9 hce hcv hcl => pb_out ux (ThQ.up (Thx.same (Thx.b Thx.rfl (by omega) (by decide)) rfl) RhX.rfl hux) hnt hlocks hce hcv hcl hP9 hD9 hS9 (by show 0 + (37 * s9 + 5) ≤ (37 * s9 + 10); omega) (by show 0 + (37 * (80 + 8 * s9) + 15 * s9 + 2000) ≤ (37 * (80 + 8 * s9) + 15 * s9 + 2010); omega))
        obtain ⟨w, K73⟩ := u68
        obtain ⟨hw69, h74, hO⟩ := hw69
        have h74 : LyB G K73 g (fun q => cntB (K30.2.2.2.1 q) nd) (fz K55 dr 8) (fz K55 dr 9) (K55.2.2.2.2.1 dr) (a 1) pq dr ml nd nm cp it s9 nd := h74
        obtain rfl : v70 = none := hw69
        have hO : OKP G h0 a (upd F 2 (nI sz)) R Z (updA B 11 f23) J K73 w := hO.to rfl
        refine W.widen (k := (37 * s9)) (n := (37 * (80 + 8 * s9))) (by show 0 + (37 * s9) ≤ (37 * s9); omega) (by show 0 + (37 * (80 + 8 * s9)) ≤ (37 * (80 + 8 * s9)); omega) ?_
        refine W.eq (g2 := F0 m 73 ls []) rfl ?_
        refine W_size (fun hz1 hz2 => ?_)
        refine vx_ret ?_
        have hz75 : WPr G K73 g := h74.1
        have hz76 : PgT G K73 g (a 1) pq dr ml nd nm cp it s9 := h74.2.1
        have hz77 : RkO K73 (fun q => cntB (K30.2.2.2.1 q) nd) := h74.2.2.1
        have hO : OKP G h0 a (upd F 2 (nI sz)) R Z (updA B 11 f23) J K73 w := hO.to rfl
        refine W.widen (k := (37 * s9 + 10)) (n := (37 * (80 + 8 * s9) + 15 * s9 + 2010)) (by omega) (by omega) ?_
        have hzz1 : H.size ≤ s.heap.size + ((37 * s9)) := (by have z : (37 * s9) ≤ (37 * s9) := (by omega); omega)
        have hzz2 : hSl H ≤ hSl s.heap + ((37 * (80 + 8 * s9))) := (by have z : (37 * (80 + 8 * s9)) ≤ (37 * (80 + 8 * s9)) := (by omega); omega)
        exact W.vret hx hb hr (fun t99 ht99 hW99 => ⟨⟨_, (w, (K73, (fun q => cntB (K30.2.2.2.1 q) nd), f23)), rfl, ⟨rfl, hz75, hz76, hz77, hO⟩, by rw [ht99]; exact hP, hD, by rw [ht99]; exact hzz1, by rw [ht99]; exact hzz2⟩, hS.F ht99⟩) hS.2.2 dX9_judgeNames_73
      · have n78 : ¬ (nd ≤ i2) := fun h9 => c42 ((nI_leI (a := nd) (b := i2) (by omega) (by omega)).mpr h9)
        refine lv_aload_n hx hb dX9_judgeNames_27 rfl (lv_at hl 1 rfl) ?_
        refine lv_iload_n hx hb dX9_judgeNames_28 rfl (lv_at hl 0 rfl) ?_
        refine lv_iload_n hx hb dX9_judgeNames_29 rfl (lv_at hl 0 rfl) ?_
        have hO : OKP G h0 a (upd F 2 (nI sz)) R Z (updA B 11 f23) J K2 w := hO.to rfl
        obtain ⟨qr82, hqr83⟩ := p_recv hO (by rw [hp1]; decide) (rep_7 hp1)
        refine pc_V0 (G := G) (As := [.int (nI i2), .int (nI i2)]) (rest := []) hx hb hml hown hq hE hX pX0_al hP hD hS hA hl.1 (G_isAbove l G h0 a (upd F 2 (nI sz)) R Z (updA B 11 f23) J K2 w pq dr ml nd (nI i2) (nI i2) g hpz2.1 hpz2.2.1 hO) (gV pw_107 pw_108 pw_109 pw_106 pw_101) hV_X9_isAbove qr82 6 hqr83 rfl rfl rfl (Nat.le_of_ble_eq_true rfl) dX9_judgeNames_30 ⟨(by show 0 + 0 ≤ (37 * s9 + 10); omega), (by show 0 + 0 ≤ (37 * (80 + 8 * s9) + 15 * s9 + 2010); omega)⟩ ⟨Nat.le_of_ble_eq_true rfl, Nat.le_of_ble_eq_true rfl⟩ (fun v81 u79 H locs hw80 hP hD hS => ?_)
        obtain ⟨w, r84⟩ := u79
        obtain ⟨hw80, h85, h86, hO⟩ := hw80
        have h85 : r84 ≤ 1 := h85
        have h86 : AbQ K2 dr nd (nI i2) (nI i2) r84 := h86
        obtain rfl : v81 = some (.int (nI r84)) := hw80
        have hO : OKP G h0 a (upd F 2 (nI sz)) R Z (updA B 11 f23) J K2 w := hO.to rfl
        refine W.widen (k := 0) (n := 0) (Nat.le_of_ble_eq_true rfl) (Nat.le_of_ble_eq_true rfl) ?_
        refine W.eq (g2 := F0 m 33 ls [.int (nI r84)]) rfl ?_
        obtain ⟨dR, heR, htR, hnR, hgR⟩ := h34.2.1 i2 (by omega)
        have heR2 : K2.2.2.2.2.1 dr i2 = some dR := by rw [LgK.E hlg2]; exact heR
        have hbr : r84 = 1 ↔ bitL (ab31 i2) i2 := by rw [← h35 i2 (by omega) dR heR, ← LgK.L hlg2]; exact h86 i2 i2 dR (by omega) (by omega) rfl rfl heR2
        refine lv_if_eq (tgt := 51) hx hb dX9_judgeNames_33 (by decide) (fun c87 => ?_) (fun c87 => ?_)
        · have n88 : r84 = 0 := (nI_eq (a := r84) (b := 0) (by omega) (by omega)).mp c87
          have hrg3 : RgQ K2 pq ab31 (i2 + 1) := fun hz k h1 h2 hb => by
            by_cases e : k = i2
            · subst e; have z := hbr.mpr hb; omega
            · exact hrg2 hz k h1 (by omega) hb
          refine lv_iinc (v := (nI (i2 + 1))) (lv' := [(1, .int (nI (i2 + 1))), (0, .ref pq)]) hx hb dX9_judgeNames_51 hl (k := 0) rfl (nI_1 i2) (by decide) rfl (fun ls hl => ?_)
          refine lv_goto (tgt := 19) hx hb dX9_judgeNames_54 (by decide) ?_
          have hO : OKP G h0 a (upd F 2 (nI sz)) R Z (updA B 11 f23) J K2 w := hO.to rfl
          exact ih_2 (i2 + 1) K2 _ _ _ _ (by omega) (by omega) hlg2 hrg3 hP hD hS hO (lv_sub hl [0, 1] rfl)
        · have n89 : ¬ (r84 = 0) := fun h9 => c87 ((nI_eq (a := r84) (b := 0) (by omega) (by omega)).mpr h9)
          refine lv_aload_n hx hb dX9_judgeNames_36 rfl (lv_at hl 1 rfl) ?_
          refine lv_bipush (v := 6) hx hb dX9_judgeNames_37 (by decide) ?_
          refine lv_aload_n hx hb dX9_judgeNames_39 rfl (lv_at hl 1 rfl) ?_
          refine p_get (v := .ref dr) (C := RX9) (Tc := TX9) (N := 5) (ci := 6) hx hb hq pin_wsX90 hown hE hP hO (by rw [hp1]; decide) (rep_7 hp1) rfl 1 (by decide) (hq _ pw_15) (fun _ h9 => h9) (congrArg (fun z => some (va_rf z)) hp3) dX9_judgeNames_40 ?_
          refine lv_iload_n hx hb dX9_judgeNames_43 rfl (lv_at hl 0 rfl) ?_
          refine p_ald8 hx hb hE hP hO hp4 (vp_in_nI (by omega) (by omega)) dX9_judgeNames_44 ?_
          rw [nI_clamp (show i2 < 2 ^ 31 by omega)]
          rw [heR2]
          have hf90 : K2.1 dR = 4 := (LgK.T hlg2 dR).trans htR
          refine W.eq (g2 := F0 m 45 ls [.ref dR, .int 6, .ref pq]) rfl ?_
          refine p_get (v := .int (K2.2.1 17 dR)) (C := RX2) (Tc := TX2) (N := 13) (ci := 2) hx hb hq pin_wsX20 hown hE hP hO (by rw [hf90]; decide) (rep_4 hf90) rfl 2 (by decide) (hq _ pw_1114) (fun _ h9 => h9) rfl dX9_judgeNames_45 ?_
          have hO : OKP G h0 a (upd (upd F 2 (nI sz)) 2 (nI sz)) R Z (updA B 11 f23) J K2 w := hO.to rfl
          obtain ⟨qr94, hqr95⟩ := p_recv hO (by rw [hp1]; decide) (rep_7 hp1)
          refine pc_V0 (G := G) (As := [.int 6, .int (K2.2.1 17 dR)]) (rest := []) hx hb hml hown hq hE hX pX0_al hP hD hS hA hl.1 (G_report l G h0 a (upd F 2 (nI sz)) R Z (updA B 11 f23) J K2 w pq dr ml nd nm cp it s9 6 (K2.2.1 17 dR) sz g (by omega) hwz2 hpz2 hO) (gV pw_1096 pw_1097 pw_1098 pw_106 pw_1084) hV_X9_report qr94 6 hqr95 rfl rfl rfl (Nat.le_of_ble_eq_true rfl) dX9_judgeNames_48 ⟨(by show 0 + 0 ≤ (37 * s9 + 10); omega), (by show 0 + 0 ≤ (37 * (80 + 8 * s9) + 15 * s9 + 2010); omega)⟩ ⟨Nat.le_of_ble_eq_true rfl, Nat.le_of_ble_eq_true rfl⟩ (fun v93 u91 H locs hw92 hP hD hS => ?_)
          obtain ⟨w, K96⟩ := u91
          obtain ⟨hw92, h97, h98, hO⟩ := hw92
          have h97 : LgK K2 K96 pq := h97
          have h98 : RpQ 6 K96 pq := h98
          obtain rfl : v93 = none := hw92
          have hO : OKP G h0 a (upd F 2 (nI sz)) R Z (updA B 11 f23) J K96 w := hO.to rfl
          refine W.widen (k := 0) (n := 0) (Nat.le_of_ble_eq_true rfl) (Nat.le_of_ble_eq_true rfl) ?_
          refine W.eq (g2 := F0 m 51 ls []) rfl ?_
          have hlg99 := LgK.trans hlg2 h97
          have hrg4 : RgQ K96 pq ab31 (i2 + 1) := fun hz => absurd hz (h98 rfl)
          refine lv_iinc (v := (nI (i2 + 1))) (lv' := [(1, .int (nI (i2 + 1))), (0, .ref pq)]) hx hb dX9_judgeNames_51 hl (k := 0) rfl (nI_1 i2) (by decide) rfl (fun ls hl => ?_)
          refine lv_goto (tgt := 19) hx hb dX9_judgeNames_54 (by decide) ?_
          have hO : OKP G h0 a (upd F 2 (nI sz)) R Z (updA B 11 f23) J K96 w := hO.to rfl
          exact ih_2 (i2 + 1) K96 _ _ _ _ (by omega) (by omega) hlg99 hrg4 hP hD hS hO (lv_sub hl [0, 1] rfl)
  have hO : OKP G h0 a (upd F 2 (nI sz)) R Z (updA B 11 f23) J K30 w := hO.to rfl
  exact loop_2 (nd + 1) 7 K30 _ _ _ _ (by omega) (by omega) LgK.rfl (fun _ k h1 h2 => absurd h2 (by omega)) hP hD hS hO (lv_sub hl [0, 1] rfl)
