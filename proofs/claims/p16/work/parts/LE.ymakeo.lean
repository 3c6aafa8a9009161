set_option maxHeartbeats 60000000 in
set_option maxRecDepth 100000 in
theorem Y_makeObject (l : Launch) (G : pT) (h0 : Nat) (a : Nat → Nat) (F : Nat → Int32) (R : Nat → Value) (Z : Int64) (B : Nat → Nat → Int32) (J : Nat → Nat → Int64) (K : PK) (w : va_W) (y : TY) (Sh : Nat → Nat) (nn : Nat → Nat) (on : Nat) (j9 : Nat) (ba : Nat) (pc : Nat) (tp : Nat) (sp : Nat) (op : Nat) (ht : Nat) (os : List Nat) (pq : Nat) (dr : Nat) (ml : Nat) (nd : Nat) (nm : Nat) (cp : Nat) (it : Nat → Nat) (s9 : Nat) (g : Nat → Nat → Nat) (rk : Nat → Nat) (cs : Nat) (rg : Nat) (fl : Nat) (lm : Nat) (d9 : Nat) (c9 : Nat) (hsp : (sp = 34 ∧ op = 35) ∨ (sp = 35 ∧ op = 34)) (hma : MIa y (B 19) Sh nn (J sp) ht (B 30) (J 29) on j9 ba pc os tp) (hle : LoE J sp op) (hhe : B 19 pc = nI (yA y j9 pc).2.1) (hwp : WPr G K g) (hps : PgT G K g (a 1) pq dr ml nd nm cp it s9) (hrk : RkO K rk) (hpy : PrY y K B dr nd nm it cs rg) (hcs9 : cs ≤ 10000) (hfl : B 33 5 = nI fl) (hlm : lm ≤ 3008) (hdk : d9 < 60 ∧ c9 = 1 + yfd y d9 ∧ (∀ i : Nat, i < yfd y d9 → yft y d9 i = 60 ∨ yft y d9 i = 61 ∨ RfT (yft y d9 i)) ∨ 64 ≤ d9 ∧ d9 < 128 ∧ 2 ≤ c9 ∧ (d9 - 64 = 60 ∨ d9 - 64 = 61 ∨ RfT (d9 - 64))) (hxc : d9 < 60 → (yX y).1 d9) (hsf : yfi y d9 d9) (hrm : tp + 2 ≤ 320 * on) (hc9 : 1 ≤ c9 ∧ c9 ≤ 3000000000) (hd6 : d9 < 60) (hO : OKP G h0 a (upd (upd (upd (upd (upd (upd (upd (upd (upd F 5 (nI cs)) 6 (nI rg)) 18 (nI ba)) 19 (nI tp)) 20 (nI pc)) 22 (nI on)) 23 5) 26 (nI ht)) 28 (nI lm)) (updR (updR (updR (updR R 5 (.ref pq)) 6 (.ref (it j9))) 7 (.ref (a sp))) 8 (.ref (a op))) Z B J K w) : PM l G pX0 yX5_makeObject cX5_makeObject 3 none ({ frames := 8, cells := 0, slots := 0, locals := 196 }) [.ref (a 5), .int (nI d9)] w (fun (v : Option Value) (u : va_W × (Nat × Int32 × (Nat → Nat → Int64) × (Nat → Int32) × Nat × Nat × Nat × Int32 × (Nat → Nat) × (Nat → Nat))) => v = none ∧ ((u.2.2.1 = 3 ∧ u.2.1 = tp) ∨ (u.2.2.1 = 5 ∧ u.2.1 = tp + 1 ∧ LoE u.2.2.2.1 u.2.2.2.2.2.1 u.2.2.2.2.2.2.1 ∧ MIa y (B 19) u.2.2.2.2.2.2.2.2.2.1 u.2.2.2.2.2.2.2.2.2.2 (u.2.2.2.1 u.2.2.2.2.2.1) u.2.2.2.2.2.2.2.1 (B 30) (u.2.2.2.1 29) on j9 ba pc (d9 :: os) (tp + 1))) ∧ (u.2.2.2.2.1 5 = nI fl) ∧ ((u.2.2.2.2.2.1 = 34 ∧ u.2.2.2.2.2.2.1 = 35) ∨ (u.2.2.2.2.2.1 = 35 ∧ u.2.2.2.2.2.2.1 = 34)) ∧ ((8 ≤ u.2.2.2.2.2.2.2.1 ∧ u.2.2.2.2.2.2.2.1 ≤ 3008) ∧ u.2.1 ≤ 32000) ∧ (LoE u.2.2.2.1 u.2.2.2.2.2.1 u.2.2.2.2.2.2.1) ∧ (OKP G h0 a (upd (upd (upd (upd (upd (upd (upd (upd (upd (upd F 5 (nI cs)) 6 (nI rg)) 18 (nI ba)) 19 (nI u.2.1)) 20 (nI pc)) 22 (nI on)) 23 u.2.2.1) 26 (nI u.2.2.2.2.2.2.2.1)) 27 u.2.2.2.2.2.2.2.2.1) 28 (nI lm)) (updR (updR (updR (updR R 5 (.ref pq)) 6 (.ref (it j9))) 7 (.ref (a u.2.2.2.2.2.1))) 8 (.ref (a u.2.2.2.2.2.2.1))) Z (updA B 33 u.2.2.2.2.1) u.2.2.2.1 K u.1)) (fun u => u.1) := by
  intro sz
  refine Met.ofW (cc := cX5_makeObject) (maxL := 3) (ret := none) (by decide) rfl ?_
  intro p e s m args below meth c s₁ B9 hml hv
  obtain ⟨rfl, hsz, hP, hD0, hE, hX⟩ := hv
  have hx := B9.exec
  have hb := B9.bytes
  have hr := B9.returns
  have hts := atoms_spec (ws := Cond.code yX5_makeObject cX5_makeObject 3 none :: pw) B9.pre
  have hq : ∀ w ∈ pw, w.before _ s = true := fun w h => hts w (List.mem_cons_of_mem _ h)
  have hown : s.vm.findClass RX5 = some m.cls := findClass_of_methodNamed B9.named
  have hlocks := B9.notSynchronized
  subst hsz
  have hD := hD0.self (sz := s.heap.size)
  have hA : ∀ q : Nat, s.heap.size ≤ q → va_A w s.heap.size q := fun q h => Or.inr h
  generalize va_A w s.heap.size = A at hD hE hA ⊢
  have hS : va_S A s.heap s.heap [] := va_S.rf
  have hl := lv_entry ([.ref (a 5), .int (nI d9)]) (n := 3) (Nat.le_of_ble_eq_true rfl)
  rw [lg_entry_eq]
  generalize (lg_sl ([.ref (a 5), .int (nI d9)]) ++ List.replicate (3 - (lg_sl ([.ref (a 5), .int (nI d9)])).length) Slot.unset).toArray = ls at hl ⊢
  have hl : lv_has ls 3 [(0, .ref (a 5)), (1, .int (nI d9))] := hl
  have hpg := hps.1
  have hp1 := hpg.1
  have hp2 := hpg.2.1
  have hp3 := hpg.2.2.1
  have hp4 := hpg.2.2.2.1
  have hp5 := hpg.2.2.2.2.1
  have hp6 := hpg.2.2.2.2.2.1
  have hp8 := hpg.2.2.2.2.2.2.2.1
  have hp9 := hpg.2.2.2.2.2.2.2.2
  obtain ⟨hb1, hb2, hb3, hb4, hb5, hb6, hb7⟩ := hma.1
  have hh9 := hma.2.2.2.1.1
  have h29 : ¬ sp = 29 ∧ ¬ op = 29 := by omega
  have hd128 : d9 < 128 := by rcases hdk with z | z <;> omega
  obtain ⟨q8, lq8, hy1, hy2, hy3, hy4⟩ := hpy.2.2.2.1 d9 (hxc hd6)
  have hnd8 := hpy.1.2.2.1 d9 (hxc hd6)
  have hT8 : K.1 q8 = 4 := by obtain ⟨d7, h71, h72, _⟩ := hps.2.1 d9 hnd8; rw [← Option.some.inj (h71.symm.trans hy1)]; exact h72
  have hce : c9 = 1 + yfd y d9 := by rcases hdk with z | z; exact z.2.1; omega
  refine lv_aload_n hx hb dX5_makeObject_0 rfl (lv_at hl 0 rfl) ?_
  refine c_get (v := .ref pq) (C := RX5) (Tc := TX5) (N := 19) (ci := 4) hx hb hq pin_wsX50 hown hE hP hO 28 (sg_28 G h0 a _ _ _ _ _) rfl 8 (by decide) (hq _ pw_486) (fun _ h9 => h9) rfl dX5_makeObject_1 ?_
  refine lv_iload_n hx hb dX5_makeObject_4 rfl (lv_at hl 1 rfl) ?_
  have hO : OKP G h0 a (upd (upd (upd (upd (upd (upd (upd (upd (upd F 5 (nI cs)) 6 (nI rg)) 18 (nI ba)) 19 (nI tp)) 20 (nI pc)) 22 (nI on)) 23 5) 26 (nI ht)) 28 (nI lm)) (updR (updR (updR (updR R 5 (.ref pq)) 6 (.ref (it j9))) 7 (.ref (a sp))) 8 (.ref (a op))) Z B J K w := hO.to rfl
  obtain ⟨qr4, hqr5⟩ := p_recv hO (by rw [hp1]; decide) (rep_7 hp1)
  refine pc_V0 (G := G) (As := [.int (nI d9)]) (rest := []) hx hb hml hown hq hE hX pX0_al hP hD hS hA hl.1 (Y_decl l G h0 a (upd (upd (upd (upd (upd (upd (upd (upd (upd F 5 (nI cs)) 6 (nI rg)) 18 (nI ba)) 19 (nI tp)) 20 (nI pc)) 22 (nI on)) 23 5) 26 (nI ht)) 28 (nI lm)) (updR (updR (updR (updR R 5 (.ref pq)) 6 (.ref (it j9))) 7 (.ref (a sp))) 8 (.ref (a op))) Z B J K w pq dr ml nd d9 q8 g hps.1 hps.2.1 hnd8 hy1 hO) (gV pw_492 pw_182 pw_183 pw_106 pw_13) hV_X9_decl qr4 6 hqr5 rfl rfl rfl (Nat.le_of_ble_eq_true rfl) dX5_makeObject_5 ⟨Nat.le_of_ble_eq_true rfl, Nat.le_of_ble_eq_true rfl⟩ ⟨Nat.le_of_ble_eq_true rfl, Nat.le_of_ble_eq_true rfl⟩ (fun v3 u1 H locs hw2 hP hD hS => ?_)
  obtain ⟨w, _⟩ := u1
  obtain ⟨hw2, hO⟩ := hw2
  obtain rfl : v3 = some (.ref q8) := hw2
  have hO : OKP G h0 a (upd (upd (upd (upd (upd (upd (upd (upd (upd F 5 (nI cs)) 6 (nI rg)) 18 (nI ba)) 19 (nI tp)) 20 (nI pc)) 22 (nI on)) 23 5) 26 (nI ht)) 28 (nI lm)) (updR (updR (updR (updR R 5 (.ref pq)) 6 (.ref (it j9))) 7 (.ref (a sp))) 8 (.ref (a op))) Z B J K w := hO.to rfl
  refine W.widen (k := 0) (n := 0) (Nat.le_of_ble_eq_true rfl) (Nat.le_of_ble_eq_true rfl) ?_
  refine W.eq (g2 := F0 m 8 ls [.ref q8]) rfl ?_
  refine lv_astore_n (lv' := [(2, .ref q8), (0, .ref (a 5)), (1, .int (nI d9))]) hx hb dX5_makeObject_8 rfl hl (by decide) rfl (fun ls hl => ?_)
  refine lv_aload_n hx hb dX5_makeObject_9 rfl (lv_at hl 0 rfl) ?_
  refine lv_ifnonnull (tgt := 20) hx hb dX5_makeObject_10 (by decide) ?_
  refine lv_aload_n hx hb dX5_makeObject_20 rfl (lv_at hl 1 rfl) ?_
  refine lv_iload_n hx hb dX5_makeObject_21 rfl (lv_at hl 2 rfl) ?_
  refine lv_aload_n hx hb dX5_makeObject_22 rfl (lv_at hl 0 rfl) ?_
  have hO : OKP G h0 a (upd (upd (upd (upd (upd (upd (upd (upd (upd F 5 (nI cs)) 6 (nI rg)) 18 (nI ba)) 19 (nI tp)) 20 (nI pc)) 22 (nI on)) 23 5) 26 (nI ht)) 28 (nI lm)) (updR (updR (updR (updR R 5 (.ref pq)) 6 (.ref (it j9))) 7 (.ref (a sp))) 8 (.ref (a op))) Z B J K w := hO.to rfl
  obtain ⟨qr9, hqr10⟩ := p_recv hO (by rw [hT8]; decide) (rep_4 hT8)
  refine pc_V0 (G := G) (As := []) (rest := [.int (nI d9), .ref (a 5)]) hx hb hml hown hq hE hX pX0_al hP hD hS hA hl.1 (Y_cells l G h0 a (upd (upd (upd (upd (upd (upd (upd (upd (upd F 5 (nI cs)) 6 (nI rg)) 18 (nI ba)) 19 (nI tp)) 20 (nI pc)) 22 (nI on)) 23 5) 26 (nI ht)) 28 (nI lm)) (updR (updR (updR (updR R 5 (.ref pq)) 6 (.ref (it j9))) 7 (.ref (a sp))) 8 (.ref (a op))) Z B J K w q8 lq8 (yfd y d9) g hT8 hwp hy2 hy3 hy4 hO) (gV pw_553 pw_554 pw_555 pw_146 pw_411) hV_X2_cells qr9 2 hqr10 rfl rfl rfl (Nat.le_of_ble_eq_true rfl) dX5_makeObject_23 ⟨Nat.le_of_ble_eq_true rfl, Nat.le_of_ble_eq_true rfl⟩ ⟨Nat.le_of_ble_eq_true rfl, Nat.le_of_ble_eq_true rfl⟩ (fun v8 u6 H locs hw7 hP hD hS => ?_)
  obtain ⟨w, _⟩ := u6
  obtain ⟨hw7, hO⟩ := hw7
  obtain rfl : v8 = some (.int (nI (1 + (yfd y d9)))) := hw7
  have hO : OKP G h0 a (upd (upd (upd (upd (upd (upd (upd (upd (upd F 5 (nI cs)) 6 (nI rg)) 18 (nI ba)) 19 (nI tp)) 20 (nI pc)) 22 (nI on)) 23 5) 26 (nI ht)) 28 (nI lm)) (updR (updR (updR (updR R 5 (.ref pq)) 6 (.ref (it j9))) 7 (.ref (a sp))) 8 (.ref (a op))) Z B J K w := hO.to rfl
  refine W.widen (k := 0) (n := 0) (Nat.le_of_ble_eq_true rfl) (Nat.le_of_ble_eq_true rfl) ?_
  refine W.eq (g2 := F0 m 26 ls [.int (nI (1 + (yfd y d9))), .int (nI d9), .ref (a 5)]) rfl ?_
  refine lv_i2l hx hb dX5_makeObject_26 rfl ?_
  refine lv_topl (fun x11 e12 => ?_)
  rw [show x11 = lN c9 from e12.trans (by rw [← hce]; exact nI_l (by omega))]
  have hO : OKP G h0 a (upd (upd (upd (upd (upd (upd (upd (upd (upd (upd (upd (upd (upd (upd (upd (upd (upd (upd F 5 (nI cs)) 6 (nI rg)) 18 (nI ba)) 19 (nI tp)) 20 (nI pc)) 22 (nI on)) 23 5) 26 (nI ht)) 28 (nI lm)) 5 (nI cs)) 6 (nI rg)) 18 (nI ba)) 19 (nI tp)) 20 (nI pc)) 22 (nI on)) 23 5) 26 (nI ht)) 28 (nI lm)) (updR (updR (updR (updR (updR (updR (updR (updR R 5 (.ref pq)) 6 (.ref (it j9))) 7 (.ref (a sp))) 8 (.ref (a op))) 5 (.ref pq)) 6 (.ref (it j9))) 7 (.ref (a sp))) 8 (.ref (a op))) Z B J K w := hO.to rfl
  obtain ⟨_, qr16, hqr17⟩ := hO.2.1 28 _ (sg_28 G h0 a _ _ _ _ _)
  refine pc_V0 (G := G) (As := [.int (nI d9), .long (lN c9)]) (rest := []) hx hb hml hown hq hE hX pX0_al hP hD hS hA hl.1 (Y_make l G h0 a (upd (upd (upd (upd (upd (upd (upd (upd (upd F 5 (nI cs)) 6 (nI rg)) 18 (nI ba)) 19 (nI tp)) 20 (nI pc)) 22 (nI on)) 23 5) 26 (nI ht)) 28 (nI lm)) (updR (updR (updR (updR R 5 (.ref pq)) 6 (.ref (it j9))) 7 (.ref (a sp))) 8 (.ref (a op))) Z B J K w y Sh nn on j9 ba pc tp sp op ht os pq dr ml nd nm cp it s9 g rk cs rg fl lm d9 c9 hsp hma hle hhe hwp hps hrk hpy hcs9 hfl hlm hdk hxc hsf hrm hc9 hO) (gV pw_556 pw_557 pw_558 pw_539 pw_552) hV_X5_make qr16 4 hqr17 rfl rfl rfl (Nat.le_of_ble_eq_true rfl) dX5_makeObject_27 ⟨Nat.le_of_ble_eq_true rfl, Nat.le_of_ble_eq_true rfl⟩ ⟨Nat.le_of_ble_eq_true rfl, Nat.le_of_ble_eq_true rfl⟩ (fun v15 u13 H locs hw14 hP hD hS => ?_)
  obtain ⟨w, tp18, en19, J20, ta21, sp22, op23, ht24, ot25, S26, n27⟩ := u13
  obtain ⟨hw14, h28, h29, h30, h31, h32, hO⟩ := hw14
  have h28 : (en19 = 3 ∧ tp18 = tp) ∨ (en19 = 5 ∧ tp18 = tp + 1 ∧ LoE J20 sp22 op23 ∧ MIa y ((B 19)) S26 n27 (J20 sp22) ht24 ((B 30)) (J20 29) on j9 ba pc (d9 :: os) (tp + 1)) := h28
  have h29 : ta21 5 = nI fl := h29
  have h30 : (sp22 = 34 ∧ op23 = 35) ∨ (sp22 = 35 ∧ op23 = 34) := h30
  have h31 : (8 ≤ ht24 ∧ ht24 ≤ 3008) ∧ tp18 ≤ 32000 := h31
  have h32 : LoE J20 sp22 op23 := h32
  obtain rfl : v15 = none := hw14
  have hO : OKP G h0 a (upd (upd (upd (upd (upd (upd (upd (upd (upd (upd F 5 (nI cs)) 6 (nI rg)) 18 (nI ba)) 19 (nI tp18)) 20 (nI pc)) 22 (nI on)) 23 en19) 26 (nI ht24)) 27 ot25) 28 (nI lm)) (updR (updR (updR (updR R 5 (.ref pq)) 6 (.ref (it j9))) 7 (.ref (a sp22))) 8 (.ref (a op23))) Z (updA B 33 ta21) J20 K w := hO.to rfl
  refine W.widen (k := 0) (n := 0) (Nat.le_of_ble_eq_true rfl) (Nat.le_of_ble_eq_true rfl) ?_
  refine W.eq (g2 := F0 m 30 ls []) rfl ?_
  have hz33 : (en19 = 3 ∧ tp18 = tp) ∨ (en19 = 5 ∧ tp18 = tp + 1 ∧ LoE J20 sp22 op23 ∧ MIa y (B 19) S26 n27 (J20 sp22) ht24 (B 30) (J20 29) on j9 ba pc (d9 :: os) (tp + 1)) := h28
  have hz34 : ta21 5 = nI fl := h29
  have hz35 : (sp22 = 34 ∧ op23 = 35) ∨ (sp22 = 35 ∧ op23 = 34) := h30
  have hz36 : (8 ≤ ht24 ∧ ht24 ≤ 3008) ∧ tp18 ≤ 32000 := h31
  have hz37 : LoE J20 sp22 op23 := h32
  have hO : OKP G h0 a (upd (upd (upd (upd (upd (upd (upd (upd (upd (upd F 5 (nI cs)) 6 (nI rg)) 18 (nI ba)) 19 (nI tp18)) 20 (nI pc)) 22 (nI on)) 23 en19) 26 (nI ht24)) 27 ot25) 28 (nI lm)) (updR (updR (updR (updR R 5 (.ref pq)) 6 (.ref (it j9))) 7 (.ref (a sp22))) 8 (.ref (a op23))) Z (updA B 33 ta21) J20 K w := hO.to rfl
  exact W.vret hx hb hr (fun t99 ht99 hW99 => ⟨⟨_, (w, (tp18, en19, J20, ta21, sp22, op23, ht24, ot25, S26, n27)), rfl, ⟨rfl, hz33, hz34, hz35, hz36, hz37, hO⟩, by rw [ht99]; exact hP, hD⟩, hS.F ht99⟩) hS.2.2 dX5_makeObject_30
