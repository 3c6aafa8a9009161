set_option maxHeartbeats 40000000 in
set_option maxRecDepth 100000 in
theorem Y_th14 (l : Launch) (G : pT) (h0 : Nat) (a : Nat → Nat) (F : Nat → Int32) (R : Nat → Value) (Z : Int64) (B : Nat → Nat → Int32) (J : Nat → Nat → Int64) (K : PK) (w : va_W) (y : TY) (Sh : Nat → Nat) (nn : Nat → Nat) (on : Nat) (j9 : Nat) (ba : Nat) (pc : Nat) (tp : Nat) (sp : Nat) (op : Nat) (ht : Nat) (fl : Nat) (pq : Nat) (dr : Nat) (ml : Nat) (nd : Nat) (nm : Nat) (cp : Nat) (it : Nat → Nat) (s9 : Nat) (g : Nat → Nat → Nat) (rk : Nat → Nat) (cs : Nat) (rg : Nat) (lm : Nat) (hsp : (sp = 34 ∧ op = 35) ∨ (sp = 35 ∧ op = 34)) (hmi : MIy y (B 19) Sh nn (J sp) ht (B 30) (J 29) on j9 ba pc tp) (hmo : MOy y (B 16) (B 17) (B 18) (B 19) j9) (hZ : Z = 0) (hfl : B 33 5 = nI fl) (hflb : fl ≤ 20000) (hwp : WPr G K g) (hps : PgT G K g (a 1) pq dr ml nd nm cp it s9) (hrk : RkO K rk) (hpy : PrY y K B dr nd nm it cs rg) (hle : LoE J sp op) (hlm : lm ≤ 3008) (hcs9 : cs ≤ 10000) (hop : B 16 pc = nI 14) (hru : IRy y (B 16) (B 17) (B 18) pc j9 14) (hO : OKP G h0 a (upd (upd (upd (upd (upd (upd (upd (upd (upd (upd F 5 (nI cs)) 6 (nI rg)) 18 (nI ba)) 19 (nI tp)) 20 (nI pc)) 21 (nI (pc + 1))) 22 (nI on)) 23 5) 26 (nI ht)) 28 (nI lm)) (updR (updR (updR (updR R 5 (.ref pq)) 6 (.ref (it j9))) 7 (.ref (a sp))) 8 (.ref (a op))) Z B J K w) : PM l G pX0 yX5_stepAmongThings cX5_stepAmongThings 4 none ({ frames := 40, cells := 0, slots := 0, locals := 4000 }) [.ref (a 5), .int 14, .int (B 17 pc), .int (B 18 pc)] w (fun (v : Option Value) (u : va_W × (Nat × Int32 × Int32 × Int64 × (Nat → Nat → Int64) × (Nat → Int32) × Nat × Nat × Nat × Nat × Int32 × Nat × Nat × Nat × (Nat → Int32) × (Nat → Int32))) => v = none ∧ (StG y it (B 16) (B 19) (mT (B 16) (B 30) fl on pc) pc u.2.1 u.2.2.1 u.2.2.2.1 u.2.2.2.2.1 u.2.2.2.2.2.1 u.2.2.2.2.2.2.2.1 u.2.2.2.2.2.2.2.2.1 u.2.2.2.2.2.2.2.2.2.1 u.2.2.2.2.2.2.2.2.2.2.1 u.2.2.2.2.2.2.2.2.2.2.2.2.2.2.2.1 u.2.2.2.2.2.2.2.2.2.2.2.2.2.1 u.2.2.2.2.2.2.2.2.2.2.2.2.1 u.2.2.2.2.2.2.2.2.2.2.2.2.2.2.1) ∧ (u.2.2.2.2.2.2.1 5 = nI u.2.2.2.2.2.2.2.1) ∧ (u.2.2.2.2.2.2.2.1 ≤ fl ∧ u.2.1 ≤ 32000 ∧ (8 ≤ u.2.2.2.2.2.2.2.2.2.2.1 ∧ u.2.2.2.2.2.2.2.2.2.2.1 ≤ 3008) ∧ u.2.2.2.2.2.2.2.2.2.2.2.2.1 ≤ 32000 ∧ u.2.2.2.2.2.2.2.2.2.2.2.2.2.1 ≤ 100) ∧ ((u.2.2.2.2.2.2.2.2.1 = 34 ∧ u.2.2.2.2.2.2.2.2.2.1 = 35) ∨ (u.2.2.2.2.2.2.2.2.1 = 35 ∧ u.2.2.2.2.2.2.2.2.2.1 = 34)) ∧ (LoE u.2.2.2.2.2.1 u.2.2.2.2.2.2.2.2.1 u.2.2.2.2.2.2.2.2.2.1) ∧ (OKP G h0 a (upd (upd (upd (upd (upd (upd (upd (upd (upd (upd (upd F 5 (nI cs)) 6 (nI rg)) 18 (nI u.2.2.2.2.2.2.2.2.2.2.2.2.1)) 19 (nI u.2.1)) 20 (nI pc)) 21 u.2.2.2.1) 22 (nI u.2.2.2.2.2.2.2.2.2.2.2.2.2.1)) 23 u.2.2.1) 26 (nI u.2.2.2.2.2.2.2.2.2.2.1)) 27 u.2.2.2.2.2.2.2.2.2.2.2.1) 28 (nI lm)) (updR (updR (updR (updR R 5 (.ref pq)) 6 (.ref u.2.2.2.2.2.2.2.2.2.2.2.2.2.2.1)) 7 (.ref (a u.2.2.2.2.2.2.2.2.1))) 8 (.ref (a u.2.2.2.2.2.2.2.2.2.1))) u.2.2.2.2.1 (updA (updA (updA B 30 u.2.2.2.2.2.2.2.2.2.2.2.2.2.2.2.1) 32 u.2.2.2.2.2.2.2.2.2.2.2.2.2.2.2.2) 33 u.2.2.2.2.2.2.1) u.2.2.2.2.2.1 K u.1)) (fun u => u.1) := by
  intro sz
  refine Met.ofW (cc := cX5_stepAmongThings) (maxL := 4) (ret := none) (by decide) rfl ?_
  intro p e s m args below meth c s₁ B9 hml hv
  obtain ⟨rfl, hsz, hP, hD0, hE, hX⟩ := hv
  have hx := B9.exec
  have hb := B9.bytes
  have hr := B9.returns
  have hts := atoms_spec (ws := Cond.code yX5_stepAmongThings cX5_stepAmongThings 4 none :: pw) B9.pre
  have hq : ∀ w ∈ pw, w.before _ s = true := fun w h => hts w (List.mem_cons_of_mem _ h)
  have hown : s.vm.findClass RX5 = some m.cls := findClass_of_methodNamed B9.named
  have hlocks := B9.notSynchronized
  subst hsz
  have hD := hD0.self (sz := s.heap.size)
  have hA : ∀ q : Nat, s.heap.size ≤ q → va_A w s.heap.size q := fun q h => Or.inr h
  generalize va_A w s.heap.size = A at hD hE hA ⊢
  have hS : va_S A s.heap s.heap [] := va_S.rf
  have hl := lv_entry ([.ref (a 5), .int 14, .int (B 17 pc), .int (B 18 pc)]) (n := 4) (Nat.le_of_ble_eq_true rfl)
  rw [lg_entry_eq]
  generalize (lg_sl ([.ref (a 5), .int 14, .int (B 17 pc), .int (B 18 pc)]) ++ List.replicate (4 - (lg_sl ([.ref (a 5), .int 14, .int (B 17 pc), .int (B 18 pc)])).length) Slot.unset).toArray = ls at hl ⊢
  have hl : lv_has ls 4 [(0, .ref (a 5)), (1, .int 14), (2, .int (B 17 pc)), (3, .int (B 18 pc))] := hl
  obtain ⟨hn1, hn2, hn3, hn4, hn5, hn6, hn7, hn8, hn9, hn10, hn11, hn12⟩ := MIy.nums hmi hmo
  have hlo := FFy.lo hmi.ff
  have hpg := hps.1
  have hp1 := hpg.1
  have hp2 := hpg.2.1
  have hp3 := hpg.2.2.1
  have hp4 := hpg.2.2.2.1
  have hp5 := hpg.2.2.2.2.1
  have hp6 := hpg.2.2.2.2.2.1
  have hp8 := hpg.2.2.2.2.2.2.2.1
  have hp9 := hpg.2.2.2.2.2.2.2.2
  have h29 : ¬ sp = 29 ∧ ¬ op = 29 := by omega
  have hht := hmi.1.2.2.2
  have hnm9 := hps.2.2.1.2.2.1
  have hnmE := hpy.1.1
  refine lv_iload_n hx hb dX5_stepAmongThings_0 rfl (lv_at hl 1 rfl) ?_
  refine lv_tableIn (tgt := 64) (off := 63) hx hb dX5_stepAmongThings_1 (by decide) (by decide) (by decide) (by decide) ?_
  refine lv_aload_n hx hb dX5_stepAmongThings_64 rfl (lv_at hl 0 rfl) ?_
  refine lv_iload_n hx hb dX5_stepAmongThings_65 rfl (lv_at hl 1 rfl) ?_
  refine lv_bipush (v := 15) hx hb dX5_stepAmongThings_66 (by decide) ?_
  refine lv_icmp_ne (tgt := 75) hx hb dX5_stepAmongThings_68 (by decide) (fun c1 => ?_) (fun c1 => absurd c1 (by decide))
  refine lv_iconst (v := 0) hx hb dX5_stepAmongThings_75 (by decide) ?_
  refine lv_iload_n hx hb dX5_stepAmongThings_76 rfl (lv_at hl 2 rfl) ?_
  have hO : OKP G h0 a (upd (upd (upd (upd (upd (upd (upd (upd (upd (upd (upd (upd (upd (upd (upd (upd F 5 (nI cs)) 6 (nI rg)) 18 (nI ba)) 19 (nI tp)) 20 (nI pc)) 21 (nI (pc + 1))) 22 (nI on)) 23 5) 26 (nI ht)) 28 (nI lm)) 18 (nI ba)) 19 (nI tp)) 20 (nI pc)) 21 (nI (pc + 1))) 23 5) 26 (nI ht)) (updR (updR (updR (updR (updR (updR (updR R 5 (.ref pq)) 6 (.ref (it j9))) 7 (.ref (a sp))) 8 (.ref (a op))) 5 (.ref pq)) 7 (.ref (a sp))) 8 (.ref (a op))) Z B J K w := hO.to rfl
  obtain ⟨_, qr5, hqr6⟩ := hO.2.1 28 _ (sg_28 G h0 a _ _ _ _ _)
  refine pc_V0 (G := G) (As := [.int 0, .int (B 17 pc)]) (rest := []) hx hb hml hown hq hE hX pX0_al hP hD hS hA hl.1 (Y_check14 l G h0 a (upd (upd (upd (upd (upd (upd (upd (upd (upd (upd F 5 (nI cs)) 6 (nI rg)) 18 (nI ba)) 19 (nI tp)) 20 (nI pc)) 21 (nI (pc + 1))) 22 (nI on)) 23 5) 26 (nI ht)) 28 (nI lm)) (updR (updR (updR (updR R 5 (.ref pq)) 6 (.ref (it j9))) 7 (.ref (a sp))) 8 (.ref (a op))) Z B J K w y Sh nn on j9 ba pc tp sp op ht fl pq dr ml nd nm cp it s9 g rk cs rg hsp hmi hmo hZ hfl hflb hop hru hwp hps hrk hpy hle hO) (gV pw_663 pw_664 pw_665 pw_539 pw_645) hV_X5_check qr5 4 hqr6 rfl rfl rfl (Nat.le_of_ble_eq_true rfl) dX5_stepAmongThings_77 ⟨Nat.le_of_ble_eq_true rfl, Nat.le_of_ble_eq_true rfl⟩ ⟨Nat.le_of_ble_eq_true rfl, Nat.le_of_ble_eq_true rfl⟩ (fun v4 u2 H locs hw3 hP hD hS => ?_)
  obtain ⟨w, tp7, en8, nx9, z10, J11, ta12, ou13, fl14⟩ := u2
  obtain ⟨hw3, h15, h16, h17, h18, hO⟩ := hw3
  have h15 : StQ y ((B 19)) Sh nn (J11 sp) ht ((B 30)) ((B 16)) on j9 ba pc fl tp7 en8 nx9 z10 (J11 29) fl14 := h15
  have h16 : LoE J11 sp op := h16
  have h17 : ta12 5 = nI fl14 := h17
  have h18 : fl14 ≤ fl ∧ tp7 ≤ 32000 := h18
  obtain rfl : v4 = none := hw3
  have hO : OKP G h0 a (upd (upd (upd (upd (upd (upd (upd (upd (upd (upd F 5 (nI cs)) 6 (nI rg)) 18 (nI ba)) 19 (nI tp7)) 20 (nI pc)) 21 nx9) 22 (nI on)) 23 en8) 26 (nI ht)) 28 (nI lm)) (updR (updR (updR (updR R 5 (.ref pq)) 6 (.ref (it j9))) 7 (.ref (a sp))) 8 (.ref (a op))) z10 (updA (updA B 32 ou13) 33 ta12) J11 K w := hO.to rfl
  refine W.widen (k := 0) (n := 0) (Nat.le_of_ble_eq_true rfl) (Nat.le_of_ble_eq_true rfl) ?_
  refine W.eq (g2 := F0 m 80 ls []) rfl ?_
  refine lv_goto (tgt := 181) hx hb dX5_stepAmongThings_80 (by decide) ?_
  have hz19 : StG y it (B 16) (B 19) (mT (B 16) (B 30) fl on pc) pc tp7 en8 nx9 z10 J11 fl14 sp op ht (B 30) on ba (it j9) := (StG.ofQ2 h15 h16 (by rw [hop]; decide))
  have hz20 : ta12 5 = nI fl14 := h17
  have hz21 : fl14 ≤ fl ∧ tp7 ≤ 32000 ∧ (8 ≤ ht ∧ ht ≤ 3008) ∧ ba ≤ 32000 ∧ on ≤ 100 := (by omega)
  have hz22 : (sp = 34 ∧ op = 35) ∨ (sp = 35 ∧ op = 34) := hsp
  have hz23 : LoE J11 sp op := h16
  have hO : OKP G h0 a (upd (upd (upd (upd (upd (upd (upd (upd (upd (upd (upd F 5 (nI cs)) 6 (nI rg)) 18 (nI ba)) 19 (nI tp7)) 20 (nI pc)) 21 nx9) 22 (nI on)) 23 en8) 26 (nI ht)) 27 (F 27)) 28 (nI lm)) (updR (updR (updR (updR R 5 (.ref pq)) 6 (.ref (it j9))) 7 (.ref (a sp))) 8 (.ref (a op))) z10 (updA (updA (updA B 30 (B 30)) 32 ou13) 33 ta12) J11 K w := hO.to rfl
  exact W.vret hx hb hr (fun t99 ht99 hW99 => ⟨⟨_, (w, (tp7, en8, nx9, z10, J11, ta12, fl14, sp, op, ht, (F 27), ba, on, (it j9), (B 30), ou13)), rfl, ⟨rfl, hz19, hz20, hz21, hz22, hz23, hO⟩, by rw [ht99]; exact hP, hD⟩, hS.F ht99⟩) hS.2.2 dX5_stepAmongThings_181
set_option maxHeartbeats 40000000 in
set_option maxRecDepth 100000 in
theorem Y_th15 (l : Launch) (G : pT) (h0 : Nat) (a : Nat → Nat) (F : Nat → Int32) (R : Nat → Value) (Z : Int64) (B : Nat → Nat → Int32) (J : Nat → Nat → Int64) (K : PK) (w : va_W) (y : TY) (Sh : Nat → Nat) (nn : Nat → Nat) (on : Nat) (j9 : Nat) (ba : Nat) (pc : Nat) (tp : Nat) (sp : Nat) (op : Nat) (ht : Nat) (fl : Nat) (pq : Nat) (dr : Nat) (ml : Nat) (nd : Nat) (nm : Nat) (cp : Nat) (it : Nat → Nat) (s9 : Nat) (g : Nat → Nat → Nat) (rk : Nat → Nat) (cs : Nat) (rg : Nat) (lm : Nat) (hsp : (sp = 34 ∧ op = 35) ∨ (sp = 35 ∧ op = 34)) (hmi : MIy y (B 19) Sh nn (J sp) ht (B 30) (J 29) on j9 ba pc tp) (hmo : MOy y (B 16) (B 17) (B 18) (B 19) j9) (hZ : Z = 0) (hfl : B 33 5 = nI fl) (hflb : fl ≤ 20000) (hwp : WPr G K g) (hps : PgT G K g (a 1) pq dr ml nd nm cp it s9) (hrk : RkO K rk) (hpy : PrY y K B dr nd nm it cs rg) (hle : LoE J sp op) (hlm : lm ≤ 3008) (hcs9 : cs ≤ 10000) (hop : B 16 pc = nI 15) (hru : IRy y (B 16) (B 17) (B 18) pc j9 15) (hO : OKP G h0 a (upd (upd (upd (upd (upd (upd (upd (upd (upd (upd F 5 (nI cs)) 6 (nI rg)) 18 (nI ba)) 19 (nI tp)) 20 (nI pc)) 21 (nI (pc + 1))) 22 (nI on)) 23 5) 26 (nI ht)) 28 (nI lm)) (updR (updR (updR (updR R 5 (.ref pq)) 6 (.ref (it j9))) 7 (.ref (a sp))) 8 (.ref (a op))) Z B J K w) : PM l G pX0 yX5_stepAmongThings cX5_stepAmongThings 4 none ({ frames := 40, cells := 0, slots := 0, locals := 4000 }) [.ref (a 5), .int 15, .int (B 17 pc), .int (B 18 pc)] w (fun (v : Option Value) (u : va_W × (Nat × Int32 × Int32 × Int64 × (Nat → Nat → Int64) × (Nat → Int32) × Nat × Nat × Nat × Nat × Int32 × Nat × Nat × Nat × (Nat → Int32) × (Nat → Int32))) => v = none ∧ (StG y it (B 16) (B 19) (mT (B 16) (B 30) fl on pc) pc u.2.1 u.2.2.1 u.2.2.2.1 u.2.2.2.2.1 u.2.2.2.2.2.1 u.2.2.2.2.2.2.2.1 u.2.2.2.2.2.2.2.2.1 u.2.2.2.2.2.2.2.2.2.1 u.2.2.2.2.2.2.2.2.2.2.1 u.2.2.2.2.2.2.2.2.2.2.2.2.2.2.2.1 u.2.2.2.2.2.2.2.2.2.2.2.2.2.1 u.2.2.2.2.2.2.2.2.2.2.2.2.1 u.2.2.2.2.2.2.2.2.2.2.2.2.2.2.1) ∧ (u.2.2.2.2.2.2.1 5 = nI u.2.2.2.2.2.2.2.1) ∧ (u.2.2.2.2.2.2.2.1 ≤ fl ∧ u.2.1 ≤ 32000 ∧ (8 ≤ u.2.2.2.2.2.2.2.2.2.2.1 ∧ u.2.2.2.2.2.2.2.2.2.2.1 ≤ 3008) ∧ u.2.2.2.2.2.2.2.2.2.2.2.2.1 ≤ 32000 ∧ u.2.2.2.2.2.2.2.2.2.2.2.2.2.1 ≤ 100) ∧ ((u.2.2.2.2.2.2.2.2.1 = 34 ∧ u.2.2.2.2.2.2.2.2.2.1 = 35) ∨ (u.2.2.2.2.2.2.2.2.1 = 35 ∧ u.2.2.2.2.2.2.2.2.2.1 = 34)) ∧ (LoE u.2.2.2.2.2.1 u.2.2.2.2.2.2.2.2.1 u.2.2.2.2.2.2.2.2.2.1) ∧ (OKP G h0 a (upd (upd (upd (upd (upd (upd (upd (upd (upd (upd (upd F 5 (nI cs)) 6 (nI rg)) 18 (nI u.2.2.2.2.2.2.2.2.2.2.2.2.1)) 19 (nI u.2.1)) 20 (nI pc)) 21 u.2.2.2.1) 22 (nI u.2.2.2.2.2.2.2.2.2.2.2.2.2.1)) 23 u.2.2.1) 26 (nI u.2.2.2.2.2.2.2.2.2.2.1)) 27 u.2.2.2.2.2.2.2.2.2.2.2.1) 28 (nI lm)) (updR (updR (updR (updR R 5 (.ref pq)) 6 (.ref u.2.2.2.2.2.2.2.2.2.2.2.2.2.2.1)) 7 (.ref (a u.2.2.2.2.2.2.2.2.1))) 8 (.ref (a u.2.2.2.2.2.2.2.2.2.1))) u.2.2.2.2.1 (updA (updA (updA B 30 u.2.2.2.2.2.2.2.2.2.2.2.2.2.2.2.1) 32 u.2.2.2.2.2.2.2.2.2.2.2.2.2.2.2.2) 33 u.2.2.2.2.2.2.1) u.2.2.2.2.2.1 K u.1)) (fun u => u.1) := by
  intro sz
  refine Met.ofW (cc := cX5_stepAmongThings) (maxL := 4) (ret := none) (by decide) rfl ?_
  intro p e s m args below meth c s₁ B9 hml hv
  obtain ⟨rfl, hsz, hP, hD0, hE, hX⟩ := hv
  have hx := B9.exec
  have hb := B9.bytes
  have hr := B9.returns
  have hts := atoms_spec (ws := Cond.code yX5_stepAmongThings cX5_stepAmongThings 4 none :: pw) B9.pre
  have hq : ∀ w ∈ pw, w.before _ s = true := fun w h => hts w (List.mem_cons_of_mem _ h)
  have hown : s.vm.findClass RX5 = some m.cls := findClass_of_methodNamed B9.named
  have hlocks := B9.notSynchronized
  subst hsz
  have hD := hD0.self (sz := s.heap.size)
  have hA : ∀ q : Nat, s.heap.size ≤ q → va_A w s.heap.size q := fun q h => Or.inr h
  generalize va_A w s.heap.size = A at hD hE hA ⊢
  have hS : va_S A s.heap s.heap [] := va_S.rf
  have hl := lv_entry ([.ref (a 5), .int 15, .int (B 17 pc), .int (B 18 pc)]) (n := 4) (Nat.le_of_ble_eq_true rfl)
  rw [lg_entry_eq]
  generalize (lg_sl ([.ref (a 5), .int 15, .int (B 17 pc), .int (B 18 pc)]) ++ List.replicate (4 - (lg_sl ([.ref (a 5), .int 15, .int (B 17 pc), .int (B 18 pc)])).length) Slot.unset).toArray = ls at hl ⊢
  have hl : lv_has ls 4 [(0, .ref (a 5)), (1, .int 15), (2, .int (B 17 pc)), (3, .int (B 18 pc))] := hl
  obtain ⟨hn1, hn2, hn3, hn4, hn5, hn6, hn7, hn8, hn9, hn10, hn11, hn12⟩ := MIy.nums hmi hmo
  have hlo := FFy.lo hmi.ff
  have hpg := hps.1
  have hp1 := hpg.1
  have hp2 := hpg.2.1
  have hp3 := hpg.2.2.1
  have hp4 := hpg.2.2.2.1
  have hp5 := hpg.2.2.2.2.1
  have hp6 := hpg.2.2.2.2.2.1
  have hp8 := hpg.2.2.2.2.2.2.2.1
  have hp9 := hpg.2.2.2.2.2.2.2.2
  have h29 : ¬ sp = 29 ∧ ¬ op = 29 := by omega
  have hht := hmi.1.2.2.2
  have hnm9 := hps.2.2.1.2.2.1
  have hnmE := hpy.1.1
  refine lv_iload_n hx hb dX5_stepAmongThings_0 rfl (lv_at hl 1 rfl) ?_
  refine lv_tableIn (tgt := 64) (off := 63) hx hb dX5_stepAmongThings_1 (by decide) (by decide) (by decide) (by decide) ?_
  refine lv_aload_n hx hb dX5_stepAmongThings_64 rfl (lv_at hl 0 rfl) ?_
  refine lv_iload_n hx hb dX5_stepAmongThings_65 rfl (lv_at hl 1 rfl) ?_
  refine lv_bipush (v := 15) hx hb dX5_stepAmongThings_66 (by decide) ?_
  refine lv_icmp_ne (tgt := 75) hx hb dX5_stepAmongThings_68 (by decide) (fun c1 => absurd c1 (by decide)) (fun c1 => ?_)
  refine lv_iconst (v := 1) hx hb dX5_stepAmongThings_71 (by decide) ?_
  refine lv_goto (tgt := 76) hx hb dX5_stepAmongThings_72 (by decide) ?_
  refine lv_iload_n hx hb dX5_stepAmongThings_76 rfl (lv_at hl 2 rfl) ?_
  have hO : OKP G h0 a (upd (upd (upd (upd (upd (upd (upd (upd (upd (upd (upd (upd (upd (upd (upd (upd F 5 (nI cs)) 6 (nI rg)) 18 (nI ba)) 19 (nI tp)) 20 (nI pc)) 21 (nI (pc + 1))) 22 (nI on)) 23 5) 26 (nI ht)) 28 (nI lm)) 18 (nI ba)) 19 (nI tp)) 20 (nI pc)) 21 (nI (pc + 1))) 23 5) 26 (nI ht)) (updR (updR (updR (updR (updR (updR (updR R 5 (.ref pq)) 6 (.ref (it j9))) 7 (.ref (a sp))) 8 (.ref (a op))) 5 (.ref pq)) 7 (.ref (a sp))) 8 (.ref (a op))) Z B J K w := hO.to rfl
  obtain ⟨_, qr5, hqr6⟩ := hO.2.1 28 _ (sg_28 G h0 a _ _ _ _ _)
  refine pc_V0 (G := G) (As := [.int 1, .int (B 17 pc)]) (rest := []) hx hb hml hown hq hE hX pX0_al hP hD hS hA hl.1 (Y_check15 l G h0 a (upd (upd (upd (upd (upd (upd (upd (upd (upd (upd F 5 (nI cs)) 6 (nI rg)) 18 (nI ba)) 19 (nI tp)) 20 (nI pc)) 21 (nI (pc + 1))) 22 (nI on)) 23 5) 26 (nI ht)) 28 (nI lm)) (updR (updR (updR (updR R 5 (.ref pq)) 6 (.ref (it j9))) 7 (.ref (a sp))) 8 (.ref (a op))) Z B J K w y Sh nn on j9 ba pc tp sp op ht fl pq dr ml nd nm cp it s9 g rk cs rg hsp hmi hmo hZ hfl hflb hop hru hwp hps hrk hpy hle hO) (gV pw_663 pw_664 pw_665 pw_539 pw_645) hV_X5_check qr5 4 hqr6 rfl rfl rfl (Nat.le_of_ble_eq_true rfl) dX5_stepAmongThings_77 ⟨Nat.le_of_ble_eq_true rfl, Nat.le_of_ble_eq_true rfl⟩ ⟨Nat.le_of_ble_eq_true rfl, Nat.le_of_ble_eq_true rfl⟩ (fun v4 u2 H locs hw3 hP hD hS => ?_)
  obtain ⟨w, tp7, en8, nx9, z10, J11, ta12, ou13, fl14⟩ := u2
  obtain ⟨hw3, h15, h16, h17, h18, hO⟩ := hw3
  have h15 : StQ y ((B 19)) Sh nn (J11 sp) ht ((B 30)) ((B 16)) on j9 ba pc fl tp7 en8 nx9 z10 (J11 29) fl14 := h15
  have h16 : LoE J11 sp op := h16
  have h17 : ta12 5 = nI fl14 := h17
  have h18 : fl14 ≤ fl ∧ tp7 ≤ 32000 := h18
  obtain rfl : v4 = none := hw3
  have hO : OKP G h0 a (upd (upd (upd (upd (upd (upd (upd (upd (upd (upd F 5 (nI cs)) 6 (nI rg)) 18 (nI ba)) 19 (nI tp7)) 20 (nI pc)) 21 nx9) 22 (nI on)) 23 en8) 26 (nI ht)) 28 (nI lm)) (updR (updR (updR (updR R 5 (.ref pq)) 6 (.ref (it j9))) 7 (.ref (a sp))) 8 (.ref (a op))) z10 (updA (updA B 32 ou13) 33 ta12) J11 K w := hO.to rfl
  refine W.widen (k := 0) (n := 0) (Nat.le_of_ble_eq_true rfl) (Nat.le_of_ble_eq_true rfl) ?_
  refine W.eq (g2 := F0 m 80 ls []) rfl ?_
  refine lv_goto (tgt := 181) hx hb dX5_stepAmongThings_80 (by decide) ?_
  have hz19 : StG y it (B 16) (B 19) (mT (B 16) (B 30) fl on pc) pc tp7 en8 nx9 z10 J11 fl14 sp op ht (B 30) on ba (it j9) := (StG.ofQ2 h15 h16 (by rw [hop]; decide))
  have hz20 : ta12 5 = nI fl14 := h17
  have hz21 : fl14 ≤ fl ∧ tp7 ≤ 32000 ∧ (8 ≤ ht ∧ ht ≤ 3008) ∧ ba ≤ 32000 ∧ on ≤ 100 := (by omega)
  have hz22 : (sp = 34 ∧ op = 35) ∨ (sp = 35 ∧ op = 34) := hsp
  have hz23 : LoE J11 sp op := h16
  have hO : OKP G h0 a (upd (upd (upd (upd (upd (upd (upd (upd (upd (upd (upd F 5 (nI cs)) 6 (nI rg)) 18 (nI ba)) 19 (nI tp7)) 20 (nI pc)) 21 nx9) 22 (nI on)) 23 en8) 26 (nI ht)) 27 (F 27)) 28 (nI lm)) (updR (updR (updR (updR R 5 (.ref pq)) 6 (.ref (it j9))) 7 (.ref (a sp))) 8 (.ref (a op))) z10 (updA (updA (updA B 30 (B 30)) 32 ou13) 33 ta12) J11 K w := hO.to rfl
  exact W.vret hx hb hr (fun t99 ht99 hW99 => ⟨⟨_, (w, (tp7, en8, nx9, z10, J11, ta12, fl14, sp, op, ht, (F 27), ba, on, (it j9), (B 30), ou13)), rfl, ⟨rfl, hz19, hz20, hz21, hz22, hz23, hO⟩, by rw [ht99]; exact hP, hD⟩, hS.F ht99⟩) hS.2.2 dX5_stepAmongThings_181
set_option maxHeartbeats 40000000 in
set_option maxRecDepth 100000 in
theorem Y_th16 (l : Launch) (G : pT) (h0 : Nat) (a : Nat → Nat) (F : Nat → Int32) (R : Nat → Value) (Z : Int64) (B : Nat → Nat → Int32) (J : Nat → Nat → Int64) (K : PK) (w : va_W) (y : TY) (Sh : Nat → Nat) (nn : Nat → Nat) (on : Nat) (j9 : Nat) (ba : Nat) (pc : Nat) (tp : Nat) (sp : Nat) (op : Nat) (ht : Nat) (fl : Nat) (pq : Nat) (dr : Nat) (ml : Nat) (nd : Nat) (nm : Nat) (cp : Nat) (it : Nat → Nat) (s9 : Nat) (g : Nat → Nat → Nat) (rk : Nat → Nat) (cs : Nat) (rg : Nat) (lm : Nat) (hsp : (sp = 34 ∧ op = 35) ∨ (sp = 35 ∧ op = 34)) (hmi : MIy y (B 19) Sh nn (J sp) ht (B 30) (J 29) on j9 ba pc tp) (hmo : MOy y (B 16) (B 17) (B 18) (B 19) j9) (hZ : Z = 0) (hfl : B 33 5 = nI fl) (hflb : fl ≤ 20000) (hwp : WPr G K g) (hps : PgT G K g (a 1) pq dr ml nd nm cp it s9) (hrk : RkO K rk) (hpy : PrY y K B dr nd nm it cs rg) (hle : LoE J sp op) (hlm : lm ≤ 3008) (hcs9 : cs ≤ 10000) (hop : B 16 pc = nI 16) (hru : IRy y (B 16) (B 17) (B 18) pc j9 16) (hO : OKP G h0 a (upd (upd (upd (upd (upd (upd (upd (upd (upd (upd F 5 (nI cs)) 6 (nI rg)) 18 (nI ba)) 19 (nI tp)) 20 (nI pc)) 21 (nI (pc + 1))) 22 (nI on)) 23 5) 26 (nI ht)) 28 (nI lm)) (updR (updR (updR (updR R 5 (.ref pq)) 6 (.ref (it j9))) 7 (.ref (a sp))) 8 (.ref (a op))) Z B J K w) : PM l G pX0 yX5_stepAmongThings cX5_stepAmongThings 4 none ({ frames := 40, cells := 0, slots := 0, locals := 4000 }) [.ref (a 5), .int 16, .int (B 17 pc), .int (B 18 pc)] w (fun (v : Option Value) (u : va_W × (Nat × Int32 × Int32 × Int64 × (Nat → Nat → Int64) × (Nat → Int32) × Nat × Nat × Nat × Nat × Int32 × Nat × Nat × Nat × (Nat → Int32) × (Nat → Int32))) => v = none ∧ (StG y it (B 16) (B 19) (mT (B 16) (B 30) fl on pc) pc u.2.1 u.2.2.1 u.2.2.2.1 u.2.2.2.2.1 u.2.2.2.2.2.1 u.2.2.2.2.2.2.2.1 u.2.2.2.2.2.2.2.2.1 u.2.2.2.2.2.2.2.2.2.1 u.2.2.2.2.2.2.2.2.2.2.1 u.2.2.2.2.2.2.2.2.2.2.2.2.2.2.2.1 u.2.2.2.2.2.2.2.2.2.2.2.2.2.1 u.2.2.2.2.2.2.2.2.2.2.2.2.1 u.2.2.2.2.2.2.2.2.2.2.2.2.2.2.1) ∧ (u.2.2.2.2.2.2.1 5 = nI u.2.2.2.2.2.2.2.1) ∧ (u.2.2.2.2.2.2.2.1 ≤ fl ∧ u.2.1 ≤ 32000 ∧ (8 ≤ u.2.2.2.2.2.2.2.2.2.2.1 ∧ u.2.2.2.2.2.2.2.2.2.2.1 ≤ 3008) ∧ u.2.2.2.2.2.2.2.2.2.2.2.2.1 ≤ 32000 ∧ u.2.2.2.2.2.2.2.2.2.2.2.2.2.1 ≤ 100) ∧ ((u.2.2.2.2.2.2.2.2.1 = 34 ∧ u.2.2.2.2.2.2.2.2.2.1 = 35) ∨ (u.2.2.2.2.2.2.2.2.1 = 35 ∧ u.2.2.2.2.2.2.2.2.2.1 = 34)) ∧ (LoE u.2.2.2.2.2.1 u.2.2.2.2.2.2.2.2.1 u.2.2.2.2.2.2.2.2.2.1) ∧ (OKP G h0 a (upd (upd (upd (upd (upd (upd (upd (upd (upd (upd (upd F 5 (nI cs)) 6 (nI rg)) 18 (nI u.2.2.2.2.2.2.2.2.2.2.2.2.1)) 19 (nI u.2.1)) 20 (nI pc)) 21 u.2.2.2.1) 22 (nI u.2.2.2.2.2.2.2.2.2.2.2.2.2.1)) 23 u.2.2.1) 26 (nI u.2.2.2.2.2.2.2.2.2.2.1)) 27 u.2.2.2.2.2.2.2.2.2.2.2.1) 28 (nI lm)) (updR (updR (updR (updR R 5 (.ref pq)) 6 (.ref u.2.2.2.2.2.2.2.2.2.2.2.2.2.2.1)) 7 (.ref (a u.2.2.2.2.2.2.2.2.1))) 8 (.ref (a u.2.2.2.2.2.2.2.2.2.1))) u.2.2.2.2.1 (updA (updA (updA B 30 u.2.2.2.2.2.2.2.2.2.2.2.2.2.2.2.1) 32 u.2.2.2.2.2.2.2.2.2.2.2.2.2.2.2.2) 33 u.2.2.2.2.2.2.1) u.2.2.2.2.2.1 K u.1)) (fun u => u.1) := by
  intro sz
  refine Met.ofW (cc := cX5_stepAmongThings) (maxL := 4) (ret := none) (by decide) rfl ?_
  intro p e s m args below meth c s₁ B9 hml hv
  obtain ⟨rfl, hsz, hP, hD0, hE, hX⟩ := hv
  have hx := B9.exec
  have hb := B9.bytes
  have hr := B9.returns
  have hts := atoms_spec (ws := Cond.code yX5_stepAmongThings cX5_stepAmongThings 4 none :: pw) B9.pre
  have hq : ∀ w ∈ pw, w.before _ s = true := fun w h => hts w (List.mem_cons_of_mem _ h)
  have hown : s.vm.findClass RX5 = some m.cls := findClass_of_methodNamed B9.named
  have hlocks := B9.notSynchronized
  subst hsz
  have hD := hD0.self (sz := s.heap.size)
  have hA : ∀ q : Nat, s.heap.size ≤ q → va_A w s.heap.size q := fun q h => Or.inr h
  generalize va_A w s.heap.size = A at hD hE hA ⊢
  have hS : va_S A s.heap s.heap [] := va_S.rf
  have hl := lv_entry ([.ref (a 5), .int 16, .int (B 17 pc), .int (B 18 pc)]) (n := 4) (Nat.le_of_ble_eq_true rfl)
  rw [lg_entry_eq]
  generalize (lg_sl ([.ref (a 5), .int 16, .int (B 17 pc), .int (B 18 pc)]) ++ List.replicate (4 - (lg_sl ([.ref (a 5), .int 16, .int (B 17 pc), .int (B 18 pc)])).length) Slot.unset).toArray = ls at hl ⊢
  have hl : lv_has ls 4 [(0, .ref (a 5)), (1, .int 16), (2, .int (B 17 pc)), (3, .int (B 18 pc))] := hl
  obtain ⟨hn1, hn2, hn3, hn4, hn5, hn6, hn7, hn8, hn9, hn10, hn11, hn12⟩ := MIy.nums hmi hmo
  have hlo := FFy.lo hmi.ff
  have hpg := hps.1
  have hp1 := hpg.1
  have hp2 := hpg.2.1
  have hp3 := hpg.2.2.1
  have hp4 := hpg.2.2.2.1
  have hp5 := hpg.2.2.2.2.1
  have hp6 := hpg.2.2.2.2.2.1
  have hp8 := hpg.2.2.2.2.2.2.2.1
  have hp9 := hpg.2.2.2.2.2.2.2.2
  have h29 : ¬ sp = 29 ∧ ¬ op = 29 := by omega
  have hht := hmi.1.2.2.2
  have hnm9 := hps.2.2.1.2.2.1
  have hnmE := hpy.1.1
  refine lv_iload_n hx hb dX5_stepAmongThings_0 rfl (lv_at hl 1 rfl) ?_
  refine lv_tableIn (tgt := 83) (off := 82) hx hb dX5_stepAmongThings_1 (by decide) (by decide) (by decide) (by decide) ?_
  refine lv_aload_n hx hb dX5_stepAmongThings_83 rfl (lv_at hl 0 rfl) ?_
  have hO : OKP G h0 a (upd (upd (upd (upd (upd (upd (upd (upd (upd (upd (upd (upd (upd (upd (upd (upd F 5 (nI cs)) 6 (nI rg)) 18 (nI ba)) 19 (nI tp)) 20 (nI pc)) 21 (nI (pc + 1))) 22 (nI on)) 23 5) 26 (nI ht)) 28 (nI lm)) 18 (nI ba)) 19 (nI tp)) 20 (nI pc)) 21 (nI (pc + 1))) 23 5) 26 (nI ht)) (updR (updR (updR (updR (updR (updR (updR R 5 (.ref pq)) 6 (.ref (it j9))) 7 (.ref (a sp))) 8 (.ref (a op))) 5 (.ref pq)) 7 (.ref (a sp))) 8 (.ref (a op))) Z B J K w := hO.to rfl
  obtain ⟨_, qr4, hqr5⟩ := hO.2.1 28 _ (sg_28 G h0 a _ _ _ _ _)
  refine pc_V0 (G := G) (As := []) (rest := []) hx hb hml hown hq hE hX pX0_al hP hD hS hA hl.1 (Y_length l G h0 a (upd (upd (upd (upd (upd (upd (upd (upd (upd (upd F 5 (nI cs)) 6 (nI rg)) 18 (nI ba)) 19 (nI tp)) 20 (nI pc)) 21 (nI (pc + 1))) 22 (nI on)) 23 5) 26 (nI ht)) 28 (nI lm)) (updR (updR (updR (updR R 5 (.ref pq)) 6 (.ref (it j9))) 7 (.ref (a sp))) 8 (.ref (a op))) Z B J K w y Sh nn on j9 ba pc tp sp op ht fl pq dr ml nd nm cp it s9 g rk cs rg hsp hmi hmo hZ hfl hflb hop hru hwp hps hrk hpy hle hO) (gV pw_666 pw_667 pw_668 pw_539 pw_647) hV_X5_length qr4 4 hqr5 rfl rfl rfl (Nat.le_of_ble_eq_true rfl) dX5_stepAmongThings_84 ⟨Nat.le_of_ble_eq_true rfl, Nat.le_of_ble_eq_true rfl⟩ ⟨Nat.le_of_ble_eq_true rfl, Nat.le_of_ble_eq_true rfl⟩ (fun v3 u1 H locs hw2 hP hD hS => ?_)
  obtain ⟨w, tp6, en7, nx8, z9, J10, ta11, ou12, fl13⟩ := u1
  obtain ⟨hw2, h14, h15, h16, h17, hO⟩ := hw2
  have h14 : StQ y ((B 19)) Sh nn (J10 sp) ht ((B 30)) ((B 16)) on j9 ba pc fl tp6 en7 nx8 z9 (J10 29) fl13 := h14
  have h15 : LoE J10 sp op := h15
  have h16 : ta11 5 = nI fl13 := h16
  have h17 : fl13 ≤ fl ∧ tp6 ≤ 32000 := h17
  obtain rfl : v3 = none := hw2
  have hO : OKP G h0 a (upd (upd (upd (upd (upd (upd (upd (upd (upd (upd F 5 (nI cs)) 6 (nI rg)) 18 (nI ba)) 19 (nI tp6)) 20 (nI pc)) 21 nx8) 22 (nI on)) 23 en7) 26 (nI ht)) 28 (nI lm)) (updR (updR (updR (updR R 5 (.ref pq)) 6 (.ref (it j9))) 7 (.ref (a sp))) 8 (.ref (a op))) z9 (updA (updA B 32 ou12) 33 ta11) J10 K w := hO.to rfl
  refine W.widen (k := 0) (n := 0) (Nat.le_of_ble_eq_true rfl) (Nat.le_of_ble_eq_true rfl) ?_
  refine W.eq (g2 := F0 m 87 ls []) rfl ?_
  refine lv_goto (tgt := 181) hx hb dX5_stepAmongThings_87 (by decide) ?_
  have hz18 : StG y it (B 16) (B 19) (mT (B 16) (B 30) fl on pc) pc tp6 en7 nx8 z9 J10 fl13 sp op ht (B 30) on ba (it j9) := (StG.ofQ2 h14 h15 (by rw [hop]; decide))
  have hz19 : ta11 5 = nI fl13 := h16
  have hz20 : fl13 ≤ fl ∧ tp6 ≤ 32000 ∧ (8 ≤ ht ∧ ht ≤ 3008) ∧ ba ≤ 32000 ∧ on ≤ 100 := (by omega)
  have hz21 : (sp = 34 ∧ op = 35) ∨ (sp = 35 ∧ op = 34) := hsp
  have hz22 : LoE J10 sp op := h15
  have hO : OKP G h0 a (upd (upd (upd (upd (upd (upd (upd (upd (upd (upd (upd F 5 (nI cs)) 6 (nI rg)) 18 (nI ba)) 19 (nI tp6)) 20 (nI pc)) 21 nx8) 22 (nI on)) 23 en7) 26 (nI ht)) 27 (F 27)) 28 (nI lm)) (updR (updR (updR (updR R 5 (.ref pq)) 6 (.ref (it j9))) 7 (.ref (a sp))) 8 (.ref (a op))) z9 (updA (updA (updA B 30 (B 30)) 32 ou12) 33 ta11) J10 K w := hO.to rfl
  exact W.vret hx hb hr (fun t99 ht99 hW99 => ⟨⟨_, (w, (tp6, en7, nx8, z9, J10, ta11, fl13, sp, op, ht, (F 27), ba, on, (it j9), (B 30), ou12)), rfl, ⟨rfl, hz18, hz19, hz20, hz21, hz22, hO⟩, by rw [ht99]; exact hP, hD⟩, hS.F ht99⟩) hS.2.2 dX5_stepAmongThings_181
set_option maxHeartbeats 40000000 in
set_option maxRecDepth 100000 in
theorem Y_th17 (l : Launch) (G : pT) (h0 : Nat) (a : Nat → Nat) (F : Nat → Int32) (R : Nat → Value) (Z : Int64) (B : Nat → Nat → Int32) (J : Nat → Nat → Int64) (K : PK) (w : va_W) (y : TY) (Sh : Nat → Nat) (nn : Nat → Nat) (on : Nat) (j9 : Nat) (ba : Nat) (pc : Nat) (tp : Nat) (sp : Nat) (op : Nat) (ht : Nat) (fl : Nat) (pq : Nat) (dr : Nat) (ml : Nat) (nd : Nat) (nm : Nat) (cp : Nat) (it : Nat → Nat) (s9 : Nat) (g : Nat → Nat → Nat) (rk : Nat → Nat) (cs : Nat) (rg : Nat) (lm : Nat) (hsp : (sp = 34 ∧ op = 35) ∨ (sp = 35 ∧ op = 34)) (hmi : MIy y (B 19) Sh nn (J sp) ht (B 30) (J 29) on j9 ba pc tp) (hmo : MOy y (B 16) (B 17) (B 18) (B 19) j9) (hZ : Z = 0) (hfl : B 33 5 = nI fl) (hflb : fl ≤ 20000) (hwp : WPr G K g) (hps : PgT G K g (a 1) pq dr ml nd nm cp it s9) (hrk : RkO K rk) (hpy : PrY y K B dr nd nm it cs rg) (hle : LoE J sp op) (hlm : lm ≤ 3008) (hcs9 : cs ≤ 10000) (hop : B 16 pc = nI 17) (hru : IRy y (B 16) (B 17) (B 18) pc j9 17) (hO : OKP G h0 a (upd (upd (upd (upd (upd (upd (upd (upd (upd (upd F 5 (nI cs)) 6 (nI rg)) 18 (nI ba)) 19 (nI tp)) 20 (nI pc)) 21 (nI (pc + 1))) 22 (nI on)) 23 5) 26 (nI ht)) 28 (nI lm)) (updR (updR (updR (updR R 5 (.ref pq)) 6 (.ref (it j9))) 7 (.ref (a sp))) 8 (.ref (a op))) Z B J K w) : PM l G pX0 yX5_stepAmongThings cX5_stepAmongThings 4 none ({ frames := 40, cells := 0, slots := 0, locals := 4000 }) [.ref (a 5), .int 17, .int (B 17 pc), .int (B 18 pc)] w (fun (v : Option Value) (u : va_W × (Nat × Int32 × Int32 × Int64 × (Nat → Nat → Int64) × (Nat → Int32) × Nat × Nat × Nat × Nat × Int32 × Nat × Nat × Nat × (Nat → Int32) × (Nat → Int32))) => v = none ∧ (StG y it (B 16) (B 19) (mT (B 16) (B 30) fl on pc) pc u.2.1 u.2.2.1 u.2.2.2.1 u.2.2.2.2.1 u.2.2.2.2.2.1 u.2.2.2.2.2.2.2.1 u.2.2.2.2.2.2.2.2.1 u.2.2.2.2.2.2.2.2.2.1 u.2.2.2.2.2.2.2.2.2.2.1 u.2.2.2.2.2.2.2.2.2.2.2.2.2.2.2.1 u.2.2.2.2.2.2.2.2.2.2.2.2.2.1 u.2.2.2.2.2.2.2.2.2.2.2.2.1 u.2.2.2.2.2.2.2.2.2.2.2.2.2.2.1) ∧ (u.2.2.2.2.2.2.1 5 = nI u.2.2.2.2.2.2.2.1) ∧ (u.2.2.2.2.2.2.2.1 ≤ fl ∧ u.2.1 ≤ 32000 ∧ (8 ≤ u.2.2.2.2.2.2.2.2.2.2.1 ∧ u.2.2.2.2.2.2.2.2.2.2.1 ≤ 3008) ∧ u.2.2.2.2.2.2.2.2.2.2.2.2.1 ≤ 32000 ∧ u.2.2.2.2.2.2.2.2.2.2.2.2.2.1 ≤ 100) ∧ ((u.2.2.2.2.2.2.2.2.1 = 34 ∧ u.2.2.2.2.2.2.2.2.2.1 = 35) ∨ (u.2.2.2.2.2.2.2.2.1 = 35 ∧ u.2.2.2.2.2.2.2.2.2.1 = 34)) ∧ (LoE u.2.2.2.2.2.1 u.2.2.2.2.2.2.2.2.1 u.2.2.2.2.2.2.2.2.2.1) ∧ (OKP G h0 a (upd (upd (upd (upd (upd (upd (upd (upd (upd (upd (upd F 5 (nI cs)) 6 (nI rg)) 18 (nI u.2.2.2.2.2.2.2.2.2.2.2.2.1)) 19 (nI u.2.1)) 20 (nI pc)) 21 u.2.2.2.1) 22 (nI u.2.2.2.2.2.2.2.2.2.2.2.2.2.1)) 23 u.2.2.1) 26 (nI u.2.2.2.2.2.2.2.2.2.2.1)) 27 u.2.2.2.2.2.2.2.2.2.2.2.1) 28 (nI lm)) (updR (updR (updR (updR R 5 (.ref pq)) 6 (.ref u.2.2.2.2.2.2.2.2.2.2.2.2.2.2.1)) 7 (.ref (a u.2.2.2.2.2.2.2.2.1))) 8 (.ref (a u.2.2.2.2.2.2.2.2.2.1))) u.2.2.2.2.1 (updA (updA (updA B 30 u.2.2.2.2.2.2.2.2.2.2.2.2.2.2.2.1) 32 u.2.2.2.2.2.2.2.2.2.2.2.2.2.2.2.2) 33 u.2.2.2.2.2.2.1) u.2.2.2.2.2.1 K u.1)) (fun u => u.1) := by
  intro sz
  refine Met.ofW (cc := cX5_stepAmongThings) (maxL := 4) (ret := none) (by decide) rfl ?_
  intro p e s m args below meth c s₁ B9 hml hv
  obtain ⟨rfl, hsz, hP, hD0, hE, hX⟩ := hv
  have hx := B9.exec
  have hb := B9.bytes
  have hr := B9.returns
  have hts := atoms_spec (ws := Cond.code yX5_stepAmongThings cX5_stepAmongThings 4 none :: pw) B9.pre
  have hq : ∀ w ∈ pw, w.before _ s = true := fun w h => hts w (List.mem_cons_of_mem _ h)
  have hown : s.vm.findClass RX5 = some m.cls := findClass_of_methodNamed B9.named
  have hlocks := B9.notSynchronized
  subst hsz
  have hD := hD0.self (sz := s.heap.size)
  have hA : ∀ q : Nat, s.heap.size ≤ q → va_A w s.heap.size q := fun q h => Or.inr h
  generalize va_A w s.heap.size = A at hD hE hA ⊢
  have hS : va_S A s.heap s.heap [] := va_S.rf
  have hl := lv_entry ([.ref (a 5), .int 17, .int (B 17 pc), .int (B 18 pc)]) (n := 4) (Nat.le_of_ble_eq_true rfl)
  rw [lg_entry_eq]
  generalize (lg_sl ([.ref (a 5), .int 17, .int (B 17 pc), .int (B 18 pc)]) ++ List.replicate (4 - (lg_sl ([.ref (a 5), .int 17, .int (B 17 pc), .int (B 18 pc)])).length) Slot.unset).toArray = ls at hl ⊢
  have hl : lv_has ls 4 [(0, .ref (a 5)), (1, .int 17), (2, .int (B 17 pc)), (3, .int (B 18 pc))] := hl
  obtain ⟨hn1, hn2, hn3, hn4, hn5, hn6, hn7, hn8, hn9, hn10, hn11, hn12⟩ := MIy.nums hmi hmo
  have hlo := FFy.lo hmi.ff
  have hpg := hps.1
  have hp1 := hpg.1
  have hp2 := hpg.2.1
  have hp3 := hpg.2.2.1
  have hp4 := hpg.2.2.2.1
  have hp5 := hpg.2.2.2.2.1
  have hp6 := hpg.2.2.2.2.2.1
  have hp8 := hpg.2.2.2.2.2.2.2.1
  have hp9 := hpg.2.2.2.2.2.2.2.2
  have h29 : ¬ sp = 29 ∧ ¬ op = 29 := by omega
  have hht := hmi.1.2.2.2
  have hnm9 := hps.2.2.1.2.2.1
  have hnmE := hpy.1.1
  refine lv_iload_n hx hb dX5_stepAmongThings_0 rfl (lv_at hl 1 rfl) ?_
  refine lv_tableIn (tgt := 90) (off := 89) hx hb dX5_stepAmongThings_1 (by decide) (by decide) (by decide) (by decide) ?_
  refine lv_aload_n hx hb dX5_stepAmongThings_90 rfl (lv_at hl 0 rfl) ?_
  refine lv_iload_n hx hb dX5_stepAmongThings_91 rfl (lv_at hl 2 rfl) ?_
  have hO : OKP G h0 a (upd (upd (upd (upd (upd (upd (upd (upd (upd (upd (upd (upd (upd (upd (upd (upd F 5 (nI cs)) 6 (nI rg)) 18 (nI ba)) 19 (nI tp)) 20 (nI pc)) 21 (nI (pc + 1))) 22 (nI on)) 23 5) 26 (nI ht)) 28 (nI lm)) 18 (nI ba)) 19 (nI tp)) 20 (nI pc)) 21 (nI (pc + 1))) 23 5) 26 (nI ht)) (updR (updR (updR (updR (updR (updR (updR R 5 (.ref pq)) 6 (.ref (it j9))) 7 (.ref (a sp))) 8 (.ref (a op))) 5 (.ref pq)) 7 (.ref (a sp))) 8 (.ref (a op))) Z B J K w := hO.to rfl
  obtain ⟨_, qr4, hqr5⟩ := hO.2.1 28 _ (sg_28 G h0 a _ _ _ _ _)
  refine pc_V0 (G := G) (As := [.int (B 17 pc)]) (rest := []) hx hb hml hown hq hE hX pX0_al hP hD hS hA hl.1 (Y_getField l G h0 a (upd (upd (upd (upd (upd (upd (upd (upd (upd (upd F 5 (nI cs)) 6 (nI rg)) 18 (nI ba)) 19 (nI tp)) 20 (nI pc)) 21 (nI (pc + 1))) 22 (nI on)) 23 5) 26 (nI ht)) 28 (nI lm)) (updR (updR (updR (updR R 5 (.ref pq)) 6 (.ref (it j9))) 7 (.ref (a sp))) 8 (.ref (a op))) Z B J K w y Sh nn on j9 ba pc tp sp op ht fl pq dr ml nd nm cp it s9 g rk cs rg hsp hmi hmo hZ hfl hflb hop hru hwp hps hrk hpy hle hO) (gV pw_669 pw_670 pw_671 pw_539 pw_648) hV_X5_getField qr4 4 hqr5 rfl rfl rfl (Nat.le_of_ble_eq_true rfl) dX5_stepAmongThings_92 ⟨Nat.le_of_ble_eq_true rfl, Nat.le_of_ble_eq_true rfl⟩ ⟨Nat.le_of_ble_eq_true rfl, Nat.le_of_ble_eq_true rfl⟩ (fun v3 u1 H locs hw2 hP hD hS => ?_)
  obtain ⟨w, tp6, en7, nx8, z9, J10, ta11, ou12, fl13⟩ := u1
  obtain ⟨hw2, h14, h15, h16, h17, hO⟩ := hw2
  have h14 : StQ y ((B 19)) Sh nn (J10 sp) ht ((B 30)) ((B 16)) on j9 ba pc fl tp6 en7 nx8 z9 (J10 29) fl13 := h14
  have h15 : LoE J10 sp op := h15
  have h16 : ta11 5 = nI fl13 := h16
  have h17 : fl13 ≤ fl ∧ tp6 ≤ 32000 := h17
  obtain rfl : v3 = none := hw2
  have hO : OKP G h0 a (upd (upd (upd (upd (upd (upd (upd (upd (upd (upd F 5 (nI cs)) 6 (nI rg)) 18 (nI ba)) 19 (nI tp6)) 20 (nI pc)) 21 nx8) 22 (nI on)) 23 en7) 26 (nI ht)) 28 (nI lm)) (updR (updR (updR (updR R 5 (.ref pq)) 6 (.ref (it j9))) 7 (.ref (a sp))) 8 (.ref (a op))) z9 (updA (updA B 32 ou12) 33 ta11) J10 K w := hO.to rfl
  refine W.widen (k := 0) (n := 0) (Nat.le_of_ble_eq_true rfl) (Nat.le_of_ble_eq_true rfl) ?_
  refine W.eq (g2 := F0 m 95 ls []) rfl ?_
  refine lv_goto (tgt := 181) hx hb dX5_stepAmongThings_95 (by decide) ?_
  have hz18 : StG y it (B 16) (B 19) (mT (B 16) (B 30) fl on pc) pc tp6 en7 nx8 z9 J10 fl13 sp op ht (B 30) on ba (it j9) := (StG.ofQ2 h14 h15 (by rw [hop]; decide))
  have hz19 : ta11 5 = nI fl13 := h16
  have hz20 : fl13 ≤ fl ∧ tp6 ≤ 32000 ∧ (8 ≤ ht ∧ ht ≤ 3008) ∧ ba ≤ 32000 ∧ on ≤ 100 := (by omega)
  have hz21 : (sp = 34 ∧ op = 35) ∨ (sp = 35 ∧ op = 34) := hsp
  have hz22 : LoE J10 sp op := h15
  have hO : OKP G h0 a (upd (upd (upd (upd (upd (upd (upd (upd (upd (upd (upd F 5 (nI cs)) 6 (nI rg)) 18 (nI ba)) 19 (nI tp6)) 20 (nI pc)) 21 nx8) 22 (nI on)) 23 en7) 26 (nI ht)) 27 (F 27)) 28 (nI lm)) (updR (updR (updR (updR R 5 (.ref pq)) 6 (.ref (it j9))) 7 (.ref (a sp))) 8 (.ref (a op))) z9 (updA (updA (updA B 30 (B 30)) 32 ou12) 33 ta11) J10 K w := hO.to rfl
  exact W.vret hx hb hr (fun t99 ht99 hW99 => ⟨⟨_, (w, (tp6, en7, nx8, z9, J10, ta11, fl13, sp, op, ht, (F 27), ba, on, (it j9), (B 30), ou12)), rfl, ⟨rfl, hz18, hz19, hz20, hz21, hz22, hO⟩, by rw [ht99]; exact hP, hD⟩, hS.F ht99⟩) hS.2.2 dX5_stepAmongThings_181
set_option maxHeartbeats 40000000 in
set_option maxRecDepth 100000 in
theorem Y_th18 (l : Launch) (G : pT) (h0 : Nat) (a : Nat → Nat) (F : Nat → Int32) (R : Nat → Value) (Z : Int64) (B : Nat → Nat → Int32) (J : Nat → Nat → Int64) (K : PK) (w : va_W) (y : TY) (Sh : Nat → Nat) (nn : Nat → Nat) (on : Nat) (j9 : Nat) (ba : Nat) (pc : Nat) (tp : Nat) (sp : Nat) (op : Nat) (ht : Nat) (fl : Nat) (pq : Nat) (dr : Nat) (ml : Nat) (nd : Nat) (nm : Nat) (cp : Nat) (it : Nat → Nat) (s9 : Nat) (g : Nat → Nat → Nat) (rk : Nat → Nat) (cs : Nat) (rg : Nat) (lm : Nat) (hsp : (sp = 34 ∧ op = 35) ∨ (sp = 35 ∧ op = 34)) (hmi : MIy y (B 19) Sh nn (J sp) ht (B 30) (J 29) on j9 ba pc tp) (hmo : MOy y (B 16) (B 17) (B 18) (B 19) j9) (hZ : Z = 0) (hfl : B 33 5 = nI fl) (hflb : fl ≤ 20000) (hwp : WPr G K g) (hps : PgT G K g (a 1) pq dr ml nd nm cp it s9) (hrk : RkO K rk) (hpy : PrY y K B dr nd nm it cs rg) (hle : LoE J sp op) (hlm : lm ≤ 3008) (hcs9 : cs ≤ 10000) (hop : B 16 pc = nI 18) (hru : IRy y (B 16) (B 17) (B 18) pc j9 18) (hO : OKP G h0 a (upd (upd (upd (upd (upd (upd (upd (upd (upd (upd F 5 (nI cs)) 6 (nI rg)) 18 (nI ba)) 19 (nI tp)) 20 (nI pc)) 21 (nI (pc + 1))) 22 (nI on)) 23 5) 26 (nI ht)) 28 (nI lm)) (updR (updR (updR (updR R 5 (.ref pq)) 6 (.ref (it j9))) 7 (.ref (a sp))) 8 (.ref (a op))) Z B J K w) : PM l G pX0 yX5_stepAmongThings cX5_stepAmongThings 4 none ({ frames := 40, cells := 0, slots := 0, locals := 4000 }) [.ref (a 5), .int 18, .int (B 17 pc), .int (B 18 pc)] w (fun (v : Option Value) (u : va_W × (Nat × Int32 × Int32 × Int64 × (Nat → Nat → Int64) × (Nat → Int32) × Nat × Nat × Nat × Nat × Int32 × Nat × Nat × Nat × (Nat → Int32) × (Nat → Int32))) => v = none ∧ (StG y it (B 16) (B 19) (mT (B 16) (B 30) fl on pc) pc u.2.1 u.2.2.1 u.2.2.2.1 u.2.2.2.2.1 u.2.2.2.2.2.1 u.2.2.2.2.2.2.2.1 u.2.2.2.2.2.2.2.2.1 u.2.2.2.2.2.2.2.2.2.1 u.2.2.2.2.2.2.2.2.2.2.1 u.2.2.2.2.2.2.2.2.2.2.2.2.2.2.2.1 u.2.2.2.2.2.2.2.2.2.2.2.2.2.1 u.2.2.2.2.2.2.2.2.2.2.2.2.1 u.2.2.2.2.2.2.2.2.2.2.2.2.2.2.1) ∧ (u.2.2.2.2.2.2.1 5 = nI u.2.2.2.2.2.2.2.1) ∧ (u.2.2.2.2.2.2.2.1 ≤ fl ∧ u.2.1 ≤ 32000 ∧ (8 ≤ u.2.2.2.2.2.2.2.2.2.2.1 ∧ u.2.2.2.2.2.2.2.2.2.2.1 ≤ 3008) ∧ u.2.2.2.2.2.2.2.2.2.2.2.2.1 ≤ 32000 ∧ u.2.2.2.2.2.2.2.2.2.2.2.2.2.1 ≤ 100) ∧ ((u.2.2.2.2.2.2.2.2.1 = 34 ∧ u.2.2.2.2.2.2.2.2.2.1 = 35) ∨ (u.2.2.2.2.2.2.2.2.1 = 35 ∧ u.2.2.2.2.2.2.2.2.2.1 = 34)) ∧ (LoE u.2.2.2.2.2.1 u.2.2.2.2.2.2.2.2.1 u.2.2.2.2.2.2.2.2.2.1) ∧ (OKP G h0 a (upd (upd (upd (upd (upd (upd (upd (upd (upd (upd (upd F 5 (nI cs)) 6 (nI rg)) 18 (nI u.2.2.2.2.2.2.2.2.2.2.2.2.1)) 19 (nI u.2.1)) 20 (nI pc)) 21 u.2.2.2.1) 22 (nI u.2.2.2.2.2.2.2.2.2.2.2.2.2.1)) 23 u.2.2.1) 26 (nI u.2.2.2.2.2.2.2.2.2.2.1)) 27 u.2.2.2.2.2.2.2.2.2.2.2.1) 28 (nI lm)) (updR (updR (updR (updR R 5 (.ref pq)) 6 (.ref u.2.2.2.2.2.2.2.2.2.2.2.2.2.2.1)) 7 (.ref (a u.2.2.2.2.2.2.2.2.1))) 8 (.ref (a u.2.2.2.2.2.2.2.2.2.1))) u.2.2.2.2.1 (updA (updA (updA B 30 u.2.2.2.2.2.2.2.2.2.2.2.2.2.2.2.1) 32 u.2.2.2.2.2.2.2.2.2.2.2.2.2.2.2.2) 33 u.2.2.2.2.2.2.1) u.2.2.2.2.2.1 K u.1)) (fun u => u.1) := by
  intro sz
  refine Met.ofW (cc := cX5_stepAmongThings) (maxL := 4) (ret := none) (by decide) rfl ?_
  intro p e s m args below meth c s₁ B9 hml hv
  obtain ⟨rfl, hsz, hP, hD0, hE, hX⟩ := hv
  have hx := B9.exec
  have hb := B9.bytes
  have hr := B9.returns
  have hts := atoms_spec (ws := Cond.code yX5_stepAmongThings cX5_stepAmongThings 4 none :: pw) B9.pre
  have hq : ∀ w ∈ pw, w.before _ s = true := fun w h => hts w (List.mem_cons_of_mem _ h)
  have hown : s.vm.findClass RX5 = some m.cls := findClass_of_methodNamed B9.named
  have hlocks := B9.notSynchronized
  subst hsz
  have hD := hD0.self (sz := s.heap.size)
  have hA : ∀ q : Nat, s.heap.size ≤ q → va_A w s.heap.size q := fun q h => Or.inr h
  generalize va_A w s.heap.size = A at hD hE hA ⊢
  have hS : va_S A s.heap s.heap [] := va_S.rf
  have hl := lv_entry ([.ref (a 5), .int 18, .int (B 17 pc), .int (B 18 pc)]) (n := 4) (Nat.le_of_ble_eq_true rfl)
  rw [lg_entry_eq]
  generalize (lg_sl ([.ref (a 5), .int 18, .int (B 17 pc), .int (B 18 pc)]) ++ List.replicate (4 - (lg_sl ([.ref (a 5), .int 18, .int (B 17 pc), .int (B 18 pc)])).length) Slot.unset).toArray = ls at hl ⊢
  have hl : lv_has ls 4 [(0, .ref (a 5)), (1, .int 18), (2, .int (B 17 pc)), (3, .int (B 18 pc))] := hl
  obtain ⟨hn1, hn2, hn3, hn4, hn5, hn6, hn7, hn8, hn9, hn10, hn11, hn12⟩ := MIy.nums hmi hmo
  have hlo := FFy.lo hmi.ff
  have hpg := hps.1
  have hp1 := hpg.1
  have hp2 := hpg.2.1
  have hp3 := hpg.2.2.1
  have hp4 := hpg.2.2.2.1
  have hp5 := hpg.2.2.2.2.1
  have hp6 := hpg.2.2.2.2.2.1
  have hp8 := hpg.2.2.2.2.2.2.2.1
  have hp9 := hpg.2.2.2.2.2.2.2.2
  have h29 : ¬ sp = 29 ∧ ¬ op = 29 := by omega
  have hht := hmi.1.2.2.2
  have hnm9 := hps.2.2.1.2.2.1
  have hnmE := hpy.1.1
  refine lv_iload_n hx hb dX5_stepAmongThings_0 rfl (lv_at hl 1 rfl) ?_
  refine lv_tableIn (tgt := 98) (off := 97) hx hb dX5_stepAmongThings_1 (by decide) (by decide) (by decide) (by decide) ?_
  refine lv_aload_n hx hb dX5_stepAmongThings_98 rfl (lv_at hl 0 rfl) ?_
  refine lv_iload_n hx hb dX5_stepAmongThings_99 rfl (lv_at hl 2 rfl) ?_
  have hO : OKP G h0 a (upd (upd (upd (upd (upd (upd (upd (upd (upd (upd (upd (upd (upd (upd (upd (upd F 5 (nI cs)) 6 (nI rg)) 18 (nI ba)) 19 (nI tp)) 20 (nI pc)) 21 (nI (pc + 1))) 22 (nI on)) 23 5) 26 (nI ht)) 28 (nI lm)) 18 (nI ba)) 19 (nI tp)) 20 (nI pc)) 21 (nI (pc + 1))) 23 5) 26 (nI ht)) (updR (updR (updR (updR (updR (updR (updR R 5 (.ref pq)) 6 (.ref (it j9))) 7 (.ref (a sp))) 8 (.ref (a op))) 5 (.ref pq)) 7 (.ref (a sp))) 8 (.ref (a op))) Z B J K w := hO.to rfl
  obtain ⟨_, qr4, hqr5⟩ := hO.2.1 28 _ (sg_28 G h0 a _ _ _ _ _)
  refine pc_V0 (G := G) (As := [.int (B 17 pc)]) (rest := []) hx hb hml hown hq hE hX pX0_al hP hD hS hA hl.1 (Y_putField l G h0 a (upd (upd (upd (upd (upd (upd (upd (upd (upd (upd F 5 (nI cs)) 6 (nI rg)) 18 (nI ba)) 19 (nI tp)) 20 (nI pc)) 21 (nI (pc + 1))) 22 (nI on)) 23 5) 26 (nI ht)) 28 (nI lm)) (updR (updR (updR (updR R 5 (.ref pq)) 6 (.ref (it j9))) 7 (.ref (a sp))) 8 (.ref (a op))) Z B J K w y Sh nn on j9 ba pc tp sp op ht fl pq dr ml nd nm cp it s9 g rk cs rg hsp hmi hmo hZ hfl hflb hop hru hwp hps hrk hpy hle hO) (gV pw_672 pw_673 pw_674 pw_539 pw_652) hV_X5_putField qr4 4 hqr5 rfl rfl rfl (Nat.le_of_ble_eq_true rfl) dX5_stepAmongThings_100 ⟨Nat.le_of_ble_eq_true rfl, Nat.le_of_ble_eq_true rfl⟩ ⟨Nat.le_of_ble_eq_true rfl, Nat.le_of_ble_eq_true rfl⟩ (fun v3 u1 H locs hw2 hP hD hS => ?_)
  obtain ⟨w, tp6, en7, nx8, z9, J10, ta11, ou12, fl13⟩ := u1
  obtain ⟨hw2, h14, h15, h16, h17, hO⟩ := hw2
  have h14 : StQ y ((B 19)) Sh nn (J10 sp) ht ((B 30)) ((B 16)) on j9 ba pc fl tp6 en7 nx8 z9 (J10 29) fl13 := h14
  have h15 : LoE J10 sp op := h15
  have h16 : ta11 5 = nI fl13 := h16
  have h17 : fl13 ≤ fl ∧ tp6 ≤ 32000 := h17
  obtain rfl : v3 = none := hw2
  have hO : OKP G h0 a (upd (upd (upd (upd (upd (upd (upd (upd (upd (upd F 5 (nI cs)) 6 (nI rg)) 18 (nI ba)) 19 (nI tp6)) 20 (nI pc)) 21 nx8) 22 (nI on)) 23 en7) 26 (nI ht)) 28 (nI lm)) (updR (updR (updR (updR R 5 (.ref pq)) 6 (.ref (it j9))) 7 (.ref (a sp))) 8 (.ref (a op))) z9 (updA (updA B 32 ou12) 33 ta11) J10 K w := hO.to rfl
  refine W.widen (k := 0) (n := 0) (Nat.le_of_ble_eq_true rfl) (Nat.le_of_ble_eq_true rfl) ?_
  refine W.eq (g2 := F0 m 103 ls []) rfl ?_
  refine lv_goto (tgt := 181) hx hb dX5_stepAmongThings_103 (by decide) ?_
  have hz18 : StG y it (B 16) (B 19) (mT (B 16) (B 30) fl on pc) pc tp6 en7 nx8 z9 J10 fl13 sp op ht (B 30) on ba (it j9) := (StG.ofQ2 h14 h15 (by rw [hop]; decide))
  have hz19 : ta11 5 = nI fl13 := h16
  have hz20 : fl13 ≤ fl ∧ tp6 ≤ 32000 ∧ (8 ≤ ht ∧ ht ≤ 3008) ∧ ba ≤ 32000 ∧ on ≤ 100 := (by omega)
  have hz21 : (sp = 34 ∧ op = 35) ∨ (sp = 35 ∧ op = 34) := hsp
  have hz22 : LoE J10 sp op := h15
  have hO : OKP G h0 a (upd (upd (upd (upd (upd (upd (upd (upd (upd (upd (upd F 5 (nI cs)) 6 (nI rg)) 18 (nI ba)) 19 (nI tp6)) 20 (nI pc)) 21 nx8) 22 (nI on)) 23 en7) 26 (nI ht)) 27 (F 27)) 28 (nI lm)) (updR (updR (updR (updR R 5 (.ref pq)) 6 (.ref (it j9))) 7 (.ref (a sp))) 8 (.ref (a op))) z9 (updA (updA (updA B 30 (B 30)) 32 ou12) 33 ta11) J10 K w := hO.to rfl
  exact W.vret hx hb hr (fun t99 ht99 hW99 => ⟨⟨_, (w, (tp6, en7, nx8, z9, J10, ta11, fl13, sp, op, ht, (F 27), ba, on, (it j9), (B 30), ou12)), rfl, ⟨rfl, hz18, hz19, hz20, hz21, hz22, hO⟩, by rw [ht99]; exact hP, hD⟩, hS.F ht99⟩) hS.2.2 dX5_stepAmongThings_181
set_option maxHeartbeats 40000000 in
set_option maxRecDepth 100000 in
theorem Y_th19 (l : Launch) (G : pT) (h0 : Nat) (a : Nat → Nat) (F : Nat → Int32) (R : Nat → Value) (Z : Int64) (B : Nat → Nat → Int32) (J : Nat → Nat → Int64) (K : PK) (w : va_W) (y : TY) (Sh : Nat → Nat) (nn : Nat → Nat) (on : Nat) (j9 : Nat) (ba : Nat) (pc : Nat) (tp : Nat) (sp : Nat) (op : Nat) (ht : Nat) (fl : Nat) (pq : Nat) (dr : Nat) (ml : Nat) (nd : Nat) (nm : Nat) (cp : Nat) (it : Nat → Nat) (s9 : Nat) (g : Nat → Nat → Nat) (rk : Nat → Nat) (cs : Nat) (rg : Nat) (lm : Nat) (hsp : (sp = 34 ∧ op = 35) ∨ (sp = 35 ∧ op = 34)) (hmi : MIy y (B 19) Sh nn (J sp) ht (B 30) (J 29) on j9 ba pc tp) (hmo : MOy y (B 16) (B 17) (B 18) (B 19) j9) (hZ : Z = 0) (hfl : B 33 5 = nI fl) (hflb : fl ≤ 20000) (hwp : WPr G K g) (hps : PgT G K g (a 1) pq dr ml nd nm cp it s9) (hrk : RkO K rk) (hpy : PrY y K B dr nd nm it cs rg) (hle : LoE J sp op) (hlm : lm ≤ 3008) (hcs9 : cs ≤ 10000) (hop : B 16 pc = nI 19) (hru : IRy y (B 16) (B 17) (B 18) pc j9 19) (hO : OKP G h0 a (upd (upd (upd (upd (upd (upd (upd (upd (upd (upd F 5 (nI cs)) 6 (nI rg)) 18 (nI ba)) 19 (nI tp)) 20 (nI pc)) 21 (nI (pc + 1))) 22 (nI on)) 23 5) 26 (nI ht)) 28 (nI lm)) (updR (updR (updR (updR R 5 (.ref pq)) 6 (.ref (it j9))) 7 (.ref (a sp))) 8 (.ref (a op))) Z B J K w) : PM l G pX0 yX5_stepAmongThings cX5_stepAmongThings 4 none ({ frames := 40, cells := 0, slots := 0, locals := 4000 }) [.ref (a 5), .int 19, .int (B 17 pc), .int (B 18 pc)] w (fun (v : Option Value) (u : va_W × (Nat × Int32 × Int32 × Int64 × (Nat → Nat → Int64) × (Nat → Int32) × Nat × Nat × Nat × Nat × Int32 × Nat × Nat × Nat × (Nat → Int32) × (Nat → Int32))) => v = none ∧ (StG y it (B 16) (B 19) (mT (B 16) (B 30) fl on pc) pc u.2.1 u.2.2.1 u.2.2.2.1 u.2.2.2.2.1 u.2.2.2.2.2.1 u.2.2.2.2.2.2.2.1 u.2.2.2.2.2.2.2.2.1 u.2.2.2.2.2.2.2.2.2.1 u.2.2.2.2.2.2.2.2.2.2.1 u.2.2.2.2.2.2.2.2.2.2.2.2.2.2.2.1 u.2.2.2.2.2.2.2.2.2.2.2.2.2.1 u.2.2.2.2.2.2.2.2.2.2.2.2.1 u.2.2.2.2.2.2.2.2.2.2.2.2.2.2.1) ∧ (u.2.2.2.2.2.2.1 5 = nI u.2.2.2.2.2.2.2.1) ∧ (u.2.2.2.2.2.2.2.1 ≤ fl ∧ u.2.1 ≤ 32000 ∧ (8 ≤ u.2.2.2.2.2.2.2.2.2.2.1 ∧ u.2.2.2.2.2.2.2.2.2.2.1 ≤ 3008) ∧ u.2.2.2.2.2.2.2.2.2.2.2.2.1 ≤ 32000 ∧ u.2.2.2.2.2.2.2.2.2.2.2.2.2.1 ≤ 100) ∧ ((u.2.2.2.2.2.2.2.2.1 = 34 ∧ u.2.2.2.2.2.2.2.2.2.1 = 35) ∨ (u.2.2.2.2.2.2.2.2.1 = 35 ∧ u.2.2.2.2.2.2.2.2.2.1 = 34)) ∧ (LoE u.2.2.2.2.2.1 u.2.2.2.2.2.2.2.2.1 u.2.2.2.2.2.2.2.2.2.1) ∧ (OKP G h0 a (upd (upd (upd (upd (upd (upd (upd (upd (upd (upd (upd F 5 (nI cs)) 6 (nI rg)) 18 (nI u.2.2.2.2.2.2.2.2.2.2.2.2.1)) 19 (nI u.2.1)) 20 (nI pc)) 21 u.2.2.2.1) 22 (nI u.2.2.2.2.2.2.2.2.2.2.2.2.2.1)) 23 u.2.2.1) 26 (nI u.2.2.2.2.2.2.2.2.2.2.1)) 27 u.2.2.2.2.2.2.2.2.2.2.2.1) 28 (nI lm)) (updR (updR (updR (updR R 5 (.ref pq)) 6 (.ref u.2.2.2.2.2.2.2.2.2.2.2.2.2.2.1)) 7 (.ref (a u.2.2.2.2.2.2.2.2.1))) 8 (.ref (a u.2.2.2.2.2.2.2.2.2.1))) u.2.2.2.2.1 (updA (updA (updA B 30 u.2.2.2.2.2.2.2.2.2.2.2.2.2.2.2.1) 32 u.2.2.2.2.2.2.2.2.2.2.2.2.2.2.2.2) 33 u.2.2.2.2.2.2.1) u.2.2.2.2.2.1 K u.1)) (fun u => u.1) := by
  intro sz
  refine Met.ofW (cc := cX5_stepAmongThings) (maxL := 4) (ret := none) (by decide) rfl ?_
  intro p e s m args below meth c s₁ B9 hml hv
  obtain ⟨rfl, hsz, hP, hD0, hE, hX⟩ := hv
  have hx := B9.exec
  have hb := B9.bytes
  have hr := B9.returns
  have hts := atoms_spec (ws := Cond.code yX5_stepAmongThings cX5_stepAmongThings 4 none :: pw) B9.pre
  have hq : ∀ w ∈ pw, w.before _ s = true := fun w h => hts w (List.mem_cons_of_mem _ h)
  have hown : s.vm.findClass RX5 = some m.cls := findClass_of_methodNamed B9.named
  have hlocks := B9.notSynchronized
  subst hsz
  have hD := hD0.self (sz := s.heap.size)
  have hA : ∀ q : Nat, s.heap.size ≤ q → va_A w s.heap.size q := fun q h => Or.inr h
  generalize va_A w s.heap.size = A at hD hE hA ⊢
  have hS : va_S A s.heap s.heap [] := va_S.rf
  have hl := lv_entry ([.ref (a 5), .int 19, .int (B 17 pc), .int (B 18 pc)]) (n := 4) (Nat.le_of_ble_eq_true rfl)
  rw [lg_entry_eq]
  generalize (lg_sl ([.ref (a 5), .int 19, .int (B 17 pc), .int (B 18 pc)]) ++ List.replicate (4 - (lg_sl ([.ref (a 5), .int 19, .int (B 17 pc), .int (B 18 pc)])).length) Slot.unset).toArray = ls at hl ⊢
  have hl : lv_has ls 4 [(0, .ref (a 5)), (1, .int 19), (2, .int (B 17 pc)), (3, .int (B 18 pc))] := hl
  obtain ⟨hn1, hn2, hn3, hn4, hn5, hn6, hn7, hn8, hn9, hn10, hn11, hn12⟩ := MIy.nums hmi hmo
  have hlo := FFy.lo hmi.ff
  have hpg := hps.1
  have hp1 := hpg.1
  have hp2 := hpg.2.1
  have hp3 := hpg.2.2.1
  have hp4 := hpg.2.2.2.1
  have hp5 := hpg.2.2.2.2.1
  have hp6 := hpg.2.2.2.2.2.1
  have hp8 := hpg.2.2.2.2.2.2.2.1
  have hp9 := hpg.2.2.2.2.2.2.2.2
  have h29 : ¬ sp = 29 ∧ ¬ op = 29 := by omega
  have hht := hmi.1.2.2.2
  have hnm9 := hps.2.2.1.2.2.1
  have hnmE := hpy.1.1
  refine lv_iload_n hx hb dX5_stepAmongThings_0 rfl (lv_at hl 1 rfl) ?_
  refine lv_tableIn (tgt := 106) (off := 105) hx hb dX5_stepAmongThings_1 (by decide) (by decide) (by decide) (by decide) ?_
  refine lv_aload_n hx hb dX5_stepAmongThings_106 rfl (lv_at hl 0 rfl) ?_
  have hO : OKP G h0 a (upd (upd (upd (upd (upd (upd (upd (upd (upd (upd (upd (upd (upd (upd (upd (upd F 5 (nI cs)) 6 (nI rg)) 18 (nI ba)) 19 (nI tp)) 20 (nI pc)) 21 (nI (pc + 1))) 22 (nI on)) 23 5) 26 (nI ht)) 28 (nI lm)) 18 (nI ba)) 19 (nI tp)) 20 (nI pc)) 21 (nI (pc + 1))) 23 5) 26 (nI ht)) (updR (updR (updR (updR (updR (updR (updR R 5 (.ref pq)) 6 (.ref (it j9))) 7 (.ref (a sp))) 8 (.ref (a op))) 5 (.ref pq)) 7 (.ref (a sp))) 8 (.ref (a op))) Z B J K w := hO.to rfl
  obtain ⟨_, qr4, hqr5⟩ := hO.2.1 28 _ (sg_28 G h0 a _ _ _ _ _)
  refine pc_V0 (G := G) (As := []) (rest := []) hx hb hml hown hq hE hX pX0_al hP hD hS hA hl.1 (Y_getElement l G h0 a (upd (upd (upd (upd (upd (upd (upd (upd (upd (upd F 5 (nI cs)) 6 (nI rg)) 18 (nI ba)) 19 (nI tp)) 20 (nI pc)) 21 (nI (pc + 1))) 22 (nI on)) 23 5) 26 (nI ht)) 28 (nI lm)) (updR (updR (updR (updR R 5 (.ref pq)) 6 (.ref (it j9))) 7 (.ref (a sp))) 8 (.ref (a op))) Z B J K w y Sh nn on j9 ba pc tp sp op ht fl pq dr ml nd nm cp it s9 g rk cs rg hsp hmi hmo hZ hfl hflb hop hru hwp hps hrk hpy hle hO) (gV pw_675 pw_676 pw_677 pw_539 pw_657) hV_X5_getElement qr4 4 hqr5 rfl rfl rfl (Nat.le_of_ble_eq_true rfl) dX5_stepAmongThings_107 ⟨Nat.le_of_ble_eq_true rfl, Nat.le_of_ble_eq_true rfl⟩ ⟨Nat.le_of_ble_eq_true rfl, Nat.le_of_ble_eq_true rfl⟩ (fun v3 u1 H locs hw2 hP hD hS => ?_)
  obtain ⟨w, tp6, en7, nx8, z9, J10, ta11, ou12, fl13⟩ := u1
  obtain ⟨hw2, h14, h15, h16, h17, hO⟩ := hw2
  have h14 : StQ y ((B 19)) Sh nn (J10 sp) ht ((B 30)) ((B 16)) on j9 ba pc fl tp6 en7 nx8 z9 (J10 29) fl13 := h14
  have h15 : LoE J10 sp op := h15
  have h16 : ta11 5 = nI fl13 := h16
  have h17 : fl13 ≤ fl ∧ tp6 ≤ 32000 := h17
  obtain rfl : v3 = none := hw2
  have hO : OKP G h0 a (upd (upd (upd (upd (upd (upd (upd (upd (upd (upd F 5 (nI cs)) 6 (nI rg)) 18 (nI ba)) 19 (nI tp6)) 20 (nI pc)) 21 nx8) 22 (nI on)) 23 en7) 26 (nI ht)) 28 (nI lm)) (updR (updR (updR (updR R 5 (.ref pq)) 6 (.ref (it j9))) 7 (.ref (a sp))) 8 (.ref (a op))) z9 (updA (updA B 32 ou12) 33 ta11) J10 K w := hO.to rfl
  refine W.widen (k := 0) (n := 0) (Nat.le_of_ble_eq_true rfl) (Nat.le_of_ble_eq_true rfl) ?_
  refine W.eq (g2 := F0 m 110 ls []) rfl ?_
  refine lv_goto (tgt := 181) hx hb dX5_stepAmongThings_110 (by decide) ?_
  have hz18 : StG y it (B 16) (B 19) (mT (B 16) (B 30) fl on pc) pc tp6 en7 nx8 z9 J10 fl13 sp op ht (B 30) on ba (it j9) := (StG.ofQ2 h14 h15 (by rw [hop]; decide))
  have hz19 : ta11 5 = nI fl13 := h16
  have hz20 : fl13 ≤ fl ∧ tp6 ≤ 32000 ∧ (8 ≤ ht ∧ ht ≤ 3008) ∧ ba ≤ 32000 ∧ on ≤ 100 := (by omega)
  have hz21 : (sp = 34 ∧ op = 35) ∨ (sp = 35 ∧ op = 34) := hsp
  have hz22 : LoE J10 sp op := h15
  have hO : OKP G h0 a (upd (upd (upd (upd (upd (upd (upd (upd (upd (upd (upd F 5 (nI cs)) 6 (nI rg)) 18 (nI ba)) 19 (nI tp6)) 20 (nI pc)) 21 nx8) 22 (nI on)) 23 en7) 26 (nI ht)) 27 (F 27)) 28 (nI lm)) (updR (updR (updR (updR R 5 (.ref pq)) 6 (.ref (it j9))) 7 (.ref (a sp))) 8 (.ref (a op))) z9 (updA (updA (updA B 30 (B 30)) 32 ou12) 33 ta11) J10 K w := hO.to rfl
  exact W.vret hx hb hr (fun t99 ht99 hW99 => ⟨⟨_, (w, (tp6, en7, nx8, z9, J10, ta11, fl13, sp, op, ht, (F 27), ba, on, (it j9), (B 30), ou12)), rfl, ⟨rfl, hz18, hz19, hz20, hz21, hz22, hO⟩, by rw [ht99]; exact hP, hD⟩, hS.F ht99⟩) hS.2.2 dX5_stepAmongThings_181
set_option maxHeartbeats 40000000 in
set_option maxRecDepth 100000 in
theorem Y_th20 (l : Launch) (G : pT) (h0 : Nat) (a : Nat → Nat) (F : Nat → Int32) (R : Nat → Value) (Z : Int64) (B : Nat → Nat → Int32) (J : Nat → Nat → Int64) (K : PK) (w : va_W) (y : TY) (Sh : Nat → Nat) (nn : Nat → Nat) (on : Nat) (j9 : Nat) (ba : Nat) (pc : Nat) (tp : Nat) (sp : Nat) (op : Nat) (ht : Nat) (fl : Nat) (pq : Nat) (dr : Nat) (ml : Nat) (nd : Nat) (nm : Nat) (cp : Nat) (it : Nat → Nat) (s9 : Nat) (g : Nat → Nat → Nat) (rk : Nat → Nat) (cs : Nat) (rg : Nat) (lm : Nat) (hsp : (sp = 34 ∧ op = 35) ∨ (sp = 35 ∧ op = 34)) (hmi : MIy y (B 19) Sh nn (J sp) ht (B 30) (J 29) on j9 ba pc tp) (hmo : MOy y (B 16) (B 17) (B 18) (B 19) j9) (hZ : Z = 0) (hfl : B 33 5 = nI fl) (hflb : fl ≤ 20000) (hwp : WPr G K g) (hps : PgT G K g (a 1) pq dr ml nd nm cp it s9) (hrk : RkO K rk) (hpy : PrY y K B dr nd nm it cs rg) (hle : LoE J sp op) (hlm : lm ≤ 3008) (hcs9 : cs ≤ 10000) (hop : B 16 pc = nI 20) (hru : IRy y (B 16) (B 17) (B 18) pc j9 20) (hO : OKP G h0 a (upd (upd (upd (upd (upd (upd (upd (upd (upd (upd F 5 (nI cs)) 6 (nI rg)) 18 (nI ba)) 19 (nI tp)) 20 (nI pc)) 21 (nI (pc + 1))) 22 (nI on)) 23 5) 26 (nI ht)) 28 (nI lm)) (updR (updR (updR (updR R 5 (.ref pq)) 6 (.ref (it j9))) 7 (.ref (a sp))) 8 (.ref (a op))) Z B J K w) : PM l G pX0 yX5_stepAmongThings cX5_stepAmongThings 4 none ({ frames := 40, cells := 0, slots := 0, locals := 4000 }) [.ref (a 5), .int 20, .int (B 17 pc), .int (B 18 pc)] w (fun (v : Option Value) (u : va_W × (Nat × Int32 × Int32 × Int64 × (Nat → Nat → Int64) × (Nat → Int32) × Nat × Nat × Nat × Nat × Int32 × Nat × Nat × Nat × (Nat → Int32) × (Nat → Int32))) => v = none ∧ (StG y it (B 16) (B 19) (mT (B 16) (B 30) fl on pc) pc u.2.1 u.2.2.1 u.2.2.2.1 u.2.2.2.2.1 u.2.2.2.2.2.1 u.2.2.2.2.2.2.2.1 u.2.2.2.2.2.2.2.2.1 u.2.2.2.2.2.2.2.2.2.1 u.2.2.2.2.2.2.2.2.2.2.1 u.2.2.2.2.2.2.2.2.2.2.2.2.2.2.2.1 u.2.2.2.2.2.2.2.2.2.2.2.2.2.1 u.2.2.2.2.2.2.2.2.2.2.2.2.1 u.2.2.2.2.2.2.2.2.2.2.2.2.2.2.1) ∧ (u.2.2.2.2.2.2.1 5 = nI u.2.2.2.2.2.2.2.1) ∧ (u.2.2.2.2.2.2.2.1 ≤ fl ∧ u.2.1 ≤ 32000 ∧ (8 ≤ u.2.2.2.2.2.2.2.2.2.2.1 ∧ u.2.2.2.2.2.2.2.2.2.2.1 ≤ 3008) ∧ u.2.2.2.2.2.2.2.2.2.2.2.2.1 ≤ 32000 ∧ u.2.2.2.2.2.2.2.2.2.2.2.2.2.1 ≤ 100) ∧ ((u.2.2.2.2.2.2.2.2.1 = 34 ∧ u.2.2.2.2.2.2.2.2.2.1 = 35) ∨ (u.2.2.2.2.2.2.2.2.1 = 35 ∧ u.2.2.2.2.2.2.2.2.2.1 = 34)) ∧ (LoE u.2.2.2.2.2.1 u.2.2.2.2.2.2.2.2.1 u.2.2.2.2.2.2.2.2.2.1) ∧ (OKP G h0 a (upd (upd (upd (upd (upd (upd (upd (upd (upd (upd (upd F 5 (nI cs)) 6 (nI rg)) 18 (nI u.2.2.2.2.2.2.2.2.2.2.2.2.1)) 19 (nI u.2.1)) 20 (nI pc)) 21 u.2.2.2.1) 22 (nI u.2.2.2.2.2.2.2.2.2.2.2.2.2.1)) 23 u.2.2.1) 26 (nI u.2.2.2.2.2.2.2.2.2.2.1)) 27 u.2.2.2.2.2.2.2.2.2.2.2.1) 28 (nI lm)) (updR (updR (updR (updR R 5 (.ref pq)) 6 (.ref u.2.2.2.2.2.2.2.2.2.2.2.2.2.2.1)) 7 (.ref (a u.2.2.2.2.2.2.2.2.1))) 8 (.ref (a u.2.2.2.2.2.2.2.2.2.1))) u.2.2.2.2.1 (updA (updA (updA B 30 u.2.2.2.2.2.2.2.2.2.2.2.2.2.2.2.1) 32 u.2.2.2.2.2.2.2.2.2.2.2.2.2.2.2.2) 33 u.2.2.2.2.2.2.1) u.2.2.2.2.2.1 K u.1)) (fun u => u.1) := by
  intro sz
  refine Met.ofW (cc := cX5_stepAmongThings) (maxL := 4) (ret := none) (by decide) rfl ?_
  intro p e s m args below meth c s₁ B9 hml hv
  obtain ⟨rfl, hsz, hP, hD0, hE, hX⟩ := hv
  have hx := B9.exec
  have hb := B9.bytes
  have hr := B9.returns
  have hts := atoms_spec (ws := Cond.code yX5_stepAmongThings cX5_stepAmongThings 4 none :: pw) B9.pre
  have hq : ∀ w ∈ pw, w.before _ s = true := fun w h => hts w (List.mem_cons_of_mem _ h)
  have hown : s.vm.findClass RX5 = some m.cls := findClass_of_methodNamed B9.named
  have hlocks := B9.notSynchronized
  subst hsz
  have hD := hD0.self (sz := s.heap.size)
  have hA : ∀ q : Nat, s.heap.size ≤ q → va_A w s.heap.size q := fun q h => Or.inr h
  generalize va_A w s.heap.size = A at hD hE hA ⊢
  have hS : va_S A s.heap s.heap [] := va_S.rf
  have hl := lv_entry ([.ref (a 5), .int 20, .int (B 17 pc), .int (B 18 pc)]) (n := 4) (Nat.le_of_ble_eq_true rfl)
  rw [lg_entry_eq]
  generalize (lg_sl ([.ref (a 5), .int 20, .int (B 17 pc), .int (B 18 pc)]) ++ List.replicate (4 - (lg_sl ([.ref (a 5), .int 20, .int (B 17 pc), .int (B 18 pc)])).length) Slot.unset).toArray = ls at hl ⊢
  have hl : lv_has ls 4 [(0, .ref (a 5)), (1, .int 20), (2, .int (B 17 pc)), (3, .int (B 18 pc))] := hl
  obtain ⟨hn1, hn2, hn3, hn4, hn5, hn6, hn7, hn8, hn9, hn10, hn11, hn12⟩ := MIy.nums hmi hmo
  have hlo := FFy.lo hmi.ff
  have hpg := hps.1
  have hp1 := hpg.1
  have hp2 := hpg.2.1
  have hp3 := hpg.2.2.1
  have hp4 := hpg.2.2.2.1
  have hp5 := hpg.2.2.2.2.1
  have hp6 := hpg.2.2.2.2.2.1
  have hp8 := hpg.2.2.2.2.2.2.2.1
  have hp9 := hpg.2.2.2.2.2.2.2.2
  have h29 : ¬ sp = 29 ∧ ¬ op = 29 := by omega
  have hht := hmi.1.2.2.2
  have hnm9 := hps.2.2.1.2.2.1
  have hnmE := hpy.1.1
  refine lv_iload_n hx hb dX5_stepAmongThings_0 rfl (lv_at hl 1 rfl) ?_
  refine lv_tableIn (tgt := 113) (off := 112) hx hb dX5_stepAmongThings_1 (by decide) (by decide) (by decide) (by decide) ?_
  refine lv_aload_n hx hb dX5_stepAmongThings_113 rfl (lv_at hl 0 rfl) ?_
  have hO : OKP G h0 a (upd (upd (upd (upd (upd (upd (upd (upd (upd (upd (upd (upd (upd (upd (upd (upd F 5 (nI cs)) 6 (nI rg)) 18 (nI ba)) 19 (nI tp)) 20 (nI pc)) 21 (nI (pc + 1))) 22 (nI on)) 23 5) 26 (nI ht)) 28 (nI lm)) 18 (nI ba)) 19 (nI tp)) 20 (nI pc)) 21 (nI (pc + 1))) 23 5) 26 (nI ht)) (updR (updR (updR (updR (updR (updR (updR R 5 (.ref pq)) 6 (.ref (it j9))) 7 (.ref (a sp))) 8 (.ref (a op))) 5 (.ref pq)) 7 (.ref (a sp))) 8 (.ref (a op))) Z B J K w := hO.to rfl
  obtain ⟨_, qr4, hqr5⟩ := hO.2.1 28 _ (sg_28 G h0 a _ _ _ _ _)
  refine pc_V0 (G := G) (As := []) (rest := []) hx hb hml hown hq hE hX pX0_al hP hD hS hA hl.1 (Y_putElement l G h0 a (upd (upd (upd (upd (upd (upd (upd (upd (upd (upd F 5 (nI cs)) 6 (nI rg)) 18 (nI ba)) 19 (nI tp)) 20 (nI pc)) 21 (nI (pc + 1))) 22 (nI on)) 23 5) 26 (nI ht)) 28 (nI lm)) (updR (updR (updR (updR R 5 (.ref pq)) 6 (.ref (it j9))) 7 (.ref (a sp))) 8 (.ref (a op))) Z B J K w y Sh nn on j9 ba pc tp sp op ht fl pq dr ml nd nm cp it s9 g rk cs rg hsp hmi hmo hZ hfl hflb hop hru hwp hps hrk hpy hle hO) (gV pw_678 pw_679 pw_680 pw_539 pw_658) hV_X5_putElement qr4 4 hqr5 rfl rfl rfl (Nat.le_of_ble_eq_true rfl) dX5_stepAmongThings_114 ⟨Nat.le_of_ble_eq_true rfl, Nat.le_of_ble_eq_true rfl⟩ ⟨Nat.le_of_ble_eq_true rfl, Nat.le_of_ble_eq_true rfl⟩ (fun v3 u1 H locs hw2 hP hD hS => ?_)
  obtain ⟨w, tp6, en7, nx8, z9, J10, ta11, ou12, fl13⟩ := u1
  obtain ⟨hw2, h14, h15, h16, h17, hO⟩ := hw2
  have h14 : StQ y ((B 19)) Sh nn (J10 sp) ht ((B 30)) ((B 16)) on j9 ba pc fl tp6 en7 nx8 z9 (J10 29) fl13 := h14
  have h15 : LoE J10 sp op := h15
  have h16 : ta11 5 = nI fl13 := h16
  have h17 : fl13 ≤ fl ∧ tp6 ≤ 32000 := h17
  obtain rfl : v3 = none := hw2
  have hO : OKP G h0 a (upd (upd (upd (upd (upd (upd (upd (upd (upd (upd F 5 (nI cs)) 6 (nI rg)) 18 (nI ba)) 19 (nI tp6)) 20 (nI pc)) 21 nx8) 22 (nI on)) 23 en7) 26 (nI ht)) 28 (nI lm)) (updR (updR (updR (updR R 5 (.ref pq)) 6 (.ref (it j9))) 7 (.ref (a sp))) 8 (.ref (a op))) z9 (updA (updA B 32 ou12) 33 ta11) J10 K w := hO.to rfl
  refine W.widen (k := 0) (n := 0) (Nat.le_of_ble_eq_true rfl) (Nat.le_of_ble_eq_true rfl) ?_
  refine W.eq (g2 := F0 m 117 ls []) rfl ?_
  refine lv_goto (tgt := 181) hx hb dX5_stepAmongThings_117 (by decide) ?_
  have hz18 : StG y it (B 16) (B 19) (mT (B 16) (B 30) fl on pc) pc tp6 en7 nx8 z9 J10 fl13 sp op ht (B 30) on ba (it j9) := (StG.ofQ2 h14 h15 (by rw [hop]; decide))
  have hz19 : ta11 5 = nI fl13 := h16
  have hz20 : fl13 ≤ fl ∧ tp6 ≤ 32000 ∧ (8 ≤ ht ∧ ht ≤ 3008) ∧ ba ≤ 32000 ∧ on ≤ 100 := (by omega)
  have hz21 : (sp = 34 ∧ op = 35) ∨ (sp = 35 ∧ op = 34) := hsp
  have hz22 : LoE J10 sp op := h15
  have hO : OKP G h0 a (upd (upd (upd (upd (upd (upd (upd (upd (upd (upd (upd F 5 (nI cs)) 6 (nI rg)) 18 (nI ba)) 19 (nI tp6)) 20 (nI pc)) 21 nx8) 22 (nI on)) 23 en7) 26 (nI ht)) 27 (F 27)) 28 (nI lm)) (updR (updR (updR (updR R 5 (.ref pq)) 6 (.ref (it j9))) 7 (.ref (a sp))) 8 (.ref (a op))) z9 (updA (updA (updA B 30 (B 30)) 32 ou12) 33 ta11) J10 K w := hO.to rfl
  exact W.vret hx hb hr (fun t99 ht99 hW99 => ⟨⟨_, (w, (tp6, en7, nx8, z9, J10, ta11, fl13, sp, op, ht, (F 27), ba, on, (it j9), (B 30), ou12)), rfl, ⟨rfl, hz18, hz19, hz20, hz21, hz22, hO⟩, by rw [ht99]; exact hP, hD⟩, hS.F ht99⟩) hS.2.2 dX5_stepAmongThings_181
set_option maxHeartbeats 40000000 in
set_option maxRecDepth 100000 in
theorem Y_th21 (l : Launch) (G : pT) (h0 : Nat) (a : Nat → Nat) (F : Nat → Int32) (R : Nat → Value) (Z : Int64) (B : Nat → Nat → Int32) (J : Nat → Nat → Int64) (K : PK) (w : va_W) (y : TY) (Sh : Nat → Nat) (nn : Nat → Nat) (on : Nat) (j9 : Nat) (ba : Nat) (pc : Nat) (tp : Nat) (sp : Nat) (op : Nat) (ht : Nat) (fl : Nat) (pq : Nat) (dr : Nat) (ml : Nat) (nd : Nat) (nm : Nat) (cp : Nat) (it : Nat → Nat) (s9 : Nat) (g : Nat → Nat → Nat) (rk : Nat → Nat) (cs : Nat) (rg : Nat) (lm : Nat) (hsp : (sp = 34 ∧ op = 35) ∨ (sp = 35 ∧ op = 34)) (hmi : MIy y (B 19) Sh nn (J sp) ht (B 30) (J 29) on j9 ba pc tp) (hmo : MOy y (B 16) (B 17) (B 18) (B 19) j9) (hZ : Z = 0) (hfl : B 33 5 = nI fl) (hflb : fl ≤ 20000) (hwp : WPr G K g) (hps : PgT G K g (a 1) pq dr ml nd nm cp it s9) (hrk : RkO K rk) (hpy : PrY y K B dr nd nm it cs rg) (hle : LoE J sp op) (hlm : lm ≤ 3008) (hcs9 : cs ≤ 10000) (hop : B 16 pc = nI 21) (hru : IRy y (B 16) (B 17) (B 18) pc j9 21) (hO : OKP G h0 a (upd (upd (upd (upd (upd (upd (upd (upd (upd (upd F 5 (nI cs)) 6 (nI rg)) 18 (nI ba)) 19 (nI tp)) 20 (nI pc)) 21 (nI (pc + 1))) 22 (nI on)) 23 5) 26 (nI ht)) 28 (nI lm)) (updR (updR (updR (updR R 5 (.ref pq)) 6 (.ref (it j9))) 7 (.ref (a sp))) 8 (.ref (a op))) Z B J K w) : PM l G pX0 yX5_stepAmongThings cX5_stepAmongThings 4 none ({ frames := 40, cells := 0, slots := 0, locals := 4000 }) [.ref (a 5), .int 21, .int (B 17 pc), .int (B 18 pc)] w (fun (v : Option Value) (u : va_W × (Nat × Int32 × Int32 × Int64 × (Nat → Nat → Int64) × (Nat → Int32) × Nat × Nat × Nat × Nat × Int32 × Nat × Nat × Nat × (Nat → Int32) × (Nat → Int32))) => v = none ∧ (StG y it (B 16) (B 19) (mT (B 16) (B 30) fl on pc) pc u.2.1 u.2.2.1 u.2.2.2.1 u.2.2.2.2.1 u.2.2.2.2.2.1 u.2.2.2.2.2.2.2.1 u.2.2.2.2.2.2.2.2.1 u.2.2.2.2.2.2.2.2.2.1 u.2.2.2.2.2.2.2.2.2.2.1 u.2.2.2.2.2.2.2.2.2.2.2.2.2.2.2.1 u.2.2.2.2.2.2.2.2.2.2.2.2.2.1 u.2.2.2.2.2.2.2.2.2.2.2.2.1 u.2.2.2.2.2.2.2.2.2.2.2.2.2.2.1) ∧ (u.2.2.2.2.2.2.1 5 = nI u.2.2.2.2.2.2.2.1) ∧ (u.2.2.2.2.2.2.2.1 ≤ fl ∧ u.2.1 ≤ 32000 ∧ (8 ≤ u.2.2.2.2.2.2.2.2.2.2.1 ∧ u.2.2.2.2.2.2.2.2.2.2.1 ≤ 3008) ∧ u.2.2.2.2.2.2.2.2.2.2.2.2.1 ≤ 32000 ∧ u.2.2.2.2.2.2.2.2.2.2.2.2.2.1 ≤ 100) ∧ ((u.2.2.2.2.2.2.2.2.1 = 34 ∧ u.2.2.2.2.2.2.2.2.2.1 = 35) ∨ (u.2.2.2.2.2.2.2.2.1 = 35 ∧ u.2.2.2.2.2.2.2.2.2.1 = 34)) ∧ (LoE u.2.2.2.2.2.1 u.2.2.2.2.2.2.2.2.1 u.2.2.2.2.2.2.2.2.2.1) ∧ (OKP G h0 a (upd (upd (upd (upd (upd (upd (upd (upd (upd (upd (upd F 5 (nI cs)) 6 (nI rg)) 18 (nI u.2.2.2.2.2.2.2.2.2.2.2.2.1)) 19 (nI u.2.1)) 20 (nI pc)) 21 u.2.2.2.1) 22 (nI u.2.2.2.2.2.2.2.2.2.2.2.2.2.1)) 23 u.2.2.1) 26 (nI u.2.2.2.2.2.2.2.2.2.2.1)) 27 u.2.2.2.2.2.2.2.2.2.2.2.1) 28 (nI lm)) (updR (updR (updR (updR R 5 (.ref pq)) 6 (.ref u.2.2.2.2.2.2.2.2.2.2.2.2.2.2.1)) 7 (.ref (a u.2.2.2.2.2.2.2.2.1))) 8 (.ref (a u.2.2.2.2.2.2.2.2.2.1))) u.2.2.2.2.1 (updA (updA (updA B 30 u.2.2.2.2.2.2.2.2.2.2.2.2.2.2.2.1) 32 u.2.2.2.2.2.2.2.2.2.2.2.2.2.2.2.2) 33 u.2.2.2.2.2.2.1) u.2.2.2.2.2.1 K u.1)) (fun u => u.1) := by
  intro sz
  refine Met.ofW (cc := cX5_stepAmongThings) (maxL := 4) (ret := none) (by decide) rfl ?_
  intro p e s m args below meth c s₁ B9 hml hv
  obtain ⟨rfl, hsz, hP, hD0, hE, hX⟩ := hv
  have hx := B9.exec
  have hb := B9.bytes
  have hr := B9.returns
  have hts := atoms_spec (ws := Cond.code yX5_stepAmongThings cX5_stepAmongThings 4 none :: pw) B9.pre
  have hq : ∀ w ∈ pw, w.before _ s = true := fun w h => hts w (List.mem_cons_of_mem _ h)
  have hown : s.vm.findClass RX5 = some m.cls := findClass_of_methodNamed B9.named
  have hlocks := B9.notSynchronized
  subst hsz
  have hD := hD0.self (sz := s.heap.size)
  have hA : ∀ q : Nat, s.heap.size ≤ q → va_A w s.heap.size q := fun q h => Or.inr h
  generalize va_A w s.heap.size = A at hD hE hA ⊢
  have hS : va_S A s.heap s.heap [] := va_S.rf
  have hl := lv_entry ([.ref (a 5), .int 21, .int (B 17 pc), .int (B 18 pc)]) (n := 4) (Nat.le_of_ble_eq_true rfl)
  rw [lg_entry_eq]
  generalize (lg_sl ([.ref (a 5), .int 21, .int (B 17 pc), .int (B 18 pc)]) ++ List.replicate (4 - (lg_sl ([.ref (a 5), .int 21, .int (B 17 pc), .int (B 18 pc)])).length) Slot.unset).toArray = ls at hl ⊢
  have hl : lv_has ls 4 [(0, .ref (a 5)), (1, .int 21), (2, .int (B 17 pc)), (3, .int (B 18 pc))] := hl
  obtain ⟨hn1, hn2, hn3, hn4, hn5, hn6, hn7, hn8, hn9, hn10, hn11, hn12⟩ := MIy.nums hmi hmo
  have hlo := FFy.lo hmi.ff
  have hpg := hps.1
  have hp1 := hpg.1
  have hp2 := hpg.2.1
  have hp3 := hpg.2.2.1
  have hp4 := hpg.2.2.2.1
  have hp5 := hpg.2.2.2.2.1
  have hp6 := hpg.2.2.2.2.2.1
  have hp8 := hpg.2.2.2.2.2.2.2.1
  have hp9 := hpg.2.2.2.2.2.2.2.2
  have h29 : ¬ sp = 29 ∧ ¬ op = 29 := by omega
  have hht := hmi.1.2.2.2
  have hnm9 := hps.2.2.1.2.2.1
  have hnmE := hpy.1.1
  obtain ⟨c9, r1, r2, r3, r4⟩ := hru
  rw [r1] at hl
  have hrmx := MOy.room hmo r4 (by omega) (by omega)
  have hrm9 : (yA y j9 pc).2.2.2.length + 1 + ysl y j9 ≤ 319 := hrmx
  have hhe := MOy.held hmo hn4 hn5 hmi.ff.1.1 (Or.inl hop)
  refine lv_iload_n hx hb dX5_stepAmongThings_0 rfl (lv_at hl 1 rfl) ?_
  refine lv_tableIn (tgt := 120) (off := 119) hx hb dX5_stepAmongThings_1 (by decide) (by decide) (by decide) (by decide) ?_
  refine lv_aload_n hx hb dX5_stepAmongThings_120 rfl (lv_at hl 0 rfl) ?_
  have hO : OKW G h0 a (upd (upd (upd (upd (upd (upd (upd (upd (upd (upd (upd F 5 (nI cs)) 6 (nI rg)) 18 (nI ba)) 19 (nI tp)) 20 (nI pc)) 21 (nI (pc + 1))) 22 (nI on)) 23 5) 26 (nI ht)) 28 (nI lm)) 23 5) (updR (updR (updR (updR R 5 (.ref pq)) 6 (.ref (it j9))) 7 (.ref (a sp))) 8 (.ref (a op))) Z B J K.1 (fun q99 x99 => x99 = rep G a K q99) w := hO.to rfl
  obtain ⟨_, qr4, hqr5⟩ := hO.2.1 28 _ (sg_28 G h0 a _ _ _ _ _)
  refine pc_V0 (G := G) (As := []) (rest := []) hx hb hml hown hq hE hX pX0_al hP hD hS hA hl.1 (Y_burn l G h0 a (upd (upd (upd (upd (upd (upd (upd (upd (upd (upd F 5 (nI cs)) 6 (nI rg)) 18 (nI ba)) 19 (nI tp)) 20 (nI pc)) 21 (nI (pc + 1))) 22 (nI on)) 23 5) 26 (nI ht)) 28 (nI lm)) (updR (updR (updR (updR R 5 (.ref pq)) 6 (.ref (it j9))) 7 (.ref (a sp))) 8 (.ref (a op))) Z B J K.1 (fun q99 x99 => x99 = rep G a K q99) w fl hfl (by omega) hO) (gV pw_567 pw_568 pw_569 pw_539 pw_560) hV_X5_burn qr4 4 hqr5 rfl rfl rfl (Nat.le_of_ble_eq_true rfl) dX5_stepAmongThings_121 ⟨Nat.le_of_ble_eq_true rfl, Nat.le_of_ble_eq_true rfl⟩ ⟨Nat.le_of_ble_eq_true rfl, Nat.le_of_ble_eq_true rfl⟩ (fun v3 u1 H locs hw2 hP hD hS => ?_)
  obtain ⟨w, r6, fl7, en8, ta9⟩ := u1
  obtain ⟨hw2, h10, h11, h12, h13, hO⟩ := hw2
  have h10 : r6 ≤ 1 := h10
  have h11 : BuQ fl r6 en8 fl7 := h11
  have h12 : ta9 5 = nI fl7 := h12
  have h13 : fl7 ≤ fl := h13
  obtain rfl : v3 = some (.int (nI r6)) := hw2
  have hO : OKP G h0 a (upd (upd (upd (upd (upd (upd (upd (upd (upd (upd F 5 (nI cs)) 6 (nI rg)) 18 (nI ba)) 19 (nI tp)) 20 (nI pc)) 21 (nI (pc + 1))) 22 (nI on)) 23 en8) 26 (nI ht)) 28 (nI lm)) (updR (updR (updR (updR R 5 (.ref pq)) 6 (.ref (it j9))) 7 (.ref (a sp))) 8 (.ref (a op))) Z (updA B 33 ta9) J K w := hO.to rfl
  refine W.widen (k := 0) (n := 0) (Nat.le_of_ble_eq_true rfl) (Nat.le_of_ble_eq_true rfl) ?_
  refine W.eq (g2 := F0 m 124 ls [.int (nI r6)]) rfl ?_
  refine lv_if_eq (tgt := 181) hx hb dX5_stepAmongThings_124 (by decide) (fun c14 => ?_) (fun c14 => ?_)
  · have n15 : r6 = 0 := (nI_eq (a := r6) (b := 0) (by omega) (by omega)).mp c14
    have hne5 : ¬ en8 = 5 := by rcases h11 with z | z; (exact absurd z.1 (by omega)); (rw [z.2.1]; decide)
    have hz16 : StG y it (B 16) (B 19) (mT (B 16) (B 30) fl on pc) pc tp en8 (nI (pc + 1)) Z J fl7 sp op ht (B 30) on ba (it j9) := (StG.over hne5 hZ)
    have hz17 : ta9 5 = nI fl7 := h12
    have hz18 : fl7 ≤ fl ∧ tp ≤ 32000 ∧ (8 ≤ ht ∧ ht ≤ 3008) ∧ ba ≤ 32000 ∧ on ≤ 100 := (by omega)
    have hz19 : (sp = 34 ∧ op = 35) ∨ (sp = 35 ∧ op = 34) := hsp
    have hz20 : LoE J sp op := hle
    have hO : OKP G h0 a (upd (upd (upd (upd (upd (upd (upd (upd (upd (upd (upd F 5 (nI cs)) 6 (nI rg)) 18 (nI ba)) 19 (nI tp)) 20 (nI pc)) 21 (nI (pc + 1))) 22 (nI on)) 23 en8) 26 (nI ht)) 27 (F 27)) 28 (nI lm)) (updR (updR (updR (updR R 5 (.ref pq)) 6 (.ref (it j9))) 7 (.ref (a sp))) 8 (.ref (a op))) Z (updA (updA (updA B 30 (B 30)) 32 (B 32)) 33 ta9) J K w := hO.to rfl
    exact W.vret hx hb hr (fun t99 ht99 hW99 => ⟨⟨_, (w, (tp, en8, (nI (pc + 1)), Z, J, ta9, fl7, sp, op, ht, (F 27), ba, on, (it j9), (B 30), (B 32))), rfl, ⟨rfl, hz16, hz17, hz18, hz19, hz20, hO⟩, by rw [ht99]; exact hP, hD⟩, hS.F ht99⟩) hS.2.2 dX5_stepAmongThings_181
  · have n21 : ¬ (r6 = 0) := fun h9 => c14 ((nI_eq (a := r6) (b := 0) (by omega) (by omega)).mpr h9)
    obtain ⟨_, hen, hfb⟩ := Or.resolve_right h11 (fun z => by have := z.1; omega)
    subst hen
    refine lv_aload_n hx hb dX5_stepAmongThings_127 rfl (lv_at hl 0 rfl) ?_
    refine lv_iload_n hx hb dX5_stepAmongThings_128 rfl (lv_at hl 2 rfl) ?_
    have hO : OKP G h0 a (upd (upd (upd (upd (upd (upd (upd (upd (upd (upd (upd (upd (upd (upd (upd (upd (upd (upd (upd F 5 (nI cs)) 6 (nI rg)) 18 (nI ba)) 19 (nI tp)) 20 (nI pc)) 21 (nI (pc + 1))) 22 (nI on)) 23 5) 26 (nI ht)) 28 (nI lm)) 5 (nI cs)) 6 (nI rg)) 18 (nI ba)) 19 (nI tp)) 20 (nI pc)) 22 (nI on)) 23 5) 26 (nI ht)) 28 (nI lm)) (updR (updR (updR (updR (updR (updR (updR (updR R 5 (.ref pq)) 6 (.ref (it j9))) 7 (.ref (a sp))) 8 (.ref (a op))) 5 (.ref pq)) 6 (.ref (it j9))) 7 (.ref (a sp))) 8 (.ref (a op))) Z (updA B 33 ta9) J K w := hO.to rfl
    obtain ⟨_, qr25, hqr26⟩ := hO.2.1 28 _ (sg_28 G h0 a _ _ _ _ _)
    refine pc_V0 (G := G) (As := [.int (nI c9)]) (rest := []) hx hb hml hown hq hE hX pX0_al hP hD hS hA hl.1 (Y_makeObject l G h0 a (upd (upd (upd (upd (upd (upd (upd (upd (upd (upd F 5 (nI cs)) 6 (nI rg)) 18 (nI ba)) 19 (nI tp)) 20 (nI pc)) 21 (nI (pc + 1))) 22 (nI on)) 23 5) 26 (nI ht)) 28 (nI lm)) (updR (updR (updR (updR R 5 (.ref pq)) 6 (.ref (it j9))) 7 (.ref (a sp))) 8 (.ref (a op))) Z (updA B 33 ta9) J K w y Sh nn on j9 ba pc tp sp op ht ((yA y j9 pc).2.2.2) pq dr ml nd nm cp it s9 g rk cs rg fl7 lm c9 (1 + yfd y c9) hsp (hmi.ma hmo) hle hhe hwp hps hrk hpy hcs9 h12 hlm (Or.inl ⟨r2, rfl, fun i hi => hpy.2.2.2.2.2.2.1 c9 i hi⟩) (fun _ => r3) (PrY.self hpy (Or.inl r3)) (by omega) (by have := hpy.2.2.2.1 c9 r3; obtain ⟨q8, lq8, _, _, _, h4⟩ := this; omega) r2 hO) (gV pw_587 pw_588 pw_589 pw_539 pw_559) hV_X5_makeObject qr25 4 hqr26 rfl rfl rfl (Nat.le_of_ble_eq_true rfl) dX5_stepAmongThings_129 ⟨Nat.le_of_ble_eq_true rfl, Nat.le_of_ble_eq_true rfl⟩ ⟨Nat.le_of_ble_eq_true rfl, Nat.le_of_ble_eq_true rfl⟩ (fun v24 u22 H locs hw23 hP hD hS => ?_)
    obtain ⟨w, tp27, en28, J29, ta30, sp31, op32, ht33, ot34, S35, n36⟩ := u22
    obtain ⟨hw23, h37, h38, h39, h40, h41, hO⟩ := hw23
    have h37 : (en28 = 3 ∧ tp27 = tp) ∨ (en28 = 5 ∧ tp27 = tp + 1 ∧ LoE J29 sp31 op32 ∧ MIa y ((B 19)) S35 n36 (J29 sp31) ht33 ((B 30)) (J29 29) on j9 ba pc (c9 :: ((yA y j9 pc).2.2.2)) (tp + 1)) := h37
    have h38 : ta30 5 = nI fl7 := h38
    have h39 : (sp31 = 34 ∧ op32 = 35) ∨ (sp31 = 35 ∧ op32 = 34) := h39
    have h40 : (8 ≤ ht33 ∧ ht33 ≤ 3008) ∧ tp27 ≤ 32000 := h40
    have h41 : LoE J29 sp31 op32 := h41
    obtain rfl : v24 = none := hw23
    have hO : OKP G h0 a (upd (upd (upd (upd (upd (upd (upd (upd (upd (upd (upd F 5 (nI cs)) 6 (nI rg)) 18 (nI ba)) 19 (nI tp27)) 20 (nI pc)) 21 (nI (pc + 1))) 22 (nI on)) 23 en28) 26 (nI ht33)) 27 ot34) 28 (nI lm)) (updR (updR (updR (updR R 5 (.ref pq)) 6 (.ref (it j9))) 7 (.ref (a sp31))) 8 (.ref (a op32))) Z (updA B 33 ta30) J29 K w := hO.to rfl
    refine W.widen (k := 0) (n := 0) (Nat.le_of_ble_eq_true rfl) (Nat.le_of_ble_eq_true rfl) ?_
    refine W.eq (g2 := F0 m 132 ls []) rfl ?_
    refine lv_goto (tgt := 181) hx hb dX5_stepAmongThings_132 (by decide) ?_
    have hz42 : StG y it (B 16) (B 19) (mT (B 16) (B 30) fl on pc) pc tp27 en28 (nI (pc + 1)) Z J29 fl7 sp31 op32 ht33 (B 30) on ba (it j9) := (StG.made h37 hmo r4 hfb hZ)
    have hz43 : ta30 5 = nI fl7 := h38
    have hz44 : fl7 ≤ fl ∧ tp27 ≤ 32000 ∧ (8 ≤ ht33 ∧ ht33 ≤ 3008) ∧ ba ≤ 32000 ∧ on ≤ 100 := (by omega)
    have hz45 : (sp31 = 34 ∧ op32 = 35) ∨ (sp31 = 35 ∧ op32 = 34) := h39
    have hz46 : LoE J29 sp31 op32 := h41
    have hO : OKP G h0 a (upd (upd (upd (upd (upd (upd (upd (upd (upd (upd (upd F 5 (nI cs)) 6 (nI rg)) 18 (nI ba)) 19 (nI tp27)) 20 (nI pc)) 21 (nI (pc + 1))) 22 (nI on)) 23 en28) 26 (nI ht33)) 27 ot34) 28 (nI lm)) (updR (updR (updR (updR R 5 (.ref pq)) 6 (.ref (it j9))) 7 (.ref (a sp31))) 8 (.ref (a op32))) Z (updA (updA (updA B 30 (B 30)) 32 (B 32)) 33 ta30) J29 K w := hO.to rfl
    exact W.vret hx hb hr (fun t99 ht99 hW99 => ⟨⟨_, (w, (tp27, en28, (nI (pc + 1)), Z, J29, ta30, fl7, sp31, op32, ht33, ot34, ba, on, (it j9), (B 30), (B 32))), rfl, ⟨rfl, hz42, hz43, hz44, hz45, hz46, hO⟩, by rw [ht99]; exact hP, hD⟩, hS.F ht99⟩) hS.2.2 dX5_stepAmongThings_181
set_option maxHeartbeats 40000000 in
set_option maxRecDepth 100000 in
theorem Y_th22 (l : Launch) (G : pT) (h0 : Nat) (a : Nat → Nat) (F : Nat → Int32) (R : Nat → Value) (Z : Int64) (B : Nat → Nat → Int32) (J : Nat → Nat → Int64) (K : PK) (w : va_W) (y : TY) (Sh : Nat → Nat) (nn : Nat → Nat) (on : Nat) (j9 : Nat) (ba : Nat) (pc : Nat) (tp : Nat) (sp : Nat) (op : Nat) (ht : Nat) (fl : Nat) (pq : Nat) (dr : Nat) (ml : Nat) (nd : Nat) (nm : Nat) (cp : Nat) (it : Nat → Nat) (s9 : Nat) (g : Nat → Nat → Nat) (rk : Nat → Nat) (cs : Nat) (rg : Nat) (lm : Nat) (hsp : (sp = 34 ∧ op = 35) ∨ (sp = 35 ∧ op = 34)) (hmi : MIy y (B 19) Sh nn (J sp) ht (B 30) (J 29) on j9 ba pc tp) (hmo : MOy y (B 16) (B 17) (B 18) (B 19) j9) (hZ : Z = 0) (hfl : B 33 5 = nI fl) (hflb : fl ≤ 20000) (hwp : WPr G K g) (hps : PgT G K g (a 1) pq dr ml nd nm cp it s9) (hrk : RkO K rk) (hpy : PrY y K B dr nd nm it cs rg) (hle : LoE J sp op) (hlm : lm ≤ 3008) (hcs9 : cs ≤ 10000) (hop : B 16 pc = nI 22) (hru : IRy y (B 16) (B 17) (B 18) pc j9 22) (hO : OKP G h0 a (upd (upd (upd (upd (upd (upd (upd (upd (upd (upd F 5 (nI cs)) 6 (nI rg)) 18 (nI ba)) 19 (nI tp)) 20 (nI pc)) 21 (nI (pc + 1))) 22 (nI on)) 23 5) 26 (nI ht)) 28 (nI lm)) (updR (updR (updR (updR R 5 (.ref pq)) 6 (.ref (it j9))) 7 (.ref (a sp))) 8 (.ref (a op))) Z B J K w) : PM l G pX0 yX5_stepAmongThings cX5_stepAmongThings 4 none ({ frames := 40, cells := 0, slots := 0, locals := 4000 }) [.ref (a 5), .int 22, .int (B 17 pc), .int (B 18 pc)] w (fun (v : Option Value) (u : va_W × (Nat × Int32 × Int32 × Int64 × (Nat → Nat → Int64) × (Nat → Int32) × Nat × Nat × Nat × Nat × Int32 × Nat × Nat × Nat × (Nat → Int32) × (Nat → Int32))) => v = none ∧ (StG y it (B 16) (B 19) (mT (B 16) (B 30) fl on pc) pc u.2.1 u.2.2.1 u.2.2.2.1 u.2.2.2.2.1 u.2.2.2.2.2.1 u.2.2.2.2.2.2.2.1 u.2.2.2.2.2.2.2.2.1 u.2.2.2.2.2.2.2.2.2.1 u.2.2.2.2.2.2.2.2.2.2.1 u.2.2.2.2.2.2.2.2.2.2.2.2.2.2.2.1 u.2.2.2.2.2.2.2.2.2.2.2.2.2.1 u.2.2.2.2.2.2.2.2.2.2.2.2.1 u.2.2.2.2.2.2.2.2.2.2.2.2.2.2.1) ∧ (u.2.2.2.2.2.2.1 5 = nI u.2.2.2.2.2.2.2.1) ∧ (u.2.2.2.2.2.2.2.1 ≤ fl ∧ u.2.1 ≤ 32000 ∧ (8 ≤ u.2.2.2.2.2.2.2.2.2.2.1 ∧ u.2.2.2.2.2.2.2.2.2.2.1 ≤ 3008) ∧ u.2.2.2.2.2.2.2.2.2.2.2.2.1 ≤ 32000 ∧ u.2.2.2.2.2.2.2.2.2.2.2.2.2.1 ≤ 100) ∧ ((u.2.2.2.2.2.2.2.2.1 = 34 ∧ u.2.2.2.2.2.2.2.2.2.1 = 35) ∨ (u.2.2.2.2.2.2.2.2.1 = 35 ∧ u.2.2.2.2.2.2.2.2.2.1 = 34)) ∧ (LoE u.2.2.2.2.2.1 u.2.2.2.2.2.2.2.2.1 u.2.2.2.2.2.2.2.2.2.1) ∧ (OKP G h0 a (upd (upd (upd (upd (upd (upd (upd (upd (upd (upd (upd F 5 (nI cs)) 6 (nI rg)) 18 (nI u.2.2.2.2.2.2.2.2.2.2.2.2.1)) 19 (nI u.2.1)) 20 (nI pc)) 21 u.2.2.2.1) 22 (nI u.2.2.2.2.2.2.2.2.2.2.2.2.2.1)) 23 u.2.2.1) 26 (nI u.2.2.2.2.2.2.2.2.2.2.1)) 27 u.2.2.2.2.2.2.2.2.2.2.2.1) 28 (nI lm)) (updR (updR (updR (updR R 5 (.ref pq)) 6 (.ref u.2.2.2.2.2.2.2.2.2.2.2.2.2.2.1)) 7 (.ref (a u.2.2.2.2.2.2.2.2.1))) 8 (.ref (a u.2.2.2.2.2.2.2.2.2.1))) u.2.2.2.2.1 (updA (updA (updA B 30 u.2.2.2.2.2.2.2.2.2.2.2.2.2.2.2.1) 32 u.2.2.2.2.2.2.2.2.2.2.2.2.2.2.2.2) 33 u.2.2.2.2.2.2.1) u.2.2.2.2.2.1 K u.1)) (fun u => u.1) := by
  intro sz
  refine Met.ofW (cc := cX5_stepAmongThings) (maxL := 4) (ret := none) (by decide) rfl ?_
  intro p e s m args below meth c s₁ B9 hml hv
  obtain ⟨rfl, hsz, hP, hD0, hE, hX⟩ := hv
  have hx := B9.exec
  have hb := B9.bytes
  have hr := B9.returns
  have hts := atoms_spec (ws := Cond.code yX5_stepAmongThings cX5_stepAmongThings 4 none :: pw) B9.pre
  have hq : ∀ w ∈ pw, w.before _ s = true := fun w h => hts w (List.mem_cons_of_mem _ h)
  have hown : s.vm.findClass RX5 = some m.cls := findClass_of_methodNamed B9.named
  have hlocks := B9.notSynchronized
  subst hsz
  have hD := hD0.self (sz := s.heap.size)
  have hA : ∀ q : Nat, s.heap.size ≤ q → va_A w s.heap.size q := fun q h => Or.inr h
  generalize va_A w s.heap.size = A at hD hE hA ⊢
  have hS : va_S A s.heap s.heap [] := va_S.rf
  have hl := lv_entry ([.ref (a 5), .int 22, .int (B 17 pc), .int (B 18 pc)]) (n := 4) (Nat.le_of_ble_eq_true rfl)
  rw [lg_entry_eq]
  generalize (lg_sl ([.ref (a 5), .int 22, .int (B 17 pc), .int (B 18 pc)]) ++ List.replicate (4 - (lg_sl ([.ref (a 5), .int 22, .int (B 17 pc), .int (B 18 pc)])).length) Slot.unset).toArray = ls at hl ⊢
  have hl : lv_has ls 4 [(0, .ref (a 5)), (1, .int 22), (2, .int (B 17 pc)), (3, .int (B 18 pc))] := hl
  obtain ⟨hn1, hn2, hn3, hn4, hn5, hn6, hn7, hn8, hn9, hn10, hn11, hn12⟩ := MIy.nums hmi hmo
  have hlo := FFy.lo hmi.ff
  have hpg := hps.1
  have hp1 := hpg.1
  have hp2 := hpg.2.1
  have hp3 := hpg.2.2.1
  have hp4 := hpg.2.2.2.1
  have hp5 := hpg.2.2.2.2.1
  have hp6 := hpg.2.2.2.2.2.1
  have hp8 := hpg.2.2.2.2.2.2.2.1
  have hp9 := hpg.2.2.2.2.2.2.2.2
  have h29 : ¬ sp = 29 ∧ ¬ op = 29 := by omega
  have hht := hmi.1.2.2.2
  have hnm9 := hps.2.2.1.2.2.1
  have hnmE := hpy.1.1
  obtain ⟨t9, u9, os, r1, r2, r3, r4⟩ := hru
  rw [r1] at hl
  obtain ⟨hv1, hv2, hv3, hv4⟩ := FFy.pop hmi.ff r3
  have hhe := MOy.held hmo hn4 hn5 hmi.ff.1.1 (Or.inr (Or.inl hop))
  have hma9 : MIa y (B 19) Sh nn (J sp) ht (B 30) (J 29) on j9 ba pc os (tp - 1) := MIa.less (t := t9) (by rw [← r3]; exact hmi.ma hmo)
  refine lv_iload_n hx hb dX5_stepAmongThings_0 rfl (lv_at hl 1 rfl) ?_
  refine lv_tableIn (tgt := 135) (off := 134) hx hb dX5_stepAmongThings_1 (by decide) (by decide) (by decide) (by decide) ?_
  refine lv_aload_n hx hb dX5_stepAmongThings_135 rfl (lv_at hl 0 rfl) ?_
  refine lv_iload_n hx hb dX5_stepAmongThings_136 rfl (lv_at hl 2 rfl) ?_
  refine lv_aload_n hx hb dX5_stepAmongThings_137 rfl (lv_at hl 0 rfl) ?_
  have hO : OKW G h0 a (upd (upd (upd (upd (upd (upd (upd (upd (upd (upd (upd F 5 (nI cs)) 6 (nI rg)) 18 (nI ba)) 19 (nI tp)) 20 (nI pc)) 21 (nI (pc + 1))) 22 (nI on)) 23 5) 26 (nI ht)) 28 (nI lm)) 19 (nI tp)) (updR (updR (updR (updR R 5 (.ref pq)) 6 (.ref (it j9))) 7 (.ref (a sp))) 8 (.ref (a op))) Z B J K.1 (fun q99 x99 => x99 = rep G a K q99) w := hO.to rfl
  obtain ⟨_, qr4, hqr5⟩ := hO.2.1 28 _ (sg_28 G h0 a _ _ _ _ _)
  refine pc_V0 (G := G) (As := []) (rest := [.int (nI (64 + u9)), .ref (a 5)]) hx hb hml hown hq hE hX pX0_al hP hD hS hA hl.1 (Y_pop l G h0 a (upd (upd (upd (upd (upd (upd (upd (upd (upd (upd F 5 (nI cs)) 6 (nI rg)) 18 (nI ba)) 19 (nI tp)) 20 (nI pc)) 21 (nI (pc + 1))) 22 (nI on)) 23 5) 26 (nI ht)) 28 (nI lm)) (updR (updR (updR (updR R 5 (.ref pq)) 6 (.ref (it j9))) 7 (.ref (a sp))) 8 (.ref (a op))) Z B J K.1 (fun q99 x99 => x99 = rep G a K q99) w tp (by omega) hO) (gV pw_598 pw_599 pw_600 pw_539 pw_595) hV_X5_pop qr4 4 hqr5 rfl rfl rfl (Nat.le_of_ble_eq_true rfl) dX5_stepAmongThings_138 ⟨Nat.le_of_ble_eq_true rfl, Nat.le_of_ble_eq_true rfl⟩ ⟨Nat.le_of_ble_eq_true rfl, Nat.le_of_ble_eq_true rfl⟩ (fun v3 u1 H locs hw2 hP hD hS => ?_)
  obtain ⟨w, _⟩ := u1
  obtain ⟨hw2, hO⟩ := hw2
  obtain rfl : v3 = some (.long ((J 29) (tp - 1))) := hw2
  have hO : OKP G h0 a (upd (upd (upd (upd (upd (upd (upd (upd (upd (upd F 5 (nI cs)) 6 (nI rg)) 18 (nI ba)) 19 (nI (tp - 1))) 20 (nI pc)) 21 (nI (pc + 1))) 22 (nI on)) 23 5) 26 (nI ht)) 28 (nI lm)) (updR (updR (updR (updR R 5 (.ref pq)) 6 (.ref (it j9))) 7 (.ref (a sp))) 8 (.ref (a op))) Z B J K w := hO.to rfl
  refine W.widen (k := 0) (n := 0) (Nat.le_of_ble_eq_true rfl) (Nat.le_of_ble_eq_true rfl) ?_
  refine W.eq (g2 := F0 m 141 ls [.long ((J 29) (tp - 1)), .int (nI (64 + u9)), .ref (a 5)]) rfl ?_
  refine lv_l2i hx hb dX5_stepAmongThings_141 rfl ?_
  refine lv_topi (fun x6 e7 => ?_)
  have hO : OKP G h0 a (upd (upd (upd (upd (upd (upd (upd (upd (upd (upd (upd (upd (upd (upd (upd (upd (upd (upd (upd F 5 (nI cs)) 6 (nI rg)) 18 (nI ba)) 19 (nI (tp - 1))) 20 (nI pc)) 21 (nI (pc + 1))) 22 (nI on)) 23 5) 26 (nI ht)) 28 (nI lm)) 5 (nI cs)) 6 (nI rg)) 18 (nI ba)) 19 (nI (tp - 1))) 20 (nI pc)) 22 (nI on)) 23 5) 26 (nI ht)) 28 (nI lm)) (updR (updR (updR (updR (updR (updR (updR (updR R 5 (.ref pq)) 6 (.ref (it j9))) 7 (.ref (a sp))) 8 (.ref (a op))) 5 (.ref pq)) 6 (.ref (it j9))) 7 (.ref (a sp))) 8 (.ref (a op))) Z B J K w := hO.to rfl
  obtain ⟨_, qr11, hqr12⟩ := hO.2.1 28 _ (sg_28 G h0 a _ _ _ _ _)
  refine pc_V0 (G := G) (As := [.int (nI (64 + u9)), .int x6]) (rest := []) hx hb hml hown hq hE hX pX0_al hP hD hS hA hl.1 (Y_makeArray l G h0 a (upd (upd (upd (upd (upd (upd (upd (upd (upd (upd F 5 (nI cs)) 6 (nI rg)) 18 (nI ba)) 19 (nI (tp - 1))) 20 (nI pc)) 21 (nI (pc + 1))) 22 (nI on)) 23 5) 26 (nI ht)) 28 (nI lm)) (updR (updR (updR (updR R 5 (.ref pq)) 6 (.ref (it j9))) 7 (.ref (a sp))) 8 (.ref (a op))) Z B J K w y Sh nn on j9 ba pc (tp - 1) sp op ht os pq dr ml nd nm cp it s9 g rk cs rg fl lm (64 + u9) x6 hsp hma9 hle hhe hwp hps hrk hpy hcs9 hfl hflb hlm ⟨by omega, by omega, by unfold RfT; omega⟩ (PrY.self hpy (Or.inr ⟨by omega, by omega⟩)) (by omega) hO) (gV pw_681 pw_682 pw_683 pw_539 pw_660) hV_X5_makeArray qr11 4 hqr12 rfl rfl rfl (Nat.le_of_ble_eq_true rfl) dX5_stepAmongThings_142 ⟨Nat.le_of_ble_eq_true rfl, Nat.le_of_ble_eq_true rfl⟩ ⟨Nat.le_of_ble_eq_true rfl, Nat.le_of_ble_eq_true rfl⟩ (fun v10 u8 H locs hw9 hP hD hS => ?_)
  obtain ⟨w, tp13, en14, J15, ta16, sp17, op18, ht19, ot20, S21, n22, z23, fl24⟩ := u8
  obtain ⟨hw9, h25, h26, h27, h28, h29, hO⟩ := hw9
  have h25 : (¬ en14 = 5 ∧ z23 = Z) ∨ (en14 = 5 ∧ LoE J15 sp17 op18 ∧ fl = fl24 + 1 ∧ ((z23 = rfV 6 ∧ tp13 = (tp - 1) ∧ MIa y ((B 19)) S21 n22 (J15 sp17) ht19 ((B 30)) (J15 29) on j9 ba pc os (tp - 1)) ∨ (z23 = Z ∧ tp13 = (tp - 1) + 1 ∧ MIa y ((B 19)) S21 n22 (J15 sp17) ht19 ((B 30)) (J15 29) on j9 ba pc ((64 + u9) :: os) ((tp - 1) + 1)))) := h25
  have h26 : ta16 5 = nI fl24 := h26
  have h27 : (sp17 = 34 ∧ op18 = 35) ∨ (sp17 = 35 ∧ op18 = 34) := h27
  have h28 : (8 ≤ ht19 ∧ ht19 ≤ 3008) ∧ tp13 ≤ 32000 ∧ fl24 ≤ fl := h28
  have h29 : LoE J15 sp17 op18 := h29
  obtain rfl : v10 = none := hw9
  have hO : OKP G h0 a (upd (upd (upd (upd (upd (upd (upd (upd (upd (upd (upd F 5 (nI cs)) 6 (nI rg)) 18 (nI ba)) 19 (nI tp13)) 20 (nI pc)) 21 (nI (pc + 1))) 22 (nI on)) 23 en14) 26 (nI ht19)) 27 ot20) 28 (nI lm)) (updR (updR (updR (updR R 5 (.ref pq)) 6 (.ref (it j9))) 7 (.ref (a sp17))) 8 (.ref (a op18))) z23 (updA B 33 ta16) J15 K w := hO.to rfl
  refine W.widen (k := 0) (n := 0) (Nat.le_of_ble_eq_true rfl) (Nat.le_of_ble_eq_true rfl) ?_
  refine W.eq (g2 := F0 m 145 ls []) rfl ?_
  refine lv_goto (tgt := 181) hx hb dX5_stepAmongThings_145 (by decide) ?_
  have hz30 : StG y it (B 16) (B 19) (mT (B 16) (B 30) fl on pc) pc tp13 en14 (nI (pc + 1)) z23 J15 fl24 sp17 op18 ht19 (B 30) on ba (it j9) := (StG.array h25 hmo r4 (by rw [hop]; decide) hZ)
  have hz31 : ta16 5 = nI fl24 := h26
  have hz32 : fl24 ≤ fl ∧ tp13 ≤ 32000 ∧ (8 ≤ ht19 ∧ ht19 ≤ 3008) ∧ ba ≤ 32000 ∧ on ≤ 100 := (by omega)
  have hz33 : (sp17 = 34 ∧ op18 = 35) ∨ (sp17 = 35 ∧ op18 = 34) := h27
  have hz34 : LoE J15 sp17 op18 := h29
  have hO : OKP G h0 a (upd (upd (upd (upd (upd (upd (upd (upd (upd (upd (upd F 5 (nI cs)) 6 (nI rg)) 18 (nI ba)) 19 (nI tp13)) 20 (nI pc)) 21 (nI (pc + 1))) 22 (nI on)) 23 en14) 26 (nI ht19)) 27 ot20) 28 (nI lm)) (updR (updR (updR (updR R 5 (.ref pq)) 6 (.ref (it j9))) 7 (.ref (a sp17))) 8 (.ref (a op18))) z23 (updA (updA (updA B 30 (B 30)) 32 (B 32)) 33 ta16) J15 K w := hO.to rfl
  exact W.vret hx hb hr (fun t99 ht99 hW99 => ⟨⟨_, (w, (tp13, en14, (nI (pc + 1)), z23, J15, ta16, fl24, sp17, op18, ht19, ot20, ba, on, (it j9), (B 30), (B 32))), rfl, ⟨rfl, hz30, hz31, hz32, hz33, hz34, hO⟩, by rw [ht99]; exact hP, hD⟩, hS.F ht99⟩) hS.2.2 dX5_stepAmongThings_181
set_option maxHeartbeats 40000000 in
set_option maxRecDepth 100000 in
theorem Y_th23 (l : Launch) (G : pT) (h0 : Nat) (a : Nat → Nat) (F : Nat → Int32) (R : Nat → Value) (Z : Int64) (B : Nat → Nat → Int32) (J : Nat → Nat → Int64) (K : PK) (w : va_W) (y : TY) (Sh : Nat → Nat) (nn : Nat → Nat) (on : Nat) (j9 : Nat) (ba : Nat) (pc : Nat) (tp : Nat) (sp : Nat) (op : Nat) (ht : Nat) (fl : Nat) (pq : Nat) (dr : Nat) (ml : Nat) (nd : Nat) (nm : Nat) (cp : Nat) (it : Nat → Nat) (s9 : Nat) (g : Nat → Nat → Nat) (rk : Nat → Nat) (cs : Nat) (rg : Nat) (lm : Nat) (hsp : (sp = 34 ∧ op = 35) ∨ (sp = 35 ∧ op = 34)) (hmi : MIy y (B 19) Sh nn (J sp) ht (B 30) (J 29) on j9 ba pc tp) (hmo : MOy y (B 16) (B 17) (B 18) (B 19) j9) (hZ : Z = 0) (hfl : B 33 5 = nI fl) (hflb : fl ≤ 20000) (hwp : WPr G K g) (hps : PgT G K g (a 1) pq dr ml nd nm cp it s9) (hrk : RkO K rk) (hpy : PrY y K B dr nd nm it cs rg) (hle : LoE J sp op) (hlm : lm ≤ 3008) (hcs9 : cs ≤ 10000) (hop : B 16 pc = nI 23) (hru : IRy y (B 16) (B 17) (B 18) pc j9 23) (hO : OKP G h0 a (upd (upd (upd (upd (upd (upd (upd (upd (upd (upd F 5 (nI cs)) 6 (nI rg)) 18 (nI ba)) 19 (nI tp)) 20 (nI pc)) 21 (nI (pc + 1))) 22 (nI on)) 23 5) 26 (nI ht)) 28 (nI lm)) (updR (updR (updR (updR R 5 (.ref pq)) 6 (.ref (it j9))) 7 (.ref (a sp))) 8 (.ref (a op))) Z B J K w) : PM l G pX0 yX5_stepAmongThings cX5_stepAmongThings 4 none ({ frames := 40, cells := 0, slots := 0, locals := 4000 }) [.ref (a 5), .int 23, .int (B 17 pc), .int (B 18 pc)] w (fun (v : Option Value) (u : va_W × (Nat × Int32 × Int32 × Int64 × (Nat → Nat → Int64) × (Nat → Int32) × Nat × Nat × Nat × Nat × Int32 × Nat × Nat × Nat × (Nat → Int32) × (Nat → Int32))) => v = none ∧ (StG y it (B 16) (B 19) (mT (B 16) (B 30) fl on pc) pc u.2.1 u.2.2.1 u.2.2.2.1 u.2.2.2.2.1 u.2.2.2.2.2.1 u.2.2.2.2.2.2.2.1 u.2.2.2.2.2.2.2.2.1 u.2.2.2.2.2.2.2.2.2.1 u.2.2.2.2.2.2.2.2.2.2.1 u.2.2.2.2.2.2.2.2.2.2.2.2.2.2.2.1 u.2.2.2.2.2.2.2.2.2.2.2.2.2.1 u.2.2.2.2.2.2.2.2.2.2.2.2.1 u.2.2.2.2.2.2.2.2.2.2.2.2.2.2.1) ∧ (u.2.2.2.2.2.2.1 5 = nI u.2.2.2.2.2.2.2.1) ∧ (u.2.2.2.2.2.2.2.1 ≤ fl ∧ u.2.1 ≤ 32000 ∧ (8 ≤ u.2.2.2.2.2.2.2.2.2.2.1 ∧ u.2.2.2.2.2.2.2.2.2.2.1 ≤ 3008) ∧ u.2.2.2.2.2.2.2.2.2.2.2.2.1 ≤ 32000 ∧ u.2.2.2.2.2.2.2.2.2.2.2.2.2.1 ≤ 100) ∧ ((u.2.2.2.2.2.2.2.2.1 = 34 ∧ u.2.2.2.2.2.2.2.2.2.1 = 35) ∨ (u.2.2.2.2.2.2.2.2.1 = 35 ∧ u.2.2.2.2.2.2.2.2.2.1 = 34)) ∧ (LoE u.2.2.2.2.2.1 u.2.2.2.2.2.2.2.2.1 u.2.2.2.2.2.2.2.2.2.1) ∧ (OKP G h0 a (upd (upd (upd (upd (upd (upd (upd (upd (upd (upd (upd F 5 (nI cs)) 6 (nI rg)) 18 (nI u.2.2.2.2.2.2.2.2.2.2.2.2.1)) 19 (nI u.2.1)) 20 (nI pc)) 21 u.2.2.2.1) 22 (nI u.2.2.2.2.2.2.2.2.2.2.2.2.2.1)) 23 u.2.2.1) 26 (nI u.2.2.2.2.2.2.2.2.2.2.1)) 27 u.2.2.2.2.2.2.2.2.2.2.2.1) 28 (nI lm)) (updR (updR (updR (updR R 5 (.ref pq)) 6 (.ref u.2.2.2.2.2.2.2.2.2.2.2.2.2.2.1)) 7 (.ref (a u.2.2.2.2.2.2.2.2.1))) 8 (.ref (a u.2.2.2.2.2.2.2.2.2.1))) u.2.2.2.2.1 (updA (updA (updA B 30 u.2.2.2.2.2.2.2.2.2.2.2.2.2.2.2.1) 32 u.2.2.2.2.2.2.2.2.2.2.2.2.2.2.2.2) 33 u.2.2.2.2.2.2.1) u.2.2.2.2.2.1 K u.1)) (fun u => u.1) := by
  intro sz
  refine Met.ofW (cc := cX5_stepAmongThings) (maxL := 4) (ret := none) (by decide) rfl ?_
  intro p e s m args below meth c s₁ B9 hml hv
  obtain ⟨rfl, hsz, hP, hD0, hE, hX⟩ := hv
  have hx := B9.exec
  have hb := B9.bytes
  have hr := B9.returns
  have hts := atoms_spec (ws := Cond.code yX5_stepAmongThings cX5_stepAmongThings 4 none :: pw) B9.pre
  have hq : ∀ w ∈ pw, w.before _ s = true := fun w h => hts w (List.mem_cons_of_mem _ h)
  have hown : s.vm.findClass RX5 = some m.cls := findClass_of_methodNamed B9.named
  have hlocks := B9.notSynchronized
  subst hsz
  have hD := hD0.self (sz := s.heap.size)
  have hA : ∀ q : Nat, s.heap.size ≤ q → va_A w s.heap.size q := fun q h => Or.inr h
  generalize va_A w s.heap.size = A at hD hE hA ⊢
  have hS : va_S A s.heap s.heap [] := va_S.rf
  have hl := lv_entry ([.ref (a 5), .int 23, .int (B 17 pc), .int (B 18 pc)]) (n := 4) (Nat.le_of_ble_eq_true rfl)
  rw [lg_entry_eq]
  generalize (lg_sl ([.ref (a 5), .int 23, .int (B 17 pc), .int (B 18 pc)]) ++ List.replicate (4 - (lg_sl ([.ref (a 5), .int 23, .int (B 17 pc), .int (B 18 pc)])).length) Slot.unset).toArray = ls at hl ⊢
  have hl : lv_has ls 4 [(0, .ref (a 5)), (1, .int 23), (2, .int (B 17 pc)), (3, .int (B 18 pc))] := hl
  obtain ⟨hn1, hn2, hn3, hn4, hn5, hn6, hn7, hn8, hn9, hn10, hn11, hn12⟩ := MIy.nums hmi hmo
  have hlo := FFy.lo hmi.ff
  have hpg := hps.1
  have hp1 := hpg.1
  have hp2 := hpg.2.1
  have hp3 := hpg.2.2.1
  have hp4 := hpg.2.2.2.1
  have hp5 := hpg.2.2.2.2.1
  have hp6 := hpg.2.2.2.2.2.1
  have hp8 := hpg.2.2.2.2.2.2.2.1
  have hp9 := hpg.2.2.2.2.2.2.2.2
  have h29 : ¬ sp = 29 ∧ ¬ op = 29 := by omega
  have hht := hmi.1.2.2.2
  have hnm9 := hps.2.2.1.2.2.1
  have hnmE := hpy.1.1
  refine lv_iload_n hx hb dX5_stepAmongThings_0 rfl (lv_at hl 1 rfl) ?_
  refine lv_tableIn (tgt := 148) (off := 147) hx hb dX5_stepAmongThings_1 (by decide) (by decide) (by decide) (by decide) ?_
  refine lv_aload_n hx hb dX5_stepAmongThings_148 rfl (lv_at hl 0 rfl) ?_
  refine lv_iload_n hx hb dX5_stepAmongThings_149 rfl (lv_at hl 2 rfl) ?_
  refine lv_iload_n hx hb dX5_stepAmongThings_150 rfl (lv_at hl 3 rfl) ?_
  have hO : OKP G h0 a (upd (upd (upd (upd (upd (upd (upd (upd (upd (upd (upd (upd (upd (upd (upd (upd (upd (upd (upd (upd F 5 (nI cs)) 6 (nI rg)) 18 (nI ba)) 19 (nI tp)) 20 (nI pc)) 21 (nI (pc + 1))) 22 (nI on)) 23 5) 26 (nI ht)) 28 (nI lm)) 5 (nI cs)) 6 (nI rg)) 18 (nI ba)) 19 (nI tp)) 20 (nI pc)) 21 (nI (pc + 1))) 22 (nI on)) 23 5) 26 (nI ht)) 28 (nI lm)) (updR (updR (updR (updR (updR (updR (updR (updR R 5 (.ref pq)) 6 (.ref (it j9))) 7 (.ref (a sp))) 8 (.ref (a op))) 5 (.ref pq)) 6 (.ref (it j9))) 7 (.ref (a sp))) 8 (.ref (a op))) Z B J K w := hO.to rfl
  obtain ⟨_, qr4, hqr5⟩ := hO.2.1 28 _ (sg_28 G h0 a _ _ _ _ _)
  refine pc_V0 (G := G) (As := [.int (B 17 pc), .int (B 18 pc)]) (rest := []) hx hb hml hown hq hE hX pX0_al hP hD hS hA hl.1 (Y_callNearest l G h0 a (upd (upd (upd (upd (upd (upd (upd (upd (upd (upd F 5 (nI cs)) 6 (nI rg)) 18 (nI ba)) 19 (nI tp)) 20 (nI pc)) 21 (nI (pc + 1))) 22 (nI on)) 23 5) 26 (nI ht)) 28 (nI lm)) (updR (updR (updR (updR R 5 (.ref pq)) 6 (.ref (it j9))) 7 (.ref (a sp))) 8 (.ref (a op))) Z B J K w y Sh nn on j9 ba pc tp sp op ht fl pq dr ml nd nm cp it s9 g rk cs rg lm hsp hmi hmo hZ hfl hflb hwp hps hrk hpy hle hlm hcs9 hop hru hO) (gV pw_590 pw_591 pw_592 pw_539 pw_577) hV_X5_callNearest qr4 4 hqr5 rfl rfl rfl (Nat.le_of_ble_eq_true rfl) dX5_stepAmongThings_151 ⟨Nat.le_of_ble_eq_true rfl, Nat.le_of_ble_eq_true rfl⟩ ⟨Nat.le_of_ble_eq_true rfl, Nat.le_of_ble_eq_true rfl⟩ (fun v3 u1 H locs hw2 hP hD hS => ?_)
  obtain ⟨w, tp6, en7, nx8, z9, J10, ta11, fl12, sp13, op14, ht15, ot16, ba17, on18, mr19, fr20, ou21⟩ := u1
  obtain ⟨hw2, h22, h23, h24, h25, h26, hO⟩ := hw2
  have h22 : StG y it ((B 16)) ((B 19)) (mT ((B 16)) ((B 30)) fl on pc) pc tp6 en7 nx8 z9 J10 fl12 sp13 op14 ht15 fr20 on18 ba17 mr19 := h22
  have h23 : ta11 5 = nI fl12 := h23
  have h24 : fl12 ≤ fl ∧ tp6 ≤ 32000 ∧ (8 ≤ ht15 ∧ ht15 ≤ 3008) ∧ ba17 ≤ 32000 ∧ on18 ≤ 100 := h24
  have h25 : (sp13 = 34 ∧ op14 = 35) ∨ (sp13 = 35 ∧ op14 = 34) := h25
  have h26 : LoE J10 sp13 op14 := h26
  obtain rfl : v3 = none := hw2
  have hO : OKP G h0 a (upd (upd (upd (upd (upd (upd (upd (upd (upd (upd (upd F 5 (nI cs)) 6 (nI rg)) 18 (nI ba17)) 19 (nI tp6)) 20 (nI pc)) 21 nx8) 22 (nI on18)) 23 en7) 26 (nI ht15)) 27 ot16) 28 (nI lm)) (updR (updR (updR (updR R 5 (.ref pq)) 6 (.ref mr19)) 7 (.ref (a sp13))) 8 (.ref (a op14))) z9 (updA (updA (updA B 30 fr20) 32 ou21) 33 ta11) J10 K w := hO.to rfl
  refine W.widen (k := 0) (n := 0) (Nat.le_of_ble_eq_true rfl) (Nat.le_of_ble_eq_true rfl) ?_
  refine W.eq (g2 := F0 m 154 ls []) rfl ?_
  refine lv_goto (tgt := 181) hx hb dX5_stepAmongThings_154 (by decide) ?_
  have hz27 : StG y it (B 16) (B 19) (mT (B 16) (B 30) fl on pc) pc tp6 en7 nx8 z9 J10 fl12 sp13 op14 ht15 fr20 on18 ba17 mr19 := h22
  have hz28 : ta11 5 = nI fl12 := h23
  have hz29 : fl12 ≤ fl ∧ tp6 ≤ 32000 ∧ (8 ≤ ht15 ∧ ht15 ≤ 3008) ∧ ba17 ≤ 32000 ∧ on18 ≤ 100 := (by omega)
  have hz30 : (sp13 = 34 ∧ op14 = 35) ∨ (sp13 = 35 ∧ op14 = 34) := h25
  have hz31 : LoE J10 sp13 op14 := h26
  have hO : OKP G h0 a (upd (upd (upd (upd (upd (upd (upd (upd (upd (upd (upd F 5 (nI cs)) 6 (nI rg)) 18 (nI ba17)) 19 (nI tp6)) 20 (nI pc)) 21 nx8) 22 (nI on18)) 23 en7) 26 (nI ht15)) 27 ot16) 28 (nI lm)) (updR (updR (updR (updR R 5 (.ref pq)) 6 (.ref mr19)) 7 (.ref (a sp13))) 8 (.ref (a op14))) z9 (updA (updA (updA B 30 fr20) 32 ou21) 33 ta11) J10 K w := hO.to rfl
  exact W.vret hx hb hr (fun t99 ht99 hW99 => ⟨⟨_, (w, (tp6, en7, nx8, z9, J10, ta11, fl12, sp13, op14, ht15, ot16, ba17, on18, mr19, fr20, ou21)), rfl, ⟨rfl, hz27, hz28, hz29, hz30, hz31, hO⟩, by rw [ht99]; exact hP, hD⟩, hS.F ht99⟩) hS.2.2 dX5_stepAmongThings_181
set_option maxHeartbeats 40000000 in
set_option maxRecDepth 100000 in
theorem Y_th24 (l : Launch) (G : pT) (h0 : Nat) (a : Nat → Nat) (F : Nat → Int32) (R : Nat → Value) (Z : Int64) (B : Nat → Nat → Int32) (J : Nat → Nat → Int64) (K : PK) (w : va_W) (y : TY) (Sh : Nat → Nat) (nn : Nat → Nat) (on : Nat) (j9 : Nat) (ba : Nat) (pc : Nat) (tp : Nat) (sp : Nat) (op : Nat) (ht : Nat) (fl : Nat) (pq : Nat) (dr : Nat) (ml : Nat) (nd : Nat) (nm : Nat) (cp : Nat) (it : Nat → Nat) (s9 : Nat) (g : Nat → Nat → Nat) (rk : Nat → Nat) (cs : Nat) (rg : Nat) (lm : Nat) (hsp : (sp = 34 ∧ op = 35) ∨ (sp = 35 ∧ op = 34)) (hmi : MIy y (B 19) Sh nn (J sp) ht (B 30) (J 29) on j9 ba pc tp) (hmo : MOy y (B 16) (B 17) (B 18) (B 19) j9) (hZ : Z = 0) (hfl : B 33 5 = nI fl) (hflb : fl ≤ 20000) (hwp : WPr G K g) (hps : PgT G K g (a 1) pq dr ml nd nm cp it s9) (hrk : RkO K rk) (hpy : PrY y K B dr nd nm it cs rg) (hle : LoE J sp op) (hlm : lm ≤ 3008) (hcs9 : cs ≤ 10000) (hop : B 16 pc = nI 24) (hru : IRy y (B 16) (B 17) (B 18) pc j9 24) (hO : OKP G h0 a (upd (upd (upd (upd (upd (upd (upd (upd (upd (upd F 5 (nI cs)) 6 (nI rg)) 18 (nI ba)) 19 (nI tp)) 20 (nI pc)) 21 (nI (pc + 1))) 22 (nI on)) 23 5) 26 (nI ht)) 28 (nI lm)) (updR (updR (updR (updR R 5 (.ref pq)) 6 (.ref (it j9))) 7 (.ref (a sp))) 8 (.ref (a op))) Z B J K w) : PM l G pX0 yX5_stepAmongThings cX5_stepAmongThings 4 none ({ frames := 40, cells := 0, slots := 0, locals := 4000 }) [.ref (a 5), .int 24, .int (B 17 pc), .int (B 18 pc)] w (fun (v : Option Value) (u : va_W × (Nat × Int32 × Int32 × Int64 × (Nat → Nat → Int64) × (Nat → Int32) × Nat × Nat × Nat × Nat × Int32 × Nat × Nat × Nat × (Nat → Int32) × (Nat → Int32))) => v = none ∧ (StG y it (B 16) (B 19) (mT (B 16) (B 30) fl on pc) pc u.2.1 u.2.2.1 u.2.2.2.1 u.2.2.2.2.1 u.2.2.2.2.2.1 u.2.2.2.2.2.2.2.1 u.2.2.2.2.2.2.2.2.1 u.2.2.2.2.2.2.2.2.2.1 u.2.2.2.2.2.2.2.2.2.2.1 u.2.2.2.2.2.2.2.2.2.2.2.2.2.2.2.1 u.2.2.2.2.2.2.2.2.2.2.2.2.2.1 u.2.2.2.2.2.2.2.2.2.2.2.2.1 u.2.2.2.2.2.2.2.2.2.2.2.2.2.2.1) ∧ (u.2.2.2.2.2.2.1 5 = nI u.2.2.2.2.2.2.2.1) ∧ (u.2.2.2.2.2.2.2.1 ≤ fl ∧ u.2.1 ≤ 32000 ∧ (8 ≤ u.2.2.2.2.2.2.2.2.2.2.1 ∧ u.2.2.2.2.2.2.2.2.2.2.1 ≤ 3008) ∧ u.2.2.2.2.2.2.2.2.2.2.2.2.1 ≤ 32000 ∧ u.2.2.2.2.2.2.2.2.2.2.2.2.2.1 ≤ 100) ∧ ((u.2.2.2.2.2.2.2.2.1 = 34 ∧ u.2.2.2.2.2.2.2.2.2.1 = 35) ∨ (u.2.2.2.2.2.2.2.2.1 = 35 ∧ u.2.2.2.2.2.2.2.2.2.1 = 34)) ∧ (LoE u.2.2.2.2.2.1 u.2.2.2.2.2.2.2.2.1 u.2.2.2.2.2.2.2.2.2.1) ∧ (OKP G h0 a (upd (upd (upd (upd (upd (upd (upd (upd (upd (upd (upd F 5 (nI cs)) 6 (nI rg)) 18 (nI u.2.2.2.2.2.2.2.2.2.2.2.2.1)) 19 (nI u.2.1)) 20 (nI pc)) 21 u.2.2.2.1) 22 (nI u.2.2.2.2.2.2.2.2.2.2.2.2.2.1)) 23 u.2.2.1) 26 (nI u.2.2.2.2.2.2.2.2.2.2.1)) 27 u.2.2.2.2.2.2.2.2.2.2.2.1) 28 (nI lm)) (updR (updR (updR (updR R 5 (.ref pq)) 6 (.ref u.2.2.2.2.2.2.2.2.2.2.2.2.2.2.1)) 7 (.ref (a u.2.2.2.2.2.2.2.2.1))) 8 (.ref (a u.2.2.2.2.2.2.2.2.2.1))) u.2.2.2.2.1 (updA (updA (updA B 30 u.2.2.2.2.2.2.2.2.2.2.2.2.2.2.2.1) 32 u.2.2.2.2.2.2.2.2.2.2.2.2.2.2.2.2) 33 u.2.2.2.2.2.2.1) u.2.2.2.2.2.1 K u.1)) (fun u => u.1) := by
  intro sz
  refine Met.ofW (cc := cX5_stepAmongThings) (maxL := 4) (ret := none) (by decide) rfl ?_
  intro p e s m args below meth c s₁ B9 hml hv
  obtain ⟨rfl, hsz, hP, hD0, hE, hX⟩ := hv
  have hx := B9.exec
  have hb := B9.bytes
  have hr := B9.returns
  have hts := atoms_spec (ws := Cond.code yX5_stepAmongThings cX5_stepAmongThings 4 none :: pw) B9.pre
  have hq : ∀ w ∈ pw, w.before _ s = true := fun w h => hts w (List.mem_cons_of_mem _ h)
  have hown : s.vm.findClass RX5 = some m.cls := findClass_of_methodNamed B9.named
  have hlocks := B9.notSynchronized
  subst hsz
  have hD := hD0.self (sz := s.heap.size)
  have hA : ∀ q : Nat, s.heap.size ≤ q → va_A w s.heap.size q := fun q h => Or.inr h
  generalize va_A w s.heap.size = A at hD hE hA ⊢
  have hS : va_S A s.heap s.heap [] := va_S.rf
  have hl := lv_entry ([.ref (a 5), .int 24, .int (B 17 pc), .int (B 18 pc)]) (n := 4) (Nat.le_of_ble_eq_true rfl)
  rw [lg_entry_eq]
  generalize (lg_sl ([.ref (a 5), .int 24, .int (B 17 pc), .int (B 18 pc)]) ++ List.replicate (4 - (lg_sl ([.ref (a 5), .int 24, .int (B 17 pc), .int (B 18 pc)])).length) Slot.unset).toArray = ls at hl ⊢
  have hl : lv_has ls 4 [(0, .ref (a 5)), (1, .int 24), (2, .int (B 17 pc)), (3, .int (B 18 pc))] := hl
  obtain ⟨hn1, hn2, hn3, hn4, hn5, hn6, hn7, hn8, hn9, hn10, hn11, hn12⟩ := MIy.nums hmi hmo
  have hlo := FFy.lo hmi.ff
  have hpg := hps.1
  have hp1 := hpg.1
  have hp2 := hpg.2.1
  have hp3 := hpg.2.2.1
  have hp4 := hpg.2.2.2.1
  have hp5 := hpg.2.2.2.2.1
  have hp6 := hpg.2.2.2.2.2.1
  have hp8 := hpg.2.2.2.2.2.2.2.1
  have hp9 := hpg.2.2.2.2.2.2.2.2
  have h29 : ¬ sp = 29 ∧ ¬ op = 29 := by omega
  have hht := hmi.1.2.2.2
  have hnm9 := hps.2.2.1.2.2.1
  have hnmE := hpy.1.1
  refine lv_iload_n hx hb dX5_stepAmongThings_0 rfl (lv_at hl 1 rfl) ?_
  refine lv_tableIn (tgt := 157) (off := 156) hx hb dX5_stepAmongThings_1 (by decide) (by decide) (by decide) (by decide) ?_
  refine lv_aload_n hx hb dX5_stepAmongThings_157 rfl (lv_at hl 0 rfl) ?_
  refine lv_iload_n hx hb dX5_stepAmongThings_158 rfl (lv_at hl 2 rfl) ?_
  refine lv_iload_n hx hb dX5_stepAmongThings_159 rfl (lv_at hl 3 rfl) ?_
  have hO : OKP G h0 a (upd (upd (upd (upd (upd (upd (upd (upd (upd (upd (upd (upd (upd (upd (upd (upd (upd (upd (upd (upd F 5 (nI cs)) 6 (nI rg)) 18 (nI ba)) 19 (nI tp)) 20 (nI pc)) 21 (nI (pc + 1))) 22 (nI on)) 23 5) 26 (nI ht)) 28 (nI lm)) 5 (nI cs)) 6 (nI rg)) 18 (nI ba)) 19 (nI tp)) 20 (nI pc)) 21 (nI (pc + 1))) 22 (nI on)) 23 5) 26 (nI ht)) 28 (nI lm)) (updR (updR (updR (updR (updR (updR (updR (updR R 5 (.ref pq)) 6 (.ref (it j9))) 7 (.ref (a sp))) 8 (.ref (a op))) 5 (.ref pq)) 6 (.ref (it j9))) 7 (.ref (a sp))) 8 (.ref (a op))) Z B J K w := hO.to rfl
  obtain ⟨_, qr4, hqr5⟩ := hO.2.1 28 _ (sg_28 G h0 a _ _ _ _ _)
  refine pc_V0 (G := G) (As := [.int (B 17 pc), .int (B 18 pc)]) (rest := []) hx hb hml hown hq hE hX pX0_al hP hD hS hA hl.1 (Y_callSuper l G h0 a (upd (upd (upd (upd (upd (upd (upd (upd (upd (upd F 5 (nI cs)) 6 (nI rg)) 18 (nI ba)) 19 (nI tp)) 20 (nI pc)) 21 (nI (pc + 1))) 22 (nI on)) 23 5) 26 (nI ht)) 28 (nI lm)) (updR (updR (updR (updR R 5 (.ref pq)) 6 (.ref (it j9))) 7 (.ref (a sp))) 8 (.ref (a op))) Z B J K w y Sh nn on j9 ba pc tp sp op ht fl pq dr ml nd nm cp it s9 g rk cs rg lm hsp hmi hmo hZ hfl hflb hwp hps hrk hpy hle hlm hcs9 hop hru hO) (gV pw_684 pw_685 pw_686 pw_539 pw_661) hV_X5_callSuper qr4 4 hqr5 rfl rfl rfl (Nat.le_of_ble_eq_true rfl) dX5_stepAmongThings_160 ⟨Nat.le_of_ble_eq_true rfl, Nat.le_of_ble_eq_true rfl⟩ ⟨Nat.le_of_ble_eq_true rfl, Nat.le_of_ble_eq_true rfl⟩ (fun v3 u1 H locs hw2 hP hD hS => ?_)
  obtain ⟨w, tp6, en7, nx8, z9, J10, ta11, fl12, sp13, op14, ht15, ot16, ba17, on18, mr19, fr20, ou21⟩ := u1
  obtain ⟨hw2, h22, h23, h24, h25, h26, hO⟩ := hw2
  have h22 : StG y it ((B 16)) ((B 19)) (mT ((B 16)) ((B 30)) fl on pc) pc tp6 en7 nx8 z9 J10 fl12 sp13 op14 ht15 fr20 on18 ba17 mr19 := h22
  have h23 : ta11 5 = nI fl12 := h23
  have h24 : fl12 ≤ fl ∧ tp6 ≤ 32000 ∧ (8 ≤ ht15 ∧ ht15 ≤ 3008) ∧ ba17 ≤ 32000 ∧ on18 ≤ 100 := h24
  have h25 : (sp13 = 34 ∧ op14 = 35) ∨ (sp13 = 35 ∧ op14 = 34) := h25
  have h26 : LoE J10 sp13 op14 := h26
  obtain rfl : v3 = none := hw2
  have hO : OKP G h0 a (upd (upd (upd (upd (upd (upd (upd (upd (upd (upd (upd F 5 (nI cs)) 6 (nI rg)) 18 (nI ba17)) 19 (nI tp6)) 20 (nI pc)) 21 nx8) 22 (nI on18)) 23 en7) 26 (nI ht15)) 27 ot16) 28 (nI lm)) (updR (updR (updR (updR R 5 (.ref pq)) 6 (.ref mr19)) 7 (.ref (a sp13))) 8 (.ref (a op14))) z9 (updA (updA (updA B 30 fr20) 32 ou21) 33 ta11) J10 K w := hO.to rfl
  refine W.widen (k := 0) (n := 0) (Nat.le_of_ble_eq_true rfl) (Nat.le_of_ble_eq_true rfl) ?_
  refine W.eq (g2 := F0 m 163 ls []) rfl ?_
  refine lv_goto (tgt := 181) hx hb dX5_stepAmongThings_163 (by decide) ?_
  have hz27 : StG y it (B 16) (B 19) (mT (B 16) (B 30) fl on pc) pc tp6 en7 nx8 z9 J10 fl12 sp13 op14 ht15 fr20 on18 ba17 mr19 := h22
  have hz28 : ta11 5 = nI fl12 := h23
  have hz29 : fl12 ≤ fl ∧ tp6 ≤ 32000 ∧ (8 ≤ ht15 ∧ ht15 ≤ 3008) ∧ ba17 ≤ 32000 ∧ on18 ≤ 100 := (by omega)
  have hz30 : (sp13 = 34 ∧ op14 = 35) ∨ (sp13 = 35 ∧ op14 = 34) := h25
  have hz31 : LoE J10 sp13 op14 := h26
  have hO : OKP G h0 a (upd (upd (upd (upd (upd (upd (upd (upd (upd (upd (upd F 5 (nI cs)) 6 (nI rg)) 18 (nI ba17)) 19 (nI tp6)) 20 (nI pc)) 21 nx8) 22 (nI on18)) 23 en7) 26 (nI ht15)) 27 ot16) 28 (nI lm)) (updR (updR (updR (updR R 5 (.ref pq)) 6 (.ref mr19)) 7 (.ref (a sp13))) 8 (.ref (a op14))) z9 (updA (updA (updA B 30 fr20) 32 ou21) 33 ta11) J10 K w := hO.to rfl
  exact W.vret hx hb hr (fun t99 ht99 hW99 => ⟨⟨_, (w, (tp6, en7, nx8, z9, J10, ta11, fl12, sp13, op14, ht15, ot16, ba17, on18, mr19, fr20, ou21)), rfl, ⟨rfl, hz27, hz28, hz29, hz30, hz31, hO⟩, by rw [ht99]; exact hP, hD⟩, hS.F ht99⟩) hS.2.2 dX5_stepAmongThings_181
set_option maxHeartbeats 40000000 in
set_option maxRecDepth 100000 in
theorem Y_th25 (l : Launch) (G : pT) (h0 : Nat) (a : Nat → Nat) (F : Nat → Int32) (R : Nat → Value) (Z : Int64) (B : Nat → Nat → Int32) (J : Nat → Nat → Int64) (K : PK) (w : va_W) (y : TY) (Sh : Nat → Nat) (nn : Nat → Nat) (on : Nat) (j9 : Nat) (ba : Nat) (pc : Nat) (tp : Nat) (sp : Nat) (op : Nat) (ht : Nat) (fl : Nat) (pq : Nat) (dr : Nat) (ml : Nat) (nd : Nat) (nm : Nat) (cp : Nat) (it : Nat → Nat) (s9 : Nat) (g : Nat → Nat → Nat) (rk : Nat → Nat) (cs : Nat) (rg : Nat) (lm : Nat) (hsp : (sp = 34 ∧ op = 35) ∨ (sp = 35 ∧ op = 34)) (hmi : MIy y (B 19) Sh nn (J sp) ht (B 30) (J 29) on j9 ba pc tp) (hmo : MOy y (B 16) (B 17) (B 18) (B 19) j9) (hZ : Z = 0) (hfl : B 33 5 = nI fl) (hflb : fl ≤ 20000) (hwp : WPr G K g) (hps : PgT G K g (a 1) pq dr ml nd nm cp it s9) (hrk : RkO K rk) (hpy : PrY y K B dr nd nm it cs rg) (hle : LoE J sp op) (hlm : lm ≤ 3008) (hcs9 : cs ≤ 10000) (hop : B 16 pc = nI 25) (hru : IRy y (B 16) (B 17) (B 18) pc j9 25) (hO : OKP G h0 a (upd (upd (upd (upd (upd (upd (upd (upd (upd (upd F 5 (nI cs)) 6 (nI rg)) 18 (nI ba)) 19 (nI tp)) 20 (nI pc)) 21 (nI (pc + 1))) 22 (nI on)) 23 5) 26 (nI ht)) 28 (nI lm)) (updR (updR (updR (updR R 5 (.ref pq)) 6 (.ref (it j9))) 7 (.ref (a sp))) 8 (.ref (a op))) Z B J K w) : PM l G pX0 yX5_stepAmongThings cX5_stepAmongThings 4 none ({ frames := 40, cells := 0, slots := 0, locals := 4000 }) [.ref (a 5), .int 25, .int (B 17 pc), .int (B 18 pc)] w (fun (v : Option Value) (u : va_W × (Nat × Int32 × Int32 × Int64 × (Nat → Nat → Int64) × (Nat → Int32) × Nat × Nat × Nat × Nat × Int32 × Nat × Nat × Nat × (Nat → Int32) × (Nat → Int32))) => v = none ∧ (StG y it (B 16) (B 19) (mT (B 16) (B 30) fl on pc) pc u.2.1 u.2.2.1 u.2.2.2.1 u.2.2.2.2.1 u.2.2.2.2.2.1 u.2.2.2.2.2.2.2.1 u.2.2.2.2.2.2.2.2.1 u.2.2.2.2.2.2.2.2.2.1 u.2.2.2.2.2.2.2.2.2.2.1 u.2.2.2.2.2.2.2.2.2.2.2.2.2.2.2.1 u.2.2.2.2.2.2.2.2.2.2.2.2.2.1 u.2.2.2.2.2.2.2.2.2.2.2.2.1 u.2.2.2.2.2.2.2.2.2.2.2.2.2.2.1) ∧ (u.2.2.2.2.2.2.1 5 = nI u.2.2.2.2.2.2.2.1) ∧ (u.2.2.2.2.2.2.2.1 ≤ fl ∧ u.2.1 ≤ 32000 ∧ (8 ≤ u.2.2.2.2.2.2.2.2.2.2.1 ∧ u.2.2.2.2.2.2.2.2.2.2.1 ≤ 3008) ∧ u.2.2.2.2.2.2.2.2.2.2.2.2.1 ≤ 32000 ∧ u.2.2.2.2.2.2.2.2.2.2.2.2.2.1 ≤ 100) ∧ ((u.2.2.2.2.2.2.2.2.1 = 34 ∧ u.2.2.2.2.2.2.2.2.2.1 = 35) ∨ (u.2.2.2.2.2.2.2.2.1 = 35 ∧ u.2.2.2.2.2.2.2.2.2.1 = 34)) ∧ (LoE u.2.2.2.2.2.1 u.2.2.2.2.2.2.2.2.1 u.2.2.2.2.2.2.2.2.2.1) ∧ (OKP G h0 a (upd (upd (upd (upd (upd (upd (upd (upd (upd (upd (upd F 5 (nI cs)) 6 (nI rg)) 18 (nI u.2.2.2.2.2.2.2.2.2.2.2.2.1)) 19 (nI u.2.1)) 20 (nI pc)) 21 u.2.2.2.1) 22 (nI u.2.2.2.2.2.2.2.2.2.2.2.2.2.1)) 23 u.2.2.1) 26 (nI u.2.2.2.2.2.2.2.2.2.2.1)) 27 u.2.2.2.2.2.2.2.2.2.2.2.1) 28 (nI lm)) (updR (updR (updR (updR R 5 (.ref pq)) 6 (.ref u.2.2.2.2.2.2.2.2.2.2.2.2.2.2.1)) 7 (.ref (a u.2.2.2.2.2.2.2.2.1))) 8 (.ref (a u.2.2.2.2.2.2.2.2.2.1))) u.2.2.2.2.1 (updA (updA (updA B 30 u.2.2.2.2.2.2.2.2.2.2.2.2.2.2.2.1) 32 u.2.2.2.2.2.2.2.2.2.2.2.2.2.2.2.2) 33 u.2.2.2.2.2.2.1) u.2.2.2.2.2.1 K u.1)) (fun u => u.1) := by
  intro sz
  refine Met.ofW (cc := cX5_stepAmongThings) (maxL := 4) (ret := none) (by decide) rfl ?_
  intro p e s m args below meth c s₁ B9 hml hv
  obtain ⟨rfl, hsz, hP, hD0, hE, hX⟩ := hv
  have hx := B9.exec
  have hb := B9.bytes
  have hr := B9.returns
  have hts := atoms_spec (ws := Cond.code yX5_stepAmongThings cX5_stepAmongThings 4 none :: pw) B9.pre
  have hq : ∀ w ∈ pw, w.before _ s = true := fun w h => hts w (List.mem_cons_of_mem _ h)
  have hown : s.vm.findClass RX5 = some m.cls := findClass_of_methodNamed B9.named
  have hlocks := B9.notSynchronized
  subst hsz
  have hD := hD0.self (sz := s.heap.size)
  have hA : ∀ q : Nat, s.heap.size ≤ q → va_A w s.heap.size q := fun q h => Or.inr h
  generalize va_A w s.heap.size = A at hD hE hA ⊢
  have hS : va_S A s.heap s.heap [] := va_S.rf
  have hl := lv_entry ([.ref (a 5), .int 25, .int (B 17 pc), .int (B 18 pc)]) (n := 4) (Nat.le_of_ble_eq_true rfl)
  rw [lg_entry_eq]
  generalize (lg_sl ([.ref (a 5), .int 25, .int (B 17 pc), .int (B 18 pc)]) ++ List.replicate (4 - (lg_sl ([.ref (a 5), .int 25, .int (B 17 pc), .int (B 18 pc)])).length) Slot.unset).toArray = ls at hl ⊢
  have hl : lv_has ls 4 [(0, .ref (a 5)), (1, .int 25), (2, .int (B 17 pc)), (3, .int (B 18 pc))] := hl
  obtain ⟨hn1, hn2, hn3, hn4, hn5, hn6, hn7, hn8, hn9, hn10, hn11, hn12⟩ := MIy.nums hmi hmo
  have hlo := FFy.lo hmi.ff
  have hpg := hps.1
  have hp1 := hpg.1
  have hp2 := hpg.2.1
  have hp3 := hpg.2.2.1
  have hp4 := hpg.2.2.2.1
  have hp5 := hpg.2.2.2.2.1
  have hp6 := hpg.2.2.2.2.2.1
  have hp8 := hpg.2.2.2.2.2.2.2.1
  have hp9 := hpg.2.2.2.2.2.2.2.2
  have h29 : ¬ sp = 29 ∧ ¬ op = 29 := by omega
  have hht := hmi.1.2.2.2
  have hnm9 := hps.2.2.1.2.2.1
  have hnmE := hpy.1.1
  obtain ⟨t9, os, r1, r2⟩ := hru
  obtain ⟨hv1, hv2, hv3, hv4⟩ := FFy.pop hmi.ff r1
  refine lv_iload_n hx hb dX5_stepAmongThings_0 rfl (lv_at hl 1 rfl) ?_
  refine lv_tableIn (tgt := 166) (off := 165) hx hb dX5_stepAmongThings_1 (by decide) (by decide) (by decide) (by decide) ?_
  refine lv_aload_n hx hb dX5_stepAmongThings_166 rfl (lv_at hl 0 rfl) ?_
  refine lv_aload_n hx hb dX5_stepAmongThings_167 rfl (lv_at hl 0 rfl) ?_
  have hO : OKW G h0 a (upd (upd (upd (upd (upd (upd (upd (upd (upd (upd (upd F 5 (nI cs)) 6 (nI rg)) 18 (nI ba)) 19 (nI tp)) 20 (nI pc)) 21 (nI (pc + 1))) 22 (nI on)) 23 5) 26 (nI ht)) 28 (nI lm)) 19 (nI tp)) (updR (updR (updR (updR R 5 (.ref pq)) 6 (.ref (it j9))) 7 (.ref (a sp))) 8 (.ref (a op))) Z B J K.1 (fun q99 x99 => x99 = rep G a K q99) w := hO.to rfl
  obtain ⟨_, qr4, hqr5⟩ := hO.2.1 28 _ (sg_28 G h0 a _ _ _ _ _)
  refine pc_V0 (G := G) (As := []) (rest := [.ref (a 5)]) hx hb hml hown hq hE hX pX0_al hP hD hS hA hl.1 (Y_pop l G h0 a (upd (upd (upd (upd (upd (upd (upd (upd (upd (upd F 5 (nI cs)) 6 (nI rg)) 18 (nI ba)) 19 (nI tp)) 20 (nI pc)) 21 (nI (pc + 1))) 22 (nI on)) 23 5) 26 (nI ht)) 28 (nI lm)) (updR (updR (updR (updR R 5 (.ref pq)) 6 (.ref (it j9))) 7 (.ref (a sp))) 8 (.ref (a op))) Z B J K.1 (fun q99 x99 => x99 = rep G a K q99) w tp (by omega) hO) (gV pw_598 pw_599 pw_600 pw_539 pw_595) hV_X5_pop qr4 4 hqr5 rfl rfl rfl (Nat.le_of_ble_eq_true rfl) dX5_stepAmongThings_168 ⟨Nat.le_of_ble_eq_true rfl, Nat.le_of_ble_eq_true rfl⟩ ⟨Nat.le_of_ble_eq_true rfl, Nat.le_of_ble_eq_true rfl⟩ (fun v3 u1 H locs hw2 hP hD hS => ?_)
  obtain ⟨w, _⟩ := u1
  obtain ⟨hw2, hO⟩ := hw2
  obtain rfl : v3 = some (.long ((J 29) (tp - 1))) := hw2
  have hO : OKP G h0 a (upd (upd (upd (upd (upd (upd (upd (upd (upd (upd F 5 (nI cs)) 6 (nI rg)) 18 (nI ba)) 19 (nI (tp - 1))) 20 (nI pc)) 21 (nI (pc + 1))) 22 (nI on)) 23 5) 26 (nI ht)) 28 (nI lm)) (updR (updR (updR (updR R 5 (.ref pq)) 6 (.ref (it j9))) 7 (.ref (a sp))) 8 (.ref (a op))) Z B J K w := hO.to rfl
  refine W.widen (k := 0) (n := 0) (Nat.le_of_ble_eq_true rfl) (Nat.le_of_ble_eq_true rfl) ?_
  refine W.eq (g2 := F0 m 171 ls [.long ((J 29) (tp - 1)), .ref (a 5)]) rfl ?_
  rcases VT.rf hv3 r2 with hq9 | ⟨p9, d9, hp9, hq9, hS9, hf9⟩
  · skip
    rw [show ((J 29) (tp - 1)) = 0 from hq9]
    have hO : OKW G h0 a (upd (upd (upd (upd (upd (upd (upd (upd (upd (upd F 5 (nI cs)) 6 (nI rg)) 18 (nI ba)) 19 (nI (tp - 1))) 20 (nI pc)) 21 (nI (pc + 1))) 22 (nI on)) 23 5) 26 (nI ht)) 28 (nI lm)) (updR (updR (updR (updR R 5 (.ref pq)) 6 (.ref (it j9))) 7 (.ref (a sp))) 8 (.ref (a op))) Z B J K.1 (fun q99 x99 => x99 = rep G a K q99) w := hO.to rfl
    obtain ⟨_, qr9, hqr10⟩ := hO.2.1 28 _ (sg_28 G h0 a _ _ _ _ _)
    refine pc_V0 (G := G) (As := [.long 0]) (rest := []) hx hb hml hown hq hE hX pX0_al hP hD hS hA hl.1 (Y_throwN l G h0 a (upd (upd (upd (upd (upd (upd (upd (upd (upd (upd F 5 (nI cs)) 6 (nI rg)) 18 (nI ba)) 19 (nI (tp - 1))) 20 (nI pc)) 21 (nI (pc + 1))) 22 (nI on)) 23 5) 26 (nI ht)) 28 (nI lm)) (updR (updR (updR (updR R 5 (.ref pq)) 6 (.ref (it j9))) 7 (.ref (a sp))) 8 (.ref (a op))) Z B J K.1 (fun q99 x99 => x99 = rep G a K q99) w hO) (gV pw_687 pw_688 pw_689 pw_539 pw_662) hV_X5_throwValue qr9 4 hqr10 rfl rfl rfl (Nat.le_of_ble_eq_true rfl) dX5_stepAmongThings_171 ⟨Nat.le_of_ble_eq_true rfl, Nat.le_of_ble_eq_true rfl⟩ ⟨Nat.le_of_ble_eq_true rfl, Nat.le_of_ble_eq_true rfl⟩ (fun v8 u6 H locs hw7 hP hD hS => ?_)
    obtain ⟨w, _⟩ := u6
    obtain ⟨hw7, hO⟩ := hw7
    obtain rfl : v8 = none := hw7
    have hO : OKP G h0 a (upd (upd (upd (upd (upd (upd (upd (upd (upd (upd F 5 (nI cs)) 6 (nI rg)) 18 (nI ba)) 19 (nI (tp - 1))) 20 (nI pc)) 21 (nI (pc + 1))) 22 (nI on)) 23 5) 26 (nI ht)) 28 (nI lm)) (updR (updR (updR (updR R 5 (.ref pq)) 6 (.ref (it j9))) 7 (.ref (a sp))) 8 (.ref (a op))) (rfV 1) B J K w := hO.to rfl
    refine W.widen (k := 0) (n := 0) (Nat.le_of_ble_eq_true rfl) (Nat.le_of_ble_eq_true rfl) ?_
    refine W.eq (g2 := F0 m 174 ls []) rfl ?_
    refine lv_goto (tgt := 181) hx hb dX5_stepAmongThings_174 (by decide) ?_
    have hz11 : StG y it (B 16) (B 19) (mT (B 16) (B 30) fl on pc) pc (tp - 1) (5 : Int32) (nI (pc + 1)) (rfV 1) J fl sp op ht (B 30) on ba (it j9) := (StG.ofQ2 (StQ.thrown hmi hmo (by rw [hop]; decide) (RaO.own hmi.2.1 (by omega) (by omega)) (fun _ _ => rfl) (Nat.le_refl _)) hle (by rw [hop]; decide))
    have hz12 : (B 33) 5 = nI fl := hfl
    have hz13 : fl ≤ fl ∧ (tp - 1) ≤ 32000 ∧ (8 ≤ ht ∧ ht ≤ 3008) ∧ ba ≤ 32000 ∧ on ≤ 100 := (by omega)
    have hz14 : (sp = 34 ∧ op = 35) ∨ (sp = 35 ∧ op = 34) := hsp
    have hz15 : LoE J sp op := hle
    have hO : OKP G h0 a (upd (upd (upd (upd (upd (upd (upd (upd (upd (upd (upd F 5 (nI cs)) 6 (nI rg)) 18 (nI ba)) 19 (nI (tp - 1))) 20 (nI pc)) 21 (nI (pc + 1))) 22 (nI on)) 23 (5 : Int32)) 26 (nI ht)) 27 (F 27)) 28 (nI lm)) (updR (updR (updR (updR R 5 (.ref pq)) 6 (.ref (it j9))) 7 (.ref (a sp))) 8 (.ref (a op))) (rfV 1) (updA (updA (updA B 30 (B 30)) 32 (B 32)) 33 (B 33)) J K w := hO.to rfl
    exact W.vret hx hb hr (fun t99 ht99 hW99 => ⟨⟨_, (w, ((tp - 1), (5 : Int32), (nI (pc + 1)), (rfV 1), J, (B 33), fl, sp, op, ht, (F 27), ba, on, (it j9), (B 30), (B 32))), rfl, ⟨rfl, hz11, hz12, hz13, hz14, hz15, hO⟩, by rw [ht99]; exact hP, hD⟩, hS.F ht99⟩) hS.2.2 dX5_stepAmongThings_181
  · skip
    rw [show ((J 29) (tp - 1)) = rfV p9 from hq9]
    obtain ⟨n9, hh19, hh29, hh39, hh49, hh59, hh69, hh79⟩ := HT.hd hht hS9
    have hO : OKW G h0 a (upd (upd (upd (upd (upd (upd (upd (upd (upd (upd (upd F 5 (nI cs)) 6 (nI rg)) 18 (nI ba)) 19 (nI (tp - 1))) 20 (nI pc)) 21 (nI (pc + 1))) 22 (nI on)) 23 5) 26 (nI ht)) 28 (nI lm)) 26 (nI ht)) (updR (updR (updR (updR (updR (updR R 5 (.ref pq)) 6 (.ref (it j9))) 7 (.ref (a sp))) 8 (.ref (a op))) 7 (.ref (a sp))) 8 (.ref (a op))) Z B J K.1 (fun q99 x99 => x99 = rep G a K q99) w := hO.to rfl
    obtain ⟨_, qr19, hqr20⟩ := hO.2.1 28 _ (sg_28 G h0 a _ _ _ _ _)
    refine pc_V0 (G := G) (As := [.long (rfV p9)]) (rest := []) hx hb hml hown hq hE hX pX0_al hP hD hS hA hl.1 (Y_throwR l G h0 a (upd (upd (upd (upd (upd (upd (upd (upd (upd (upd F 5 (nI cs)) 6 (nI rg)) 18 (nI ba)) 19 (nI (tp - 1))) 20 (nI pc)) 21 (nI (pc + 1))) 22 (nI on)) 23 5) 26 (nI ht)) 28 (nI lm)) (updR (updR (updR (updR R 5 (.ref pq)) 6 (.ref (it j9))) 7 (.ref (a sp))) 8 (.ref (a op))) Z B J K.1 (fun q99 x99 => x99 = rep G a K q99) w p9 n9 d9 sp op ht hsp (by omega) (by omega) hh59 hO) (gV pw_687 pw_688 pw_689 pw_539 pw_662) hV_X5_throwValue qr19 4 hqr20 rfl rfl rfl (Nat.le_of_ble_eq_true rfl) dX5_stepAmongThings_171 ⟨Nat.le_of_ble_eq_true rfl, Nat.le_of_ble_eq_true rfl⟩ ⟨Nat.le_of_ble_eq_true rfl, Nat.le_of_ble_eq_true rfl⟩ (fun v18 u16 H locs hw17 hP hD hS => ?_)
    obtain ⟨w, z21⟩ := u16
    obtain ⟨hw17, h22, hO⟩ := hw17
    have h22 : (64 ≤ d9 ∧ z21 = rfV 2) ∨ (d9 < 64 ∧ z21 = rfV p9) := h22
    obtain rfl : v18 = none := hw17
    have hO : OKP G h0 a (upd (upd (upd (upd (upd (upd (upd (upd (upd (upd F 5 (nI cs)) 6 (nI rg)) 18 (nI ba)) 19 (nI (tp - 1))) 20 (nI pc)) 21 (nI (pc + 1))) 22 (nI on)) 23 5) 26 (nI ht)) 28 (nI lm)) (updR (updR (updR (updR R 5 (.ref pq)) 6 (.ref (it j9))) 7 (.ref (a sp))) 8 (.ref (a op))) z21 B J K w := hO.to rfl
    refine W.widen (k := 0) (n := 0) (Nat.le_of_ble_eq_true rfl) (Nat.le_of_ble_eq_true rfl) ?_
    refine W.eq (g2 := F0 m 174 ls []) rfl ?_
    refine lv_goto (tgt := 181) hx hb dX5_stepAmongThings_174 (by decide) ?_
    have hz23 : StG y it (B 16) (B 19) (mT (B 16) (B 30) fl on pc) pc (tp - 1) (5 : Int32) (nI (pc + 1)) z21 J fl sp op ht (B 30) on ba (it j9) := (StG.ofQ2 (StQ.thrown hmi hmo (by rw [hop]; decide) (by rcases h22 with z | z; (rw [z.2]; exact RaO.own hmi.2.1 (by omega) (by omega)); (rw [z.2]; exact RaO.of (by omega) hht hS9 hp9 z.1)) (fun _ _ => rfl) (Nat.le_refl _)) hle (by rw [hop]; decide))
    have hz24 : (B 33) 5 = nI fl := hfl
    have hz25 : fl ≤ fl ∧ (tp - 1) ≤ 32000 ∧ (8 ≤ ht ∧ ht ≤ 3008) ∧ ba ≤ 32000 ∧ on ≤ 100 := (by omega)
    have hz26 : (sp = 34 ∧ op = 35) ∨ (sp = 35 ∧ op = 34) := hsp
    have hz27 : LoE J sp op := hle
    have hO : OKP G h0 a (upd (upd (upd (upd (upd (upd (upd (upd (upd (upd (upd F 5 (nI cs)) 6 (nI rg)) 18 (nI ba)) 19 (nI (tp - 1))) 20 (nI pc)) 21 (nI (pc + 1))) 22 (nI on)) 23 (5 : Int32)) 26 (nI ht)) 27 (F 27)) 28 (nI lm)) (updR (updR (updR (updR R 5 (.ref pq)) 6 (.ref (it j9))) 7 (.ref (a sp))) 8 (.ref (a op))) z21 (updA (updA (updA B 30 (B 30)) 32 (B 32)) 33 (B 33)) J K w := hO.to rfl
    exact W.vret hx hb hr (fun t99 ht99 hW99 => ⟨⟨_, (w, ((tp - 1), (5 : Int32), (nI (pc + 1)), z21, J, (B 33), fl, sp, op, ht, (F 27), ba, on, (it j9), (B 30), (B 32))), rfl, ⟨rfl, hz23, hz24, hz25, hz26, hz27, hO⟩, by rw [ht99]; exact hP, hD⟩, hS.F ht99⟩) hS.2.2 dX5_stepAmongThings_181
set_option maxHeartbeats 8000000 in
theorem Y_stepThings (l : Launch) (G : pT) (h0 : Nat) (a : Nat → Nat) (F : Nat → Int32) (R : Nat → Value) (Z : Int64) (B : Nat → Nat → Int32) (J : Nat → Nat → Int64) (K : PK) (w : va_W) (y : TY) (Sh : Nat → Nat) (nn : Nat → Nat) (on : Nat) (j9 : Nat) (ba : Nat) (pc : Nat) (tp : Nat) (sp : Nat) (op : Nat) (ht : Nat) (fl : Nat) (pq : Nat) (dr : Nat) (ml : Nat) (nd : Nat) (nm : Nat) (cp : Nat) (it : Nat → Nat) (s9 : Nat) (g : Nat → Nat → Nat) (rk : Nat → Nat) (cs : Nat) (rg : Nat) (lm : Nat) (ko : Nat) (hsp : (sp = 34 ∧ op = 35) ∨ (sp = 35 ∧ op = 34)) (hmi : MIy y (B 19) Sh nn (J sp) ht (B 30) (J 29) on j9 ba pc tp) (hmo : MOy y (B 16) (B 17) (B 18) (B 19) j9) (hZ : Z = 0) (hfl : B 33 5 = nI fl) (hflb : fl ≤ 20000) (hwp : WPr G K g) (hps : PgT G K g (a 1) pq dr ml nd nm cp it s9) (hrk : RkO K rk) (hpy : PrY y K B dr nd nm it cs rg) (hle : LoE J sp op) (hlm : lm ≤ 3008) (hcs9 : cs ≤ 10000) (hop : B 16 pc = nI ko) (hru : IRy y (B 16) (B 17) (B 18) pc j9 ko) (hko : 14 ≤ ko ∧ ko < 26) (hO : OKP G h0 a (upd (upd (upd (upd (upd (upd (upd (upd (upd (upd F 5 (nI cs)) 6 (nI rg)) 18 (nI ba)) 19 (nI tp)) 20 (nI pc)) 21 (nI (pc + 1))) 22 (nI on)) 23 5) 26 (nI ht)) 28 (nI lm)) (updR (updR (updR (updR R 5 (.ref pq)) 6 (.ref (it j9))) 7 (.ref (a sp))) 8 (.ref (a op))) Z B J K w) : PM l G pX0 yX5_stepAmongThings cX5_stepAmongThings 4 none ({ frames := 40, cells := 0, slots := 0, locals := 4000 }) [.ref (a 5), .int (nI ko), .int (B 17 pc), .int (B 18 pc)] w (fun (v : Option Value) (u : va_W × (Nat × Int32 × Int32 × Int64 × (Nat → Nat → Int64) × (Nat → Int32) × Nat × Nat × Nat × Nat × Int32 × Nat × Nat × Nat × (Nat → Int32) × (Nat → Int32))) => v = none ∧ (StG y it (B 16) (B 19) (mT (B 16) (B 30) fl on pc) pc u.2.1 u.2.2.1 u.2.2.2.1 u.2.2.2.2.1 u.2.2.2.2.2.1 u.2.2.2.2.2.2.2.1 u.2.2.2.2.2.2.2.2.1 u.2.2.2.2.2.2.2.2.2.1 u.2.2.2.2.2.2.2.2.2.2.1 u.2.2.2.2.2.2.2.2.2.2.2.2.2.2.2.1 u.2.2.2.2.2.2.2.2.2.2.2.2.2.1 u.2.2.2.2.2.2.2.2.2.2.2.2.1 u.2.2.2.2.2.2.2.2.2.2.2.2.2.2.1) ∧ (u.2.2.2.2.2.2.1 5 = nI u.2.2.2.2.2.2.2.1) ∧ (u.2.2.2.2.2.2.2.1 ≤ fl ∧ u.2.1 ≤ 32000 ∧ (8 ≤ u.2.2.2.2.2.2.2.2.2.2.1 ∧ u.2.2.2.2.2.2.2.2.2.2.1 ≤ 3008) ∧ u.2.2.2.2.2.2.2.2.2.2.2.2.1 ≤ 32000 ∧ u.2.2.2.2.2.2.2.2.2.2.2.2.2.1 ≤ 100) ∧ ((u.2.2.2.2.2.2.2.2.1 = 34 ∧ u.2.2.2.2.2.2.2.2.2.1 = 35) ∨ (u.2.2.2.2.2.2.2.2.1 = 35 ∧ u.2.2.2.2.2.2.2.2.2.1 = 34)) ∧ (LoE u.2.2.2.2.2.1 u.2.2.2.2.2.2.2.2.1 u.2.2.2.2.2.2.2.2.2.1) ∧ (OKP G h0 a (upd (upd (upd (upd (upd (upd (upd (upd (upd (upd (upd F 5 (nI cs)) 6 (nI rg)) 18 (nI u.2.2.2.2.2.2.2.2.2.2.2.2.1)) 19 (nI u.2.1)) 20 (nI pc)) 21 u.2.2.2.1) 22 (nI u.2.2.2.2.2.2.2.2.2.2.2.2.2.1)) 23 u.2.2.1) 26 (nI u.2.2.2.2.2.2.2.2.2.2.1)) 27 u.2.2.2.2.2.2.2.2.2.2.2.1) 28 (nI lm)) (updR (updR (updR (updR R 5 (.ref pq)) 6 (.ref u.2.2.2.2.2.2.2.2.2.2.2.2.2.2.1)) 7 (.ref (a u.2.2.2.2.2.2.2.2.1))) 8 (.ref (a u.2.2.2.2.2.2.2.2.2.1))) u.2.2.2.2.1 (updA (updA (updA B 30 u.2.2.2.2.2.2.2.2.2.2.2.2.2.2.2.1) 32 u.2.2.2.2.2.2.2.2.2.2.2.2.2.2.2.2) 33 u.2.2.2.2.2.2.1) u.2.2.2.2.2.1 K u.1)) (fun u => u.1) := by
  rcases (show ko = 14 ∨ ko = 15 ∨ ko = 16 ∨ ko = 17 ∨ ko = 18 ∨ ko = 19 ∨ ko = 20 ∨ ko = 21 ∨ ko = 22 ∨ ko = 23 ∨ ko = 24 ∨ ko = 25 by omega) with rfl | rfl | rfl | rfl | rfl | rfl | rfl | rfl | rfl | rfl | rfl | rfl
  · exact Y_th14 l G h0 a F R Z B J K w y Sh nn on j9 ba pc tp sp op ht fl pq dr ml nd nm cp it s9 g rk cs rg lm hsp hmi hmo hZ hfl hflb hwp hps hrk hpy hle hlm hcs9 hop hru hO
  · exact Y_th15 l G h0 a F R Z B J K w y Sh nn on j9 ba pc tp sp op ht fl pq dr ml nd nm cp it s9 g rk cs rg lm hsp hmi hmo hZ hfl hflb hwp hps hrk hpy hle hlm hcs9 hop hru hO
  · exact Y_th16 l G h0 a F R Z B J K w y Sh nn on j9 ba pc tp sp op ht fl pq dr ml nd nm cp it s9 g rk cs rg lm hsp hmi hmo hZ hfl hflb hwp hps hrk hpy hle hlm hcs9 hop hru hO
  · exact Y_th17 l G h0 a F R Z B J K w y Sh nn on j9 ba pc tp sp op ht fl pq dr ml nd nm cp it s9 g rk cs rg lm hsp hmi hmo hZ hfl hflb hwp hps hrk hpy hle hlm hcs9 hop hru hO
  · exact Y_th18 l G h0 a F R Z B J K w y Sh nn on j9 ba pc tp sp op ht fl pq dr ml nd nm cp it s9 g rk cs rg lm hsp hmi hmo hZ hfl hflb hwp hps hrk hpy hle hlm hcs9 hop hru hO
  · exact Y_th19 l G h0 a F R Z B J K w y Sh nn on j9 ba pc tp sp op ht fl pq dr ml nd nm cp it s9 g rk cs rg lm hsp hmi hmo hZ hfl hflb hwp hps hrk hpy hle hlm hcs9 hop hru hO
  · exact Y_th20 l G h0 a F R Z B J K w y Sh nn on j9 ba pc tp sp op ht fl pq dr ml nd nm cp it s9 g rk cs rg lm hsp hmi hmo hZ hfl hflb hwp hps hrk hpy hle hlm hcs9 hop hru hO
  · exact Y_th21 l G h0 a F R Z B J K w y Sh nn on j9 ba pc tp sp op ht fl pq dr ml nd nm cp it s9 g rk cs rg lm hsp hmi hmo hZ hfl hflb hwp hps hrk hpy hle hlm hcs9 hop hru hO
  · exact Y_th22 l G h0 a F R Z B J K w y Sh nn on j9 ba pc tp sp op ht fl pq dr ml nd nm cp it s9 g rk cs rg lm hsp hmi hmo hZ hfl hflb hwp hps hrk hpy hle hlm hcs9 hop hru hO
  · exact Y_th23 l G h0 a F R Z B J K w y Sh nn on j9 ba pc tp sp op ht fl pq dr ml nd nm cp it s9 g rk cs rg lm hsp hmi hmo hZ hfl hflb hwp hps hrk hpy hle hlm hcs9 hop hru hO
  · exact Y_th24 l G h0 a F R Z B J K w y Sh nn on j9 ba pc tp sp op ht fl pq dr ml nd nm cp it s9 g rk cs rg lm hsp hmi hmo hZ hfl hflb hwp hps hrk hpy hle hlm hcs9 hop hru hO
  · exact Y_th25 l G h0 a F R Z B J K w y Sh nn on j9 ba pc tp sp op ht fl pq dr ml nd nm cp it s9 g rk cs rg lm hsp hmi hmo hZ hfl hflb hwp hps hrk hpy hle hlm hcs9 hop hru hO
