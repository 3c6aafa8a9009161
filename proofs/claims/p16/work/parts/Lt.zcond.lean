set_option maxHeartbeats 24000000 in
set_option maxRecDepth 100000 in
theorem Y_loopCondN (l : Launch) (G : pT) (h0 : Nat) (a : Nat → Nat) (F : Nat → Int32) (R : Nat → Value) (Z : Int64) (B : Nat → Nat → Int32) (J : Nat → Nat → Int64) (K : PK) (w : va_W) (pq : Nat) (dr : Nat) (ml : Nat) (nd : Nat) (nm : Nat) (cp : Nat) (it : Nat → Nat) (s9 : Nat) (q : Nat) (mq : Nat) (cs : Nat) (vr : Nat) (sz : Nat) (n : Nat) (tc : Nat) (hd : Nat) (dp : Nat) (rg : Nat) (ls9 : Int32) (lp9 : Option Nat) (g : Nat → Nat → Nat) (rk : Nat → Nat) (pb : PNb) (Ag : Nat → AS) (Q9 : RX) (pd : Nat → Prop) (sl : Nat → Nat) (m9 : Nat) (lw : Nat) (c0 : Nat) (rt : Nat) (gr : Nat) (as9 : Int32) (hsz : sz ≤ 5000) (hwp : WPr G K g) (hps : PgT G K g (a 1) pq dr ml nd nm cp it s9) (hrk : RkO K rk) (hcs : cs ≤ 10000) (hvr : vr ≤ 30) (hng : Nng (B 18)) (hmq : K.1 mq = 3) (hqT : K.1 q = 1) (hqL : 1 ≤ g 0 q ∧ g 0 q ≤ n) (hrt : K.2.1 10 mq = nI rt) (hrv : TyV nd rt ∧ (bX pb).2.2.2.2.1 m9 = rt) (hdp : dp ≤ 71) (hrg : rg ≤ 625) (hlo : LpO K lp9) (hek : EkA pb K g (B 7) (B 11) sz) (hcO : OwC K dr mq c0) (hna : NaB pb G K (B 11) dr nd sz) (hen : EnV (B 26) (B 27) nd vr hd c0 sl) (hao : AsO as9) (hem : EmB pb B Ag pd m9 dp lw cs as9 hd sl []) (htc : cs + 2 * tc + 1 ≤ 9999) (hO : OKP G h0 a (upd (upd (upd (upd (upd (upd (upd (upd F 2 (nI sz)) 5 (nI cs)) 6 (nI rg)) 7 (nI hd)) 8 (nI dp)) 12 (nI vr)) 13 as9) 16 ls9) (updR (updR (updR R 2 (.ref pq)) 3 (.ref mq)) 4 (va_rf lp9)) Z B J K w) (hl0 : l.stackTraces = false) : PBn l G pX0 yX0_loopCondition cX0_loopCondition 2 (some .int) ({ frames := (5 * n + 35), cells := 1, slots := 6, locals := (200 * n + 640) }) [.ref (a 4), .null] w (fun (v : Option Value) (u : va_W × (PK × (Nat → Nat → Int32) × Nat × Int32 × Int32 × Int32 × Int32 × (Nat → AS) × (Nat → Prop) × List Nat)) => v = some (.int u.2.2.2.2.2.2.2.1) ∧ (SmW B u.2.2.1 cs) ∧ (BdE K u.2.1) ∧ (BeF K u.2.1) ∧ (BeL K u.2.1 none) ∧ (Bth B u.2.2.1) ∧ (BeR B u.2.2.1) ∧ (cs ≤ u.2.2.2.1 ∧ u.2.2.2.1 ≤ cs + 2 * tc + 1) ∧ (AsO u.2.2.2.2.1 ∧ AsO u.2.2.2.2.2.1 ∧ AsO u.2.2.2.2.2.2.1) ∧ (¬ u.2.2.2.2.2.2.1 = -1 → ¬ as9 = -1) ∧ (StW pb.1 pb.2.1 pb.2.2.1 pb.2.2.2 Ag u.2.2.2.2.2.2.2.2.1 Q9 Q9 pd u.2.2.2.2.2.2.2.2.2.1 m9 dp lw cs u.2.2.2.1 as9 u.2.2.2.2.2.1 hd hd sl sl gr gr (u.2.2.1 16) (u.2.2.1 17) (u.2.2.1 18) (u.2.2.1 19) []) ∧ (ExJ (u.2.2.1 16) (u.2.2.1 17) u.2.2.2.2.2.2.2.2.1 u.2.2.2.2.2.2.2.1 u.2.2.2.2.2.2.2.2.2.2 lw cs u.2.2.2.1 hd sl u.2.2.2.2.2.1 u.2.2.2.2.2.2.1) ∧ (∀ z : Nat, u.2.2.2.2.2.2.2.2.2.1 z ↔ pd z ∨ z ∈ u.2.2.2.2.2.2.2.2.2.2) ∧ (OKP G h0 a (upd (upd (upd (upd (upd (upd (upd (upd (upd (upd F 2 (nI sz)) 5 (nI u.2.2.2.1)) 6 (nI rg)) 7 (nI hd)) 8 (nI dp)) 12 (nI vr)) 13 u.2.2.2.2.1) 14 u.2.2.2.2.2.1) 15 u.2.2.2.2.2.2.1) 16 ls9) (updR (updR (updR R 2 (.ref pq)) 3 (.ref mq)) 4 (va_rf lp9)) Z u.2.2.1 J u.2.1 u.1)) (fun u => u.1) (fun (u : va_W × (PK × (Nat → Nat → Int32) × Nat × Int32 × Int32 × Int32 × Int32 × (Nat → AS) × (Nat → Prop) × List Nat)) => 0) (fun (u : va_W × (PK × (Nat → Nat → Int32) × Nat × Int32 × Int32 × Int32 × Int32 × (Nat → AS) × (Nat → Prop) × List Nat)) => 0) (fun (u : va_W × (Nat → Int32) × (Nat → Value) × (Nat → Nat → Int32)) => ThQ G h0 a (upd (upd (upd (upd (upd (upd (upd (upd F 2 (nI sz)) 5 (nI cs)) 6 (nI rg)) 7 (nI hd)) 8 (nI dp)) 12 (nI vr)) 13 as9) 16 ls9) (updR (updR (updR R 2 (.ref pq)) 3 (.ref mq)) 4 (va_rf lp9)) Z B J u) (fun u => u.1) := by
  intro sz
  refine vx_ofW (cc := cX0_loopCondition) (maxL := 2) (ret := (some .int)) (by decide) rfl ?_
  intro p e s m args below meth c s₁ B9 hml hnt hv
  obtain ⟨rfl, hsz, hP, hD0, hE, hX⟩ := hv
  have hx := B9.exec
  have hb := B9.bytes
  have hr := B9.returns
  have hts := atoms_spec (ws := Cond.code yX0_loopCondition cX0_loopCondition 2 (some .int) :: pw) B9.pre
  have hq : ∀ w ∈ pw, w.before _ s = true := fun w h => hts w (List.mem_cons_of_mem _ h)
  have hown : s.vm.findClass RX0 = some m.cls := findClass_of_methodNamed B9.named
  have hlocks := B9.notSynchronized
  subst hsz
  have hD := hD0.self (sz := s.heap.size)
  have hA : ∀ q : Nat, s.heap.size ≤ q → va_A w s.heap.size q := fun q h => Or.inr h
  generalize va_A w s.heap.size = A at hD hE hA ⊢
  have hS : va_S A s.heap s.heap [] := va_S.rf
  have hl := lv_entry ([.ref (a 4), .null]) (n := 2) (Nat.le_of_ble_eq_true rfl)
  rw [lg_entry_eq]
  generalize (lg_sl ([.ref (a 4), .null]) ++ List.replicate (2 - (lg_sl ([.ref (a 4), .null])).length) Slot.unset).toArray = ls at hl ⊢
  have hl : lv_has ls 2 [(0, .ref (a 4)), (1, .null)] := hl
  have hpg := hps.1
  have hp1 := hpg.1
  have hp2 := hpg.2.1
  have hp3 := hpg.2.2.1
  have hp4 := hpg.2.2.2.1
  have hp5 := hpg.2.2.2.2.1
  have hp6 := hpg.2.2.2.2.2.1
  have hp8 := hpg.2.2.2.2.2.2.2.1
  have hp9 := hpg.2.2.2.2.2.2.2.2
  have hdr0 : ¬ K.1 dr = 0 := by rw [hp4]; decide
  have hrl := hrv.1.lt hna.1.1
  have hst0 : StW pb.1 pb.2.1 pb.2.2.1 pb.2.2.2 Ag Ag Q9 Q9 pd pd m9 dp lw cs cs as9 as9 hd hd sl sl gr gr (B 16) (B 17) (B 18) (B 19) ([] : List Nat) := StW.nil hem
  refine lv_aload_nN hx hb dX0_loopCondition_0 rfl (lv_at hl 1 rfl) ?_
  refine lv_ifnonnullN hx hb dX0_loopCondition_1 ?_
  refine lv_aload_n hx hb dX0_loopCondition_4 rfl (lv_at hl 0 rfl) ?_
  refine lv_aload_n hx hb dX0_loopCondition_5 rfl (lv_at hl 0 rfl) ?_
  refine c_get (v := .int as9) (C := RX0) (Tc := TX0) (N := 13) (ci := 0) hx hb hq pin_wsX00 hown hE hP hO 24 (sg_24 G h0 a _ _ _ _ _) rfl 8 (by decide) (hq _ pw_55) (fun _ h9 => h9) rfl dX0_loopCondition_6 ?_
  refine c_put (v := .int as9) (ty := .int) (C := RX0) (Tc := TX0) (N := 13) (ci := 0) hx hb hq pin_wsX00 tyX0 tyX0_ok nmX0 hown hE hP hD hS hO 24 (sg_24 G h0 a _ _ _ _ _) rfl 9 (by decide) (hq _ pw_156) (fun _ h9 => h9) rfl (by decide +kernel) rfl rfl (Nat.le_of_ble_eq_true rfl) (sf_14 G h0 a _ _ _ _ _ as9) dX0_loopCondition_9 (fun H locs w hP hD hS hO => ?_)
  refine lv_aload_n hx hb dX0_loopCondition_12 rfl (lv_at hl 0 rfl) ?_
  refine lv_iconst (v := (-1)) hx hb dX0_loopCondition_13 (by decide) ?_
  refine c_put (v := .int (-1)) (ty := .int) (C := RX0) (Tc := TX0) (N := 13) (ci := 0) hx hb hq pin_wsX00 tyX0 tyX0_ok nmX0 hown hE hP hD hS hO 24 (sg_24 G h0 a _ _ _ _ _) rfl 10 (by decide) (hq _ pw_157) (fun _ h9 => h9) rfl (by decide +kernel) rfl rfl (Nat.le_of_ble_eq_true rfl) (sf_15 G h0 a _ _ _ _ _ (-1)) dX0_loopCondition_14 (fun H locs w hP hD hS hO => ?_)
  refine lv_iconst (v := (-1)) hx hb dX0_loopCondition_17 (by decide) ?_
  refine W_size (fun hz1 hz2 => ?_)
  refine vx_ret ?_
  have hz1 : SmW B B cs := (fun _ _ => ⟨rfl, rfl, rfl, rfl⟩)
  have hz2 : BdE K K := BdE.rfl
  have hz3 : BeF K K := BeF.rfl
  have hz4 : BeL K K none := BeL.rfl
  have hz5 : Bth B B := (show Thx (upd (upd (upd (upd (upd (upd (upd (upd F 2 (nI sz)) 5 (nI cs)) 6 (nI rg)) 7 (nI hd)) 8 (nI dp)) 12 (nI vr)) 13 as9) 16 ls9) (upd (upd (upd (upd (upd (upd (upd (upd (upd (upd F 2 (nI sz)) 5 (nI cs)) 6 (nI rg)) 7 (nI hd)) 8 (nI dp)) 12 (nI vr)) 13 as9) 16 ls9) 14 as9) 15 (-1)) B B from (Thx.f (Thx.f Thx.rfl (by omega)) (by omega))).2
  have hz6 : BeR B B := BeR.rfl
  have hz7 : cs ≤ cs ∧ cs ≤ cs + 2 * tc + 1 := (by omega)
  have hz8 : AsO as9 ∧ AsO as9 ∧ AsO (-1 : Int32) := ⟨hao, hao, AsO.m1⟩
  have hz9 : ¬ (-1 : Int32) = -1 → ¬ as9 = -1 := (fun z9 => absurd rfl z9)
  have hz10 : StW pb.1 pb.2.1 pb.2.2.1 pb.2.2.2 Ag Ag Q9 Q9 pd pd m9 dp lw cs cs as9 as9 hd hd sl sl gr gr (B 16) (B 17) (B 18) (B 19) [] := hst0
  have hz11 : ExJ (B 16) (B 17) Ag (-1 : Int32) ([] : List Nat) lw cs cs hd sl as9 (-1 : Int32) := (Or.inl ⟨rfl, rfl, rfl⟩)
  have hz12 : ∀ z : Nat, pd z ↔ pd z ∨ z ∈ ([] : List Nat) := (fun z9 => ⟨Or.inl, fun h9 => h9.elim id (fun h8 => absurd h8 (List.not_mem_nil))⟩)
  have hO : OKP G h0 a (upd (upd (upd (upd (upd (upd (upd (upd (upd (upd F 2 (nI sz)) 5 (nI cs)) 6 (nI rg)) 7 (nI hd)) 8 (nI dp)) 12 (nI vr)) 13 as9) 14 as9) 15 (-1 : Int32)) 16 ls9) (updR (updR (updR R 2 (.ref pq)) 3 (.ref mq)) 4 (va_rf lp9)) Z B J K w := hO.to rfl
  refine W.widen (k := 1) (n := 6) (by omega) (by omega) ?_
  have hzz1 : H.size ≤ s.heap.size + (0) := (by have z : 0 ≤ 0 := (by omega); omega)
  have hzz2 : hSl H ≤ hSl s.heap + (0) := (by have z : 0 ≤ 0 := (by omega); omega)
  exact W.iret (v := (-1)) hx hb hr (fun t99 ht99 hW99 => ⟨⟨_, (w, (K, B, cs, as9, as9, (-1 : Int32), (-1 : Int32), Ag, pd, ([] : List Nat))), rfl, ⟨rfl, hz1, hz2, hz3, hz4, hz5, hz6, hz7, hz8, hz9, hz10, hz11, hz12, hO⟩, by rw [ht99]; exact hP, hD, by rw [ht99]; exact hzz1, by rw [ht99]; exact hzz2⟩, hS.F ht99⟩) hS.2.2 dX0_loopCondition_18
set_option maxHeartbeats 24000000 in
set_option maxRecDepth 100000 in
theorem Y_loopCond (l : Launch) (G : pT) (h0 : Nat) (a : Nat → Nat) (F : Nat → Int32) (R : Nat → Value) (Z : Int64) (B : Nat → Nat → Int32) (J : Nat → Nat → Int64) (K : PK) (w : va_W) (pq : Nat) (dr : Nat) (ml : Nat) (nd : Nat) (nm : Nat) (cp : Nat) (it : Nat → Nat) (s9 : Nat) (q : Nat) (mq : Nat) (cs : Nat) (vr : Nat) (sz : Nat) (n : Nat) (x0 : Nat) (tc : Nat) (hd : Nat) (dp : Nat) (rg : Nat) (ls9 : Int32) (lp9 : Option Nat) (g : Nat → Nat → Nat) (rk : Nat → Nat) (pb : PNb) (Ag : Nat → AS) (Q9 : RX) (pd : Nat → Prop) (sl : Nat → Nat) (m9 : Nat) (lw : Nat) (c0 : Nat) (rt : Nat) (gr : Nat) (as9 : Int32) (hsz : sz ≤ 5000) (hwp : WPr G K g) (hps : PgT G K g (a 1) pq dr ml nd nm cp it s9) (hrk : RkO K rk) (hcs : cs ≤ 10000) (hvr : vr ≤ 30) (hng : Nng (B 18)) (hmq : K.1 mq = 3) (hqT : K.1 q = 1) (hqL : 1 ≤ g 0 q ∧ g 0 q ≤ n) (hrt : K.2.1 10 mq = nI rt) (hrv : TyV nd rt ∧ (bX pb).2.2.2.2.1 m9 = rt) (hdp : dp ≤ 71) (hrg : rg ≤ 625) (hlo : LpO K lp9) (hek : EkA pb K g (B 7) (B 11) sz) (hcO : OwC K dr mq c0) (hna : NaB pb G K (B 11) dr nd sz) (hen : EnV (B 26) (B 27) nd vr hd c0 sl) (hao : AsO as9) (hem : EmB pb B Ag pd m9 dp lw cs as9 hd sl []) (hx0 : K.1 x0 = 1) (hx0l : 1 ≤ g 0 x0 ∧ g 0 x0 ≤ n) (hx0e : EsO g x0 ∧ tlE g x0 ≤ tc) (htc : cs + 2 * tc + 1 ≤ 9999) (hO : OKP G h0 a (upd (upd (upd (upd (upd (upd (upd (upd F 2 (nI sz)) 5 (nI cs)) 6 (nI rg)) 7 (nI hd)) 8 (nI dp)) 12 (nI vr)) 13 as9) 16 ls9) (updR (updR (updR R 2 (.ref pq)) 3 (.ref mq)) 4 (va_rf lp9)) Z B J K w) (hl0 : l.stackTraces = false) : PBn l G pX0 yX0_loopCondition cX0_loopCondition 2 (some .int) ({ frames := (5 * n + 35), cells := 1, slots := 6, locals := (200 * n + 640) }) [.ref (a 4), .ref x0] w (fun (v : Option Value) (u : va_W × (PK × (Nat → Nat → Int32) × Nat × Int32 × Int32 × Int32 × Int32 × (Nat → AS) × (Nat → Prop) × List Nat)) => v = some (.int u.2.2.2.2.2.2.2.1) ∧ (SmW B u.2.2.1 cs) ∧ (BdE K u.2.1) ∧ (BeF K u.2.1) ∧ (BeL K u.2.1 none) ∧ (Bth B u.2.2.1) ∧ (BeR B u.2.2.1) ∧ (cs ≤ u.2.2.2.1 ∧ u.2.2.2.1 ≤ cs + 2 * tc + 1) ∧ (AsO u.2.2.2.2.1 ∧ AsO u.2.2.2.2.2.1 ∧ AsO u.2.2.2.2.2.2.1) ∧ (¬ u.2.2.2.2.2.2.1 = -1 → ¬ as9 = -1) ∧ (StW pb.1 pb.2.1 pb.2.2.1 pb.2.2.2 Ag u.2.2.2.2.2.2.2.2.1 Q9 Q9 pd u.2.2.2.2.2.2.2.2.2.1 m9 dp lw cs u.2.2.2.1 as9 u.2.2.2.2.2.1 hd hd sl sl gr gr (u.2.2.1 16) (u.2.2.1 17) (u.2.2.1 18) (u.2.2.1 19) []) ∧ (ExJ (u.2.2.1 16) (u.2.2.1 17) u.2.2.2.2.2.2.2.2.1 u.2.2.2.2.2.2.2.1 u.2.2.2.2.2.2.2.2.2.2 lw cs u.2.2.2.1 hd sl u.2.2.2.2.2.1 u.2.2.2.2.2.2.1) ∧ (∀ z : Nat, u.2.2.2.2.2.2.2.2.2.1 z ↔ pd z ∨ z ∈ u.2.2.2.2.2.2.2.2.2.2) ∧ (OKP G h0 a (upd (upd (upd (upd (upd (upd (upd (upd (upd (upd F 2 (nI sz)) 5 (nI u.2.2.2.1)) 6 (nI rg)) 7 (nI hd)) 8 (nI dp)) 12 (nI vr)) 13 u.2.2.2.2.1) 14 u.2.2.2.2.2.1) 15 u.2.2.2.2.2.2.1) 16 ls9) (updR (updR (updR R 2 (.ref pq)) 3 (.ref mq)) 4 (va_rf lp9)) Z u.2.2.1 J u.2.1 u.1)) (fun u => u.1) (fun (u : va_W × (PK × (Nat → Nat → Int32) × Nat × Int32 × Int32 × Int32 × Int32 × (Nat → AS) × (Nat → Prop) × List Nat)) => 0) (fun (u : va_W × (PK × (Nat → Nat → Int32) × Nat × Int32 × Int32 × Int32 × Int32 × (Nat → AS) × (Nat → Prop) × List Nat)) => 0) (fun (u : va_W × (Nat → Int32) × (Nat → Value) × (Nat → Nat → Int32)) => ThQ G h0 a (upd (upd (upd (upd (upd (upd (upd (upd F 2 (nI sz)) 5 (nI cs)) 6 (nI rg)) 7 (nI hd)) 8 (nI dp)) 12 (nI vr)) 13 as9) 16 ls9) (updR (updR (updR R 2 (.ref pq)) 3 (.ref mq)) 4 (va_rf lp9)) Z B J u) (fun u => u.1) := by
  intro sz
  refine vx_ofW (cc := cX0_loopCondition) (maxL := 2) (ret := (some .int)) (by decide) rfl ?_
  intro p e s m args below meth c s₁ B9 hml hnt hv
  obtain ⟨rfl, hsz, hP, hD0, hE, hX⟩ := hv
  have hx := B9.exec
  have hb := B9.bytes
  have hr := B9.returns
  have hts := atoms_spec (ws := Cond.code yX0_loopCondition cX0_loopCondition 2 (some .int) :: pw) B9.pre
  have hq : ∀ w ∈ pw, w.before _ s = true := fun w h => hts w (List.mem_cons_of_mem _ h)
  have hown : s.vm.findClass RX0 = some m.cls := findClass_of_methodNamed B9.named
  have hlocks := B9.notSynchronized
  subst hsz
  have hD := hD0.self (sz := s.heap.size)
  have hA : ∀ q : Nat, s.heap.size ≤ q → va_A w s.heap.size q := fun q h => Or.inr h
  generalize va_A w s.heap.size = A at hD hE hA ⊢
  have hS : va_S A s.heap s.heap [] := va_S.rf
  have hl := lv_entry ([.ref (a 4), .ref x0]) (n := 2) (Nat.le_of_ble_eq_true rfl)
  rw [lg_entry_eq]
  generalize (lg_sl ([.ref (a 4), .ref x0]) ++ List.replicate (2 - (lg_sl ([.ref (a 4), .ref x0])).length) Slot.unset).toArray = ls at hl ⊢
  have hl : lv_has ls 2 [(0, .ref (a 4)), (1, .ref x0)] := hl
  have hpg := hps.1
  have hp1 := hpg.1
  have hp2 := hpg.2.1
  have hp3 := hpg.2.2.1
  have hp4 := hpg.2.2.2.1
  have hp5 := hpg.2.2.2.2.1
  have hp6 := hpg.2.2.2.2.2.1
  have hp8 := hpg.2.2.2.2.2.2.2.1
  have hp9 := hpg.2.2.2.2.2.2.2.2
  have hdr0 : ¬ K.1 dr = 0 := by rw [hp4]; decide
  have hrl := hrv.1.lt hna.1.1
  have hst0 : StW pb.1 pb.2.1 pb.2.2.1 pb.2.2.2 Ag Ag Q9 Q9 pd pd m9 dp lw cs cs as9 as9 hd hd sl sl gr gr (B 16) (B 17) (B 18) (B 19) ([] : List Nat) := StW.nil hem
  have hx1 := hx0e.1.1
  have hx2 := hx0e.1.2
  have hx3 := hx0e.2
  have hx4 := hx1.1
  refine lv_aload_n hx hb dX0_loopCondition_0 rfl (lv_at hl 1 rfl) ?_
  refine lv_ifnonnull (tgt := 19) hx hb dX0_loopCondition_1 (by decide) ?_
  refine lv_aload_n hx hb dX0_loopCondition_19 rfl (lv_at hl 0 rfl) ?_
  refine lv_aload_n hx hb dX0_loopCondition_20 rfl (lv_at hl 1 rfl) ?_
  refine lv_aload_n hx hb dX0_loopCondition_21 rfl (lv_at hl 0 rfl) ?_
  refine lv_aload_n hx hb dX0_loopCondition_22 rfl (lv_at hl 1 rfl) ?_
  have hO : OKP G h0 a (upd (upd (upd (upd (upd (upd (upd (upd (upd (upd (upd (upd (upd F 2 (nI sz)) 5 (nI cs)) 6 (nI rg)) 7 (nI hd)) 8 (nI dp)) 12 (nI vr)) 13 as9) 16 ls9) 2 (nI sz)) 5 (nI cs)) 7 (nI hd)) 12 (nI vr)) 13 as9) (updR (updR (updR (updR (updR R 2 (.ref pq)) 3 (.ref mq)) 4 (va_rf lp9)) 2 (.ref pq)) 3 (.ref mq)) Z B J K w := hO.to rfl
  obtain ⟨_, qr4, hqr5⟩ := hO.2.1 24 _ (sg_24 G h0 a _ _ _ _ _)
  refine pn_V0 (G := G) (As := [.ref x0]) (rest := [.ref x0, .ref (a 4)]) hx hb hml hown hq hE hX pX0_al hP hD hS hA hl.1 ((PY_all l G n) h0 a (upd (upd (upd (upd (upd (upd (upd (upd F 2 (nI sz)) 5 (nI cs)) 6 (nI rg)) 7 (nI hd)) 8 (nI dp)) 12 (nI vr)) 13 as9) 16 ls9) (updR (updR (updR R 2 (.ref pq)) 3 (.ref mq)) 4 (va_rf lp9)) Z B J K w pq dr ml nd nm cp it s9 x0 mq cs vr sz g rk pb Ag pd sl ([] : List Nat) m9 dp lw hd c0 as9 True (by omega) (BdE.wp BdE.rfl hwp) (BdE.pt BdE.rfl hwp hps) (BdE.rko BdE.rfl hrk) (by omega) (by omega) hng hmq hx0 hx0l (EkA.be BdE.rfl (BsR.rfl 7 (by decide) (by decide)) (BsR.rfl 11 (by decide) (by decide)) hek) (OwC.be BdE.rfl hmq hdr0 hcO) (NaB.be BdE.rfl BeF.rfl hwp hps.2.1 hdr0 (BsR.rfl 11 (by decide) (by decide)) hna) hen (fun _ => hst0.1) (by omega) (by show 0 + ndE g x0 ≤ 248; omega) hx1 hO hl0) (gV pw_173 pw_174 pw_175 pw_63 pw_224) hV_X0_value qr4 0 hqr5 rfl rfl rfl (Nat.le_of_ble_eq_true rfl) dX0_loopCondition_23 ⟨(by show 0 + 1 ≤ 1; omega), (by show 0 + 6 ≤ 6; omega)⟩ ⟨(by show (5 * n + 34) + 1 ≤ (5 * n + 35); omega), (by show 8 + (3 + 11) + (200 * n + 600) ≤ (200 * n + 640); omega)⟩ (fun v3 u1 H locs hw2 hP hD hS => ?_) (fun ux ce9 q9 H9 locs9 hux hP9 hD9 hS9 hce hcv hcl => pb_out ux (ThQ.up (Thx.same (Thx.same (Thx.same (Thx.same (Thx.same Thx.rfl rfl) rfl) rfl) rfl) rfl) (show RhX (updR (updR (updR R 2 (.ref pq)) 3 (.ref mq)) 4 (va_rf lp9)) (updR (updR (updR (updR (updR R 2 (.ref pq)) 3 (.ref mq)) 4 (va_rf lp9)) 2 (.ref pq)) 3 (.ref mq)) from fun k9 hk9 => by unfold updR; simp only [show ¬ k9 = 1 by omega, show ¬ k9 = 2 by omega, show ¬ k9 = 3 by omega, show ¬ k9 = 4 by omega, if_false]) hux) hnt hlocks hce hcv hcl hP9 hD9 hS9 (by show 0 + 1 ≤ 1; omega) (by show 0 + 6 ≤ 6; omega))
  obtain ⟨w, K6, B7, cs8, as10, wt11, wf12, t13, Ag14, u15⟩ := u1
  obtain ⟨hw2, h16, h17, h18, h19, h20, h21, h22, h23, h24, h25, h26, h27, hO⟩ := hw2
  have h16 : SmW B B7 cs := h16
  have h17 : BdE K K6 := h17
  have h18 : BeF K K6 := h18
  have h19 : BeL K K6 none := h19
  have h20 : BeI K K6 g x0 := h20
  have h21 : Bth B B7 := h21
  have h22 : BeR B B7 := h22
  have h23 : t13 < 128 := h23
  have h24 : cs ≤ cs8 ∧ cs8 + 0 ≤ cs + 2 * tlE g x0 := h24
  have h25 : AsE as9 as10 ∧ AsE as9 wt11 ∧ AsE as9 wf12 := h25
  have h26 : True → VaQ pb B B7 Ag Ag14 pd m9 dp lw cs cs8 as9 as10 wt11 wf12 hd sl ([] : List Nat) t13 u15 (K.2.1 0 x0) := h26
  have h27 : CaK (K.2.1 0 x0) → cs8 + 2 ≤ cs + 2 * tlE g x0 := h27
  obtain rfl : v3 = some (.int (nI t13)) := hw2
  have hf28 : K6.1 pq = 7 := (BdE.T h17 hp1 (by decide))
  have hf29 : K6.2.2.1 18 pq = some (a 1) := (BdE.C h17 (by rw [hp1]; decide) 18).trans hp2
  have hf30 : K6.2.2.1 14 pq = some dr := (BdE.C h17 (by rw [hp1]; decide) 14).trans hp3
  have hf31 : K6.1 dr = 8 := (BdE.T h17 hp4 (by decide))
  have hf32 : K6.2.2.1 15 pq = some ml := (BdE.C h17 (by rw [hp1]; decide) 15).trans hp5
  have hf33 : K6.1 ml = 5 := (BdE.T h17 hp6 (by decide))
  have hf34 : K6.2.1 24 pq = (nI nd) := (BdE.I h17 (by rw [hp1]; decide) (by decide) (by decide)).trans hp8
  have hf35 : K6.1 q = 1 := (BdE.T h17 hqT (by decide))
  have hf36 : K6.1 mq = 3 := (BdE.T h17 hmq (by decide))
  have hf37 : K6.2.1 10 mq = (nI rt) := (BdE.I h17 (by rw [hmq]; decide) (by decide) (by decide)).trans hrt
  have hf38 : K6.1 x0 = 1 := (BdE.T h17 hx0 (by decide))
  have hO : OKP G h0 a (upd (upd (upd (upd (upd (upd (upd (upd (upd (upd F 2 (nI sz)) 5 (nI cs8)) 6 (nI rg)) 7 (nI hd)) 8 (nI dp)) 12 (nI vr)) 13 as10) 14 wt11) 15 wf12) 16 ls9) (updR (updR (updR R 2 (.ref pq)) 3 (.ref mq)) 4 (va_rf lp9)) Z B7 J K6 w := hO.to rfl
  refine W.widen (k := 0) (n := 0) (by show 0 + 0 ≤ 0; omega) (by show 0 + 0 ≤ 0; omega) ?_
  refine W.eq (g2 := F0 m 26 ls [.int (nI t13), .ref x0, .ref (a 4)]) rfl ?_
  have hbe39 := BdE.trans BdE.rfl h17
  have hbb40 : Bth B B7 := Bth.trans (show Thx (upd (upd (upd (upd (upd (upd (upd (upd F 2 (nI sz)) 5 (nI cs)) 6 (nI rg)) 7 (nI hd)) 8 (nI dp)) 12 (nI vr)) 13 as9) 16 ls9) (upd (upd (upd (upd (upd (upd (upd (upd F 2 (nI sz)) 5 (nI cs)) 6 (nI rg)) 7 (nI hd)) 8 (nI dp)) 12 (nI vr)) 13 as9) 16 ls9) B B from Thx.rfl).2 h21
  have hng41 : Nng (B7 18) := h21.2 hng
  have hsw42 : ∀ x9 : Nat, x9 < cs → (B7 16) x9 = B 16 x9 := fun x9 hx9 => ((h16 x9 (by omega)).1).trans ((fun _ _ => rfl) x9 hx9)
  have hsw43 : ∀ x9 : Nat, x9 < cs → (B7 17) x9 = B 17 x9 := fun x9 hx9 => ((h16 x9 (by omega)).2.1).trans ((fun _ _ => rfl) x9 hx9)
  have hsw44 : ∀ x9 : Nat, x9 < cs → (B7 18) x9 = B 18 x9 := fun x9 hx9 => ((h16 x9 (by omega)).2.2.1).trans ((fun _ _ => rfl) x9 hx9)
  have hsw45 : ∀ x9 : Nat, x9 < cs → (B7 19) x9 = B 19 x9 := fun x9 hx9 => ((h16 x9 (by omega)).2.2.2).trans ((fun _ _ => rfl) x9 hx9)
  have hbf46 := BeF.trans BeF.rfl h18 BdE.rfl
  have hbl48 := BeL.trans BeL.rfl h19 BdE.rfl
  have hbr47 : BsR B B7 := BsR.trans BsR.rfl (BeR.bs h22)
  have hen49 : EnV (B7 26) (B7 27) nd vr hd c0 sl := EnV.of (h22 26 (by decide)) (h22 27 (by decide)) hen
  have hvs50 : VrS B B7 vr := fun i9 hi9 => ⟨(congrFun (h22 26 (by decide)) i9).trans (VrS.rfl i9 hi9).1, (congrFun (h22 27 (by decide)) i9).trans (VrS.rfl i9 hi9).2⟩
  have hao51 : AsO as10 ∧ AsO wt11 ∧ AsO wf12 := ⟨AsE.aso h25.1 hao, AsE.aso h25.2.1 hao, AsE.aso h25.2.2 hao⟩
  refine lv_bipush (v := 61) hx hb dX0_loopCondition_26 (by decide) ?_
  have hO : OKP G h0 a (upd (upd (upd (upd (upd (upd (upd (upd (upd (upd (upd (upd (upd F 2 (nI sz)) 5 (nI cs)) 6 (nI rg)) 7 (nI hd)) 8 (nI dp)) 12 (nI vr)) 13 as9) 16 ls9) 5 (nI cs8)) 13 as10) 14 wt11) 15 wf12) 2 (nI sz)) (updR (updR (updR (updR R 2 (.ref pq)) 3 (.ref mq)) 4 (va_rf lp9)) 2 (.ref pq)) Z B7 J K6 w := hO.to rfl
  obtain ⟨_, qr55, hqr56⟩ := hO.2.1 24 _ (sg_24 G h0 a _ _ _ _ _)
  refine pn_V0 (G := G) (As := [.ref x0, .int (nI t13), .int (nI 61)]) (rest := []) hx hb hml hown hq hE hX pX0_al hP hD hS hA hl.1 (Y_fit l G h0 a (upd (upd (upd (upd (upd (upd (upd (upd (upd (upd (upd (upd F 2 (nI sz)) 5 (nI cs)) 6 (nI rg)) 7 (nI hd)) 8 (nI dp)) 12 (nI vr)) 13 as9) 16 ls9) 5 (nI cs8)) 13 as10) 14 wt11) 15 wf12) (updR (updR (updR R 2 (.ref pq)) 3 (.ref mq)) 4 (va_rf lp9)) Z B7 J K6 w pq dr ml nd x0 sz t13 61 g pb (by omega) (BdE.pt hbe39 hwp hps).1 (BdE.pt hbe39 hwp hps).2.1 hf38 (by omega) hna.1.1 (NaB.be hbe39 hbf46 hwp hps.2.1 hdr0 (hbr47 11 (by decide) (by decide)) hna).1.2.2 hO hl0) (gV pw_176 pw_177 pw_178 pw_63 pw_114) hV_X0_fit qr55 0 hqr56 rfl rfl rfl (Nat.le_of_ble_eq_true rfl) dX0_loopCondition_28 ⟨(by show 0 + 1 ≤ 1; omega), (by show 0 + 6 ≤ 6; omega)⟩ ⟨(by show 7 + 1 ≤ (5 * n + 35); omega), (by show 8 + (4 + 11) + 122 ≤ (200 * n + 640); omega)⟩ (fun v54 u52 H locs hw53 hP hD hS => ?_) (fun ux ce9 q9 H9 locs9 hux hP9 hD9 hS9 hce hcv hcl => pb_out ux (ThQ.up (Thx.same (Thx.f (Thx.f (Thx.f (Thx.f (Bth.thx hbb40) (by omega)) (by omega)) (by omega)) (by omega)) rfl) (show RhX (updR (updR (updR R 2 (.ref pq)) 3 (.ref mq)) 4 (va_rf lp9)) (updR (updR (updR (updR R 2 (.ref pq)) 3 (.ref mq)) 4 (va_rf lp9)) 2 (.ref pq)) from fun k9 hk9 => by unfold updR; simp only [show ¬ k9 = 1 by omega, show ¬ k9 = 2 by omega, show ¬ k9 = 3 by omega, show ¬ k9 = 4 by omega, if_false]) hux) hnt hlocks hce hcv hcl hP9 hD9 hS9 (by show 0 + 1 ≤ 1; omega) (by show 0 + 6 ≤ 6; omega))
  obtain ⟨w, _⟩ := u52
  obtain ⟨hw53, h57, hO⟩ := hw53
  have h57 : FtQ pb t13 61 := h57
  obtain rfl : v54 = none := hw53
  have hO : OKP G h0 a (upd (upd (upd (upd (upd (upd (upd (upd (upd (upd F 2 (nI sz)) 5 (nI cs8)) 6 (nI rg)) 7 (nI hd)) 8 (nI dp)) 12 (nI vr)) 13 as10) 14 wt11) 15 wf12) 16 ls9) (updR (updR (updR R 2 (.ref pq)) 3 (.ref mq)) 4 (va_rf lp9)) Z B7 J K6 w := hO.to rfl
  refine W.widen (k := 0) (n := 0) (by show 0 + 0 ≤ 0; omega) (by show 0 + 0 ≤ 0; omega) ?_
  refine W.eq (g2 := F0 m 31 ls []) rfl ?_
  have hst58 : StW pb.1 pb.2.1 pb.2.2.1 pb.2.2.2 Ag Ag14 Q9 Q9 pd pd m9 dp lw cs cs8 as9 as10 hd hd sl sl gr gr (B7 16) (B7 17) (B7 18) (B7 19) (u15 :: ([] : List Nat)) := StW.ev hst0 (VaQ.ev (h26 trivial) h23 h57.1)
  have hut59 : UTb u15 (nI t13) as10 wt11 wf12 := VaQ.ut (h26 trivial) h57.1
  refine lv_aload_n hx hb dX0_loopCondition_31 rfl (lv_at hl 0 rfl) ?_
  refine c_get (v := .ref (a 2)) (C := RX0) (Tc := TX0) (N := 13) (ci := 0) hx hb hq pin_wsX00 hown hE hP hO 24 (sg_24 G h0 a _ _ _ _ _) rfl 1 (by decide) (hq _ pw_5) (fun _ h9 => h9) rfl dX0_loopCondition_32 ?_
  refine lv_bipush (v := 7) hx hb dX0_loopCondition_35 (by decide) ?_
  refine lv_iconst (v := (-1)) hx hb dX0_loopCondition_37 (by decide) ?_
  refine lv_iconst (v := 0) hx hb dX0_loopCondition_38 (by decide) ?_
  have hboq := UTb.tru hut59 h23 h57
  have hO : OKW G h0 a (upd (upd (upd (upd (upd (upd (upd (upd (upd (upd (upd (upd F 2 (nI sz)) 5 (nI cs8)) 6 (nI rg)) 7 (nI hd)) 8 (nI dp)) 12 (nI vr)) 13 as10) 14 wt11) 15 wf12) 16 ls9) 5 (nI cs8)) 7 (nI hd)) (updR (updR (updR R 2 (.ref pq)) 3 (.ref mq)) 4 (va_rf lp9)) Z B7 J K6.1 (fun q99 x99 => x99 = rep G a K6 q99) w := hO.to rfl
  obtain ⟨_, qr63, hqr64⟩ := hO.2.1 13 _ (sg_13 G h0 a _ _ _ _ _)
  refine pc_V0 (G := G) (As := [.int 7, .int (-1), .int 0]) (rest := []) hx hb hml hown hq hE hX pX0_al hP hD hS hA hl.1 (Y_jump l G h0 a (upd (upd (upd (upd (upd (upd (upd (upd (upd (upd F 2 (nI sz)) 5 (nI cs8)) 6 (nI rg)) 7 (nI hd)) 8 (nI dp)) 12 (nI vr)) 13 as10) 14 wt11) 15 wf12) 16 ls9) (updR (updR (updR R 2 (.ref pq)) 3 (.ref mq)) 4 (va_rf lp9)) Z B7 J K6.1 (fun q99 x99 => x99 = rep G a K6 q99) w 7 (-1) 0 cs8 hd (by omega) hO) (gV pw_197 pw_198 pw_199 pw_70 pw_132) hV_X1_jump qr63 1 hqr64 rfl rfl rfl (Nat.le_of_ble_eq_true rfl) dX0_loopCondition_39 ⟨(by show 0 + 0 ≤ 1; omega), (by show 0 + 0 ≤ 6; omega)⟩ ⟨(by show 3 + 1 ≤ (5 * n + 35); omega), (by show 8 + (4 + 11) + 83 ≤ (200 * n + 640); omega)⟩ (fun v62 u60 H locs hw61 hP hD hS => ?_)
  obtain ⟨w, _⟩ := u60
  obtain ⟨hw61, hO⟩ := hw61
  obtain rfl : v62 = some (.int (nI cs8)) := hw61
  have hO : OKP G h0 a (upd (upd (upd (upd (upd (upd (upd (upd (upd (upd F 2 (nI sz)) 5 (nI (cs8 + 1))) 6 (nI rg)) 7 (nI hd)) 8 (nI dp)) 12 (nI vr)) 13 as10) 14 wt11) 15 wf12) 16 ls9) (updR (updR (updR R 2 (.ref pq)) 3 (.ref mq)) 4 (va_rf lp9)) Z (updA (updA (updA (updA B7 16 (upd ((B7 16)) cs8 7)) 17 (upd ((B7 17)) cs8 (-1))) 18 (upd ((B7 18)) cs8 0)) 19 (upd ((B7 19)) cs8 (nI hd))) J K6 w := hO.to rfl
  refine W.widen (k := 0) (n := 0) (Nat.le_of_ble_eq_true rfl) (Nat.le_of_ble_eq_true rfl) ?_
  refine W.eq (g2 := F0 m 42 ls [.int (nI cs8)]) rfl ?_
  have hsw65 : ∀ x9 : Nat, x9 < cs → (upd ((B7 16)) cs8 7) x9 = B 16 x9 := fun x9 hx9 => (if_neg (by omega)).trans (hsw42 x9 hx9)
  have hsw66 : ∀ x9 : Nat, x9 < cs → (upd ((B7 17)) cs8 (-1)) x9 = B 17 x9 := fun x9 hx9 => (if_neg (by omega)).trans (hsw43 x9 hx9)
  have hsw67 : ∀ x9 : Nat, x9 < cs → (upd ((B7 18)) cs8 0) x9 = B 18 x9 := fun x9 hx9 => (if_neg (by omega)).trans (hsw44 x9 hx9)
  have hsw68 : ∀ x9 : Nat, x9 < cs → (upd ((B7 19)) cs8 (nI hd)) x9 = B 19 x9 := fun x9 hx9 => (if_neg (by omega)).trans (hsw45 x9 hx9)
  obtain ⟨Ag69, hst70, hag71⟩ : ∃ A5 : Nat → AS, StW pb.1 pb.2.1 pb.2.2.1 pb.2.2.2 Ag A5 Q9 Q9 pd (fun z => pd z ∨ z = cs8) m9 dp lw cs (cs8 + 1) as9 wt11 hd hd sl sl gr gr (upd ((B7 16)) cs8 7) (upd ((B7 17)) cs8 (-1)) (upd ((B7 18)) cs8 0) (upd ((B7 19)) cs8 (nI hd)) ([] : List Nat) ∧ ∀ x9 : Nat, x9 ≤ cs8 → A5 x9 = Ag14 x9 := ⟨(upS Ag14 (cs8 + 1) (rcA wt11, hd, sl, ([] : List Nat))), StW.jmp (k := 7) hst58 (by show 1 ≤ 248; omega) (by decide) (fun z9 hz9 => ⟨fun h9 => Or.inl h9, fun h9 => h9.resolve_right (by omega)⟩) (Or.inr rfl) (fun z9 e9 => z9 (hboq.2.1.mp e9).1), fun x9 hx9 => upS_ne (by omega)⟩
  have hng72 : Nng (upd ((B7 18)) cs8 0) := Nng.set hng41 (k := 0) (by omega)
  refine W_size (fun hz1 hz2 => ?_)
  refine vx_ret ?_
  have hcl9 := hst70.1.2.1
  have hz73 : SmW B (updA (updA (updA (updA B7 16 (upd ((B7 16)) cs8 7)) 17 (upd ((B7 17)) cs8 (-1))) 18 (upd ((B7 18)) cs8 0)) 19 (upd ((B7 19)) cs8 (nI hd))) cs := (fun x9 hx9 => ⟨hsw65 x9 hx9, hsw66 x9 hx9, hsw67 x9 hx9, hsw68 x9 hx9⟩)
  have hz74 : BdE K K6 := hbe39
  have hz75 : BeF K K6 := hbf46
  have hz76 : BeL K K6 none := hbl48
  have hz77 : Bth B (updA (updA (updA (updA B7 16 (upd ((B7 16)) cs8 7)) 17 (upd ((B7 17)) cs8 (-1))) 18 (upd ((B7 18)) cs8 0)) 19 (upd ((B7 19)) cs8 (nI hd))) := (show Thx (upd (upd (upd (upd (upd (upd (upd (upd F 2 (nI sz)) 5 (nI cs)) 6 (nI rg)) 7 (nI hd)) 8 (nI dp)) 12 (nI vr)) 13 as9) 16 ls9) (upd (upd (upd (upd (upd (upd (upd (upd (upd (upd (upd (upd F 2 (nI sz)) 5 (nI cs)) 6 (nI rg)) 7 (nI hd)) 8 (nI dp)) 12 (nI vr)) 13 as9) 16 ls9) 5 (nI (cs8 + 1))) 13 as10) 14 wt11) 15 wf12) B (updA (updA (updA (updA B7 16 (upd ((B7 16)) cs8 7)) 17 (upd ((B7 17)) cs8 (-1))) 18 (upd ((B7 18)) cs8 0)) 19 (upd ((B7 19)) cs8 (nI hd))) from (Thx.b (Thx.b8 (Thx.b (Thx.b (Thx.f (Thx.f (Thx.f (Thx.f (Bth.thx hbb40) (by omega)) (by omega)) (by omega)) (by omega)) (by omega) (by decide)) (by omega) (by decide)) hng72) (by omega) (by decide))).2
  have hz78 : BeR B (updA (updA (updA (updA B7 16 (upd ((B7 16)) cs8 7)) 17 (upd ((B7 17)) cs8 (-1))) 18 (upd ((B7 18)) cs8 0)) 19 (upd ((B7 19)) cs8 (nI hd))) := ((BeR.up (k := 19) (f := (upd ((B7 19)) cs8 (nI hd))) (BeR.up (k := 18) (f := (upd ((B7 18)) cs8 0)) (BeR.up (k := 17) (f := (upd ((B7 17)) cs8 (-1))) (BeR.up (k := 16) (f := (upd ((B7 16)) cs8 7)) (BeR.trans BeR.rfl h22) (by omega)) (by omega)) (by omega)) (by omega)))
  have hz79 : cs ≤ (cs8 + 1) ∧ (cs8 + 1) ≤ cs + 2 * tc + 1 := (by omega)
  have hz80 : AsO as10 ∧ AsO wt11 ∧ AsO wf12 := hao51
  have hz81 : ¬ wf12 = -1 → ¬ as9 = -1 := h25.2.2.ne
  have hz82 : StW pb.1 pb.2.1 pb.2.2.1 pb.2.2.2 Ag Ag69 Q9 Q9 pd (fun z => pd z ∨ z = cs8) m9 dp lw cs (cs8 + 1) as9 wt11 hd hd sl sl gr gr ((updA (updA (updA (updA B7 16 (upd ((B7 16)) cs8 7)) 17 (upd ((B7 17)) cs8 (-1))) 18 (upd ((B7 18)) cs8 0)) 19 (upd ((B7 19)) cs8 (nI hd))) 16) ((updA (updA (updA (updA B7 16 (upd ((B7 16)) cs8 7)) 17 (upd ((B7 17)) cs8 (-1))) 18 (upd ((B7 18)) cs8 0)) 19 (upd ((B7 19)) cs8 (nI hd))) 17) ((updA (updA (updA (updA B7 16 (upd ((B7 16)) cs8 7)) 17 (upd ((B7 17)) cs8 (-1))) 18 (upd ((B7 18)) cs8 0)) 19 (upd ((B7 19)) cs8 (nI hd))) 18) ((updA (updA (updA (updA B7 16 (upd ((B7 16)) cs8 7)) 17 (upd ((B7 17)) cs8 (-1))) 18 (upd ((B7 18)) cs8 0)) 19 (upd ((B7 19)) cs8 (nI hd))) 19) [] := hst70
  have hz83 : ExJ ((updA (updA (updA (updA B7 16 (upd ((B7 16)) cs8 7)) 17 (upd ((B7 17)) cs8 (-1))) 18 (upd ((B7 18)) cs8 0)) 19 (upd ((B7 19)) cs8 (nI hd))) 16) ((updA (updA (updA (updA B7 16 (upd ((B7 16)) cs8 7)) 17 (upd ((B7 17)) cs8 (-1))) 18 (upd ((B7 18)) cs8 0)) 19 (upd ((B7 19)) cs8 (nI hd))) 17) Ag69 (nI cs8) ([cs8]) lw cs (cs8 + 1) hd sl wt11 wf12 := (Or.inr ⟨cs8, u15, as10, wt11, rfl, rfl, by omega, if_pos rfl, Nat.le_trans (show lw ≤ cs from hst0.1.2.1) (by omega), by omega, Nat.le_refl _, if_pos rfl, (hag71 cs8 (Nat.le_refl _)).trans hst58.1.1.2, ⟨hst70.1.1.2, fun z9 => z9⟩, hboq⟩)
  have hz84 : ∀ z : Nat, (fun z => pd z ∨ z = cs8) z ↔ pd z ∨ z ∈ ([cs8]) := (fun z9 => ⟨fun h9 => h9.imp id (fun h8 => List.mem_singleton.mpr h8), fun h9 => h9.imp id (fun h8 => List.mem_singleton.mp h8)⟩)
  have hO : OKP G h0 a (upd (upd (upd (upd (upd (upd (upd (upd (upd (upd F 2 (nI sz)) 5 (nI (cs8 + 1))) 6 (nI rg)) 7 (nI hd)) 8 (nI dp)) 12 (nI vr)) 13 as10) 14 wt11) 15 wf12) 16 ls9) (updR (updR (updR R 2 (.ref pq)) 3 (.ref mq)) 4 (va_rf lp9)) Z (updA (updA (updA (updA B7 16 (upd ((B7 16)) cs8 7)) 17 (upd ((B7 17)) cs8 (-1))) 18 (upd ((B7 18)) cs8 0)) 19 (upd ((B7 19)) cs8 (nI hd))) J K6 w := hO.to rfl
  refine W.widen (k := 1) (n := 6) (by omega) (by omega) ?_
  have hzz1 : H.size ≤ s.heap.size + (0) := (by have z : 0 ≤ 0 := (by omega); omega)
  have hzz2 : hSl H ≤ hSl s.heap + (0) := (by have z : 0 ≤ 0 := (by omega); omega)
  exact W.iret (v := (nI cs8)) hx hb hr (fun t99 ht99 hW99 => ⟨⟨_, (w, (K6, (updA (updA (updA (updA B7 16 (upd ((B7 16)) cs8 7)) 17 (upd ((B7 17)) cs8 (-1))) 18 (upd ((B7 18)) cs8 0)) 19 (upd ((B7 19)) cs8 (nI hd))), (cs8 + 1), as10, wt11, wf12, (nI cs8), Ag69, (fun z => pd z ∨ z = cs8), [cs8])), rfl, ⟨rfl, hz73, hz74, hz75, hz76, hz77, hz78, hz79, hz80, hz81, hz82, hz83, hz84, hO⟩, by rw [ht99]; exact hP, hD, by rw [ht99]; exact hzz1, by rw [ht99]; exact hzz2⟩, hS.F ht99⟩) hS.2.2 dX0_loopCondition_42
theorem Y_loopCondO (l : Launch) (G : pT) (h0 : Nat) (a : Nat → Nat) (F : Nat → Int32) (R : Nat → Value) (Z : Int64) (B : Nat → Nat → Int32) (J : Nat → Nat → Int64) (K : PK) (w : va_W) (pq : Nat) (dr : Nat) (ml : Nat) (nd : Nat) (nm : Nat) (cp : Nat) (it : Nat → Nat) (s9 : Nat) (q : Nat) (mq : Nat) (cs : Nat) (vr : Nat) (sz : Nat) (n : Nat) (ob : Option Nat) (tc : Nat) (hd : Nat) (dp : Nat) (rg : Nat) (ls9 : Int32) (lp9 : Option Nat) (g : Nat → Nat → Nat) (rk : Nat → Nat) (pb : PNb) (Ag : Nat → AS) (Q9 : RX) (pd : Nat → Prop) (sl : Nat → Nat) (m9 : Nat) (lw : Nat) (c0 : Nat) (rt : Nat) (gr : Nat) (as9 : Int32) (hsz : sz ≤ 5000) (hwp : WPr G K g) (hps : PgT G K g (a 1) pq dr ml nd nm cp it s9) (hrk : RkO K rk) (hcs : cs ≤ 10000) (hvr : vr ≤ 30) (hng : Nng (B 18)) (hmq : K.1 mq = 3) (hqT : K.1 q = 1) (hqL : 1 ≤ g 0 q ∧ g 0 q ≤ n) (hrt : K.2.1 10 mq = nI rt) (hrv : TyV nd rt ∧ (bX pb).2.2.2.2.1 m9 = rt) (hdp : dp ≤ 71) (hrg : rg ≤ 625) (hlo : LpO K lp9) (hek : EkA pb K g (B 7) (B 11) sz) (hcO : OwC K dr mq c0) (hna : NaB pb G K (B 11) dr nd sz) (hen : EnV (B 26) (B 27) nd vr hd c0 sl) (hao : AsO as9) (hem : EmB pb B Ag pd m9 dp lw cs as9 hd sl []) (hob : KvO K g ob n) (hoe : ∀ x : Nat, ob = some x → EsO g x ∧ tlE g x ≤ tc) (htc : cs + 2 * tc + 1 ≤ 9999) (hO : OKP G h0 a (upd (upd (upd (upd (upd (upd (upd (upd F 2 (nI sz)) 5 (nI cs)) 6 (nI rg)) 7 (nI hd)) 8 (nI dp)) 12 (nI vr)) 13 as9) 16 ls9) (updR (updR (updR R 2 (.ref pq)) 3 (.ref mq)) 4 (va_rf lp9)) Z B J K w) (hl0 : l.stackTraces = false) : PBn l G pX0 yX0_loopCondition cX0_loopCondition 2 (some .int) ({ frames := (5 * n + 35), cells := 1, slots := 6, locals := (200 * n + 640) }) [.ref (a 4), va_rf ob] w (fun (v : Option Value) (u : va_W × (PK × (Nat → Nat → Int32) × Nat × Int32 × Int32 × Int32 × Int32 × (Nat → AS) × (Nat → Prop) × List Nat)) => v = some (.int u.2.2.2.2.2.2.2.1) ∧ (SmW B u.2.2.1 cs) ∧ (BdE K u.2.1) ∧ (BeF K u.2.1) ∧ (BeL K u.2.1 none) ∧ (Bth B u.2.2.1) ∧ (BeR B u.2.2.1) ∧ (cs ≤ u.2.2.2.1 ∧ u.2.2.2.1 ≤ cs + 2 * tc + 1) ∧ (AsO u.2.2.2.2.1 ∧ AsO u.2.2.2.2.2.1 ∧ AsO u.2.2.2.2.2.2.1) ∧ (¬ u.2.2.2.2.2.2.1 = -1 → ¬ as9 = -1) ∧ (StW pb.1 pb.2.1 pb.2.2.1 pb.2.2.2 Ag u.2.2.2.2.2.2.2.2.1 Q9 Q9 pd u.2.2.2.2.2.2.2.2.2.1 m9 dp lw cs u.2.2.2.1 as9 u.2.2.2.2.2.1 hd hd sl sl gr gr (u.2.2.1 16) (u.2.2.1 17) (u.2.2.1 18) (u.2.2.1 19) []) ∧ (ExJ (u.2.2.1 16) (u.2.2.1 17) u.2.2.2.2.2.2.2.2.1 u.2.2.2.2.2.2.2.1 u.2.2.2.2.2.2.2.2.2.2 lw cs u.2.2.2.1 hd sl u.2.2.2.2.2.1 u.2.2.2.2.2.2.1) ∧ (∀ z : Nat, u.2.2.2.2.2.2.2.2.2.1 z ↔ pd z ∨ z ∈ u.2.2.2.2.2.2.2.2.2.2) ∧ (OKP G h0 a (upd (upd (upd (upd (upd (upd (upd (upd (upd (upd F 2 (nI sz)) 5 (nI u.2.2.2.1)) 6 (nI rg)) 7 (nI hd)) 8 (nI dp)) 12 (nI vr)) 13 u.2.2.2.2.1) 14 u.2.2.2.2.2.1) 15 u.2.2.2.2.2.2.1) 16 ls9) (updR (updR (updR R 2 (.ref pq)) 3 (.ref mq)) 4 (va_rf lp9)) Z u.2.2.1 J u.2.1 u.1)) (fun u => u.1) (fun (u : va_W × (PK × (Nat → Nat → Int32) × Nat × Int32 × Int32 × Int32 × Int32 × (Nat → AS) × (Nat → Prop) × List Nat)) => 0) (fun (u : va_W × (PK × (Nat → Nat → Int32) × Nat × Int32 × Int32 × Int32 × Int32 × (Nat → AS) × (Nat → Prop) × List Nat)) => 0) (fun (u : va_W × (Nat → Int32) × (Nat → Value) × (Nat → Nat → Int32)) => ThQ G h0 a (upd (upd (upd (upd (upd (upd (upd (upd F 2 (nI sz)) 5 (nI cs)) 6 (nI rg)) 7 (nI hd)) 8 (nI dp)) 12 (nI vr)) 13 as9) 16 ls9) (updR (updR (updR R 2 (.ref pq)) 3 (.ref mq)) 4 (va_rf lp9)) Z B J u) (fun u => u.1) := by
  cases ob with
  | none => exact Y_loopCondN l G h0 a F R Z B J K w pq dr ml nd nm cp it s9 q mq cs vr sz n tc hd dp rg ls9 lp9 g rk pb Ag Q9 pd sl m9 lw c0 rt gr as9 hsz hwp hps hrk hcs hvr hng hmq hqT hqL hrt hrv hdp hrg hlo hek hcO hna hen hao hem htc hO hl0
  | some x => exact Y_loopCond l G h0 a F R Z B J K w pq dr ml nd nm cp it s9 q mq cs vr sz n x tc hd dp rg ls9 lp9 g rk pb Ag Q9 pd sl m9 lw c0 rt gr as9 hsz hwp hps hrk hcs hvr hng hmq hqT hqL hrt hrv hdp hrg hlo hek hcO hna hen hao hem (hob x rfl).1 (hob x rfl).2 (hoe x rfl) htc hO hl0
