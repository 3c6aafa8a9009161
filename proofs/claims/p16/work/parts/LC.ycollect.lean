/-- the frame that comes next, if one comes -/
def CfO (y : TY) (it : Nat → Nat) (H f : Nat → Int32) (S : Nat → Nat) (st : Nat → Int64) (c2 : Nat) (xf xe xa : Int32) (o2 : Option Nat) (b2 e2 p2 i9 q2 n9 : Nat) (a2 : AS) : Prop :=
  1 ≤ c2 → xf = nI b2 ∧ xe = nI e2 ∧ xa = nI p2 ∧ o2 = some (it i9) ∧ i9 < ynm y ∧ p2 < yhi y i9 ∧ H p2 = nI q2 ∧ q2 = a2.2.1 ∧ n9 = ysl y i9 ∧ FrK (yfi y) S st a2 b2 n9 e2 ∧ CS (yfi y) (yM y) (ynm y) f S st (c2 - 1) i9 b2
theorem mx_l0 {y : Nat} (h : y < 2 ^ 31) : (if nI y < (0 : Int32) then (0 : Int32) else nI y) = nI y := if_neg (nI_pos h)
theorem MvF.up {M : MX} {H f : Nat → Int32} {ph ph1 : Nat → Nat} {st st1 : Nat → Int64} (hg : ∀ p : Nat, ¬ ph p = 0 → ph1 p = ph p) : ∀ {n b : Nat}, MvF M H ph st st1 f n b → MvF M H ph1 st st1 f n b
  | 0, _, _ => trivial
  | n + 1, b, h => fun i pc b9 q e1 e2 e3 e4 e5 e6 e7 e8 => ⟨(h i pc b9 q e1 e2 e3 e4 e5 e6 e7 e8).1.up hg (fun _ _ _ => rfl), MvF.up hg (h i pc b9 q e1 e2 e3 e4 e5 e6 e7 e8).2⟩
theorem GI.low {S nn ph : Nat → Nat} {s0 : Nat → Int64} {J1 : Nat → Nat → Int64} {sp op o c : Nat} (g : GI S nn s0 (J1 sp) (J1 op) o c ph) (hh : ∀ p : Nat, p < 7 → s0 p = hdV 1 p) : LoE J1 op sp := fun p hp9 => by
  rw [g.2.2.2.2.2.2 p hp9]
  refine ⟨g.2.1 p (Classical.byContradiction fun z => ?_), hh p⟩
  have := (g.2.2.1 p z).2.1
  omega
set_option maxHeartbeats 60000000 in
set_option maxRecDepth 100000 in
theorem Y_collect (l : Launch) (G : pT) (h0 : Nat) (a : Nat → Nat) (F : Nat → Int32) (R : Nat → Value) (Z : Int64) (B : Nat → Nat → Int32) (J : Nat → Nat → Int64) (K : PK) (w : va_W) (y : TY) (Sh : Nat → Nat) (nn : Nat → Nat) (on : Nat) (j9 : Nat) (ba : Nat) (pc : Nat) (tp : Nat) (sp : Nat) (op : Nat) (ht : Nat) (os : List Nat) (pq : Nat) (dr : Nat) (ml : Nat) (nd : Nat) (nm : Nat) (cp : Nat) (it : Nat → Nat) (s9 : Nat) (g : Nat → Nat → Nat) (rk : Nat → Nat) (cs : Nat) (rg : Nat) (hsp : (sp = 34 ∧ op = 35) ∨ (sp = 35 ∧ op = 34)) (hma : MIa y (B 19) Sh nn (J sp) ht (B 30) (J 29) on j9 ba pc os tp) (hle : LoE J sp op) (hhe : B 19 pc = nI (yA y j9 pc).2.1) (hwp : WPr G K g) (hps : PgT G K g (a 1) pq dr ml nd nm cp it s9) (hrk : RkO K rk) (hpy : PrY y K B dr nd nm it cs rg) (hcs9 : cs ≤ 10000) (hO : OKP G h0 a (upd (upd (upd (upd (upd (upd (upd F 5 (nI cs)) 6 (nI rg)) 18 (nI ba)) 19 (nI tp)) 20 (nI pc)) 22 (nI on)) 26 (nI ht)) (updR (updR (updR (updR R 5 (.ref pq)) 6 (.ref (it j9))) 7 (.ref (a sp))) 8 (.ref (a op))) Z B J K w) : PM l G pX0 yX5_collect cX5_collect 9 none ({ frames := 6, cells := 0, slots := 0, locals := 145 }) [.ref (a 5)] w (fun (v : Option Value) (u : va_W × (Nat × (Nat → Nat → Int64) × (Nat → Nat) × (Nat → Nat))) => v = none ∧ (MIa y (B 19) u.2.2.2.1 u.2.2.2.2 (u.2.2.1 op) u.2.1 (B 30) (u.2.2.1 29) on j9 ba pc os tp) ∧ (LoE u.2.2.1 op sp) ∧ (8 ≤ u.2.1 ∧ u.2.1 ≤ 3008) ∧ (OKP G h0 a (upd (upd (upd (upd (upd (upd (upd (upd F 5 (nI cs)) 6 (nI rg)) 18 (nI ba)) 19 (nI tp)) 20 (nI pc)) 22 (nI on)) 26 (nI u.2.1)) 27 (nI u.2.1)) (updR (updR (updR (updR R 5 (.ref pq)) 6 (.ref (it j9))) 7 (.ref (a op))) 8 (.ref (a sp))) Z B u.2.2.1 K u.1)) (fun u => u.1) := by
  intro sz
  refine Met.ofW (cc := cX5_collect) (maxL := 9) (ret := none) (by decide) rfl ?_
  intro p e s m args below meth c s₁ B9 hml hv
  obtain ⟨rfl, hsz, hP, hD0, hE, hX⟩ := hv
  have hx := B9.exec
  have hb := B9.bytes
  have hr := B9.returns
  have hts := atoms_spec (ws := Cond.code yX5_collect cX5_collect 9 none :: pw) B9.pre
  have hq : ∀ w ∈ pw, w.before _ s = true := fun w h => hts w (List.mem_cons_of_mem _ h)
  have hown : s.vm.findClass RX5 = some m.cls := findClass_of_methodNamed B9.named
  have hlocks := B9.notSynchronized
  subst hsz
  have hD := hD0.self (sz := s.heap.size)
  have hA : ∀ q : Nat, s.heap.size ≤ q → va_A w s.heap.size q := fun q h => Or.inr h
  generalize va_A w s.heap.size = A at hD hE hA ⊢
  have hS : va_S A s.heap s.heap [] := va_S.rf
  have hl := lv_entry ([.ref (a 5)]) (n := 9) (Nat.le_of_ble_eq_true rfl)
  rw [lg_entry_eq]
  generalize (lg_sl ([.ref (a 5)]) ++ List.replicate (9 - (lg_sl ([.ref (a 5)])).length) Slot.unset).toArray = ls at hl ⊢
  have hl : lv_has ls 9 [(0, .ref (a 5))] := hl
  have hpg := hps.1
  have hp1 := hpg.1
  have hp2 := hpg.2.1
  have hp3 := hpg.2.2.1
  have hp4 := hpg.2.2.2.1
  have hp5 := hpg.2.2.2.2.1
  have hp6 := hpg.2.2.2.2.2.1
  have hp8 := hpg.2.2.2.2.2.2.2.1
  have hp9 := hpg.2.2.2.2.2.2.2.2
  have hnm9 := hps.2.2.1.2.2.1
  obtain ⟨hb1, hb2, hb3, hb4, hb5, hb6, hb7⟩ := hma.1
  have hnmE := hpy.1.1
  have hmj := hpy.2.1 j9 (by omega)
  have hlo := FFy.lo hma.2.1
  have hsl := hmj.1.2.2.2.1 pc hb4 hb5 hma.2.1.1.1
  have hbj := hmj.1.2.1.2
  have hht := hma.2.2.2.1
  have hh9 := hht.1
  have h29 : ¬ sp = 29 ∧ ¬ op = 29 := by omega
  refine lv_aload_n hx hb dX5_collect_0 rfl (lv_at hl 0 rfl) ?_
  refine c_get (v := .ref (a 28)) (C := RX5) (Tc := TX5) (N := 19) (ci := 4) hx hb hq pin_wsX50 hown hE hP hO 28 (sg_28 G h0 a _ _ _ _ _) rfl 1 (by decide) (hq _ pw_473) (fun _ h9 => h9) rfl dX5_collect_1 ?_
  have hO : OKW G h0 a (upd (upd (upd (upd (upd (upd (upd F 5 (nI cs)) 6 (nI rg)) 18 (nI ba)) 19 (nI tp)) 20 (nI pc)) 22 (nI on)) 26 (nI ht)) (updR (updR (updR (updR R 5 (.ref pq)) 6 (.ref (it j9))) 7 (.ref (a sp))) 8 (.ref (a op))) Z B J K.1 (fun q99 x99 => x99 = rep G a K q99) w := hO.to rfl
  obtain ⟨_, qr4, hqr5⟩ := hO.2.1 29 _ (sg_29 G h0 a _ _ _ _ _)
  refine pc_V0 (G := G) (As := []) (rest := []) hx hb hml hown hq hE hX pX0_al hP hD hS hA hl.1 (K_beginCollecting l G h0 a (upd (upd (upd (upd (upd (upd (upd F 5 (nI cs)) 6 (nI rg)) 18 (nI ba)) 19 (nI tp)) 20 (nI pc)) 22 (nI on)) 26 (nI ht)) (updR (updR (updR (updR R 5 (.ref pq)) 6 (.ref (it j9))) 7 (.ref (a sp))) 8 (.ref (a op))) Z B J K.1 (fun q99 x99 => x99 = rep G a K q99) w hO) (gV pw_521 pw_522 pw_523 pw_440 pw_457) hV_X3_beginCollecting qr4 3 hqr5 rfl rfl rfl (Nat.le_of_ble_eq_true rfl) dX5_collect_4 ⟨Nat.le_of_ble_eq_true rfl, Nat.le_of_ble_eq_true rfl⟩ ⟨Nat.le_of_ble_eq_true rfl, Nat.le_of_ble_eq_true rfl⟩ (fun v3 u1 H locs hw2 hP hD hS => ?_)
  obtain ⟨w, _⟩ := u1
  obtain ⟨hw2, hO⟩ := hw2
  obtain rfl : v3 = none := hw2
  have hO : OKP G h0 a (upd (upd (upd (upd (upd (upd (upd (upd F 5 (nI cs)) 6 (nI rg)) 18 (nI ba)) 19 (nI tp)) 20 (nI pc)) 22 (nI on)) 26 (nI ht)) 27 8) (updR (updR (updR (updR R 5 (.ref pq)) 6 (.ref (it j9))) 7 (.ref (a sp))) 8 (.ref (a op))) Z B J K w := hO.to rfl
  refine W.widen (k := 0) (n := 0) (Nat.le_of_ble_eq_true rfl) (Nat.le_of_ble_eq_true rfl) ?_
  refine W.eq (g2 := F0 m 7 ls []) rfl ?_
  refine lv_aload_n hx hb dX5_collect_7 rfl (lv_at hl 0 rfl) ?_
  refine c_get (v := .int (nI ba)) (C := RX5) (Tc := TX5) (N := 19) (ci := 4) hx hb hq pin_wsX50 hown hE hP hO 28 (sg_28 G h0 a _ _ _ _ _) rfl 10 (by decide) (hq _ pw_504) (fun _ h9 => h9) rfl dX5_collect_8 ?_
  refine lv_istore_n (lv' := [(1, .int (nI ba)), (0, .ref (a 5))]) hx hb dX5_collect_11 rfl hl (by decide) rfl (fun ls hl => ?_)
  refine lv_aload_n hx hb dX5_collect_12 rfl (lv_at hl 1 rfl) ?_
  refine c_get (v := .int (nI tp)) (C := RX5) (Tc := TX5) (N := 19) (ci := 4) hx hb hq pin_wsX50 hown hE hP hO 28 (sg_28 G h0 a _ _ _ _ _) rfl 11 (by decide) (hq _ pw_505) (fun _ h9 => h9) rfl dX5_collect_13 ?_
  refine lv_istore_n (lv' := [(2, .int (nI tp)), (1, .int (nI ba)), (0, .ref (a 5))]) hx hb dX5_collect_16 rfl hl (by decide) rfl (fun ls hl => ?_)
  refine lv_aload_n hx hb dX5_collect_17 rfl (lv_at hl 2 rfl) ?_
  refine c_get (v := .int (nI pc)) (C := RX5) (Tc := TX5) (N := 19) (ci := 4) hx hb hq pin_wsX50 hown hE hP hO 28 (sg_28 G h0 a _ _ _ _ _) rfl 12 (by decide) (hq _ pw_506) (fun _ h9 => h9) rfl dX5_collect_18 ?_
  refine lv_istore_n (lv' := [(3, .int (nI pc)), (2, .int (nI tp)), (1, .int (nI ba)), (0, .ref (a 5))]) hx hb dX5_collect_21 rfl hl (by decide) rfl (fun ls hl => ?_)
  refine lv_aload_n hx hb dX5_collect_22 rfl (lv_at hl 3 rfl) ?_
  refine c_get (v := .ref (it j9)) (C := RX5) (Tc := TX5) (N := 19) (ci := 4) hx hb hq pin_wsX50 hown hE hP hO 28 (sg_28 G h0 a _ _ _ _ _) rfl 9 (by decide) (hq _ pw_503) (fun _ h9 => h9) rfl dX5_collect_23 ?_
  refine lv_astore (lv' := [(4, .ref (it j9)), (3, .int (nI pc)), (2, .int (nI tp)), (1, .int (nI ba)), (0, .ref (a 5))]) hx hb dX5_collect_26 hl (by decide) rfl (fun ls hl => ?_)
  refine lv_aload_n hx hb dX5_collect_28 rfl (lv_at hl 4 rfl) ?_
  refine c_get (v := .int (nI on)) (C := RX5) (Tc := TX5) (N := 19) (ci := 4) hx hb hq pin_wsX50 hown hE hP hO 28 (sg_28 G h0 a _ _ _ _ _) rfl 15 (by decide) (hq _ pw_502) (fun _ h9 => h9) rfl dX5_collect_29 ?_
  refine lv_iconst (v := 1) hx hb dX5_collect_32 (by decide) ?_
  refine lv_isub hx hb dX5_collect_33 ?_
  refine lv_topi (fun x6 e7 => ?_)
  refine lv_istore (lv' := [(5, .int x6), (4, .ref (it j9)), (3, .int (nI pc)), (2, .int (nI tp)), (1, .int (nI ba)), (0, .ref (a 5))]) hx hb dX5_collect_34 hl (by decide) rfl (fun ls hl => ?_)
  have loop_c : ∀ (n_c : Nat) (k2 : Nat) (xf : Int32) (xe : Int32) (xa : Int32) (cl : Int32) (o2 : Option Nat) (b2 : Nat) (e2 : Nat) (p2 : Nat) (i9 : Nat) (q2 : Nat) (n9 : Nat) (c2 : Nat) (ot2 : Nat) (a2 : AS) (J2 : Nat → Nat → Int64) (ph2 : Nat → Nat) (H : Heap) (locs : List Loc) (ls : Array Slot) (w : va_W), k2 ≤ on → on + 1 ≤ k2 + n_c → (cl = nI c2 - 1) → (c2 + k2 = on) → (8 ≤ ot2 ∧ ot2 ≤ 3008 ∧ e2 ≤ tp) → (CfO y it (B 19) (B 30) Sh (J 29) c2 xf xe xa o2 b2 e2 p2 i9 q2 n9 a2) → (GI Sh nn (J sp) (J2 sp) (J2 op) ot2 8 ph2) → (GC nn ph2 ht ot2) → (∀ i : Nat, i < e2 → J2 29 i = J 29 i) → (CoI (yM y) (B 19) (B 30) (J 29) on ba (yA y j9 pc).2.1 (ysl y j9) tp ph2 (J2 29) c2 b2 e2 q2 n9) → (MoN K o2) → va_P G.1 pCl w H → va_D A w → va_S A s.heap H locs → OKP G h0 a (upd (upd (upd (upd (upd (upd (upd (upd F 5 (nI cs)) 6 (nI rg)) 18 (nI ba)) 19 (nI tp)) 20 (nI pc)) 22 (nI on)) 26 (nI ht)) 27 (nI ot2)) (updR (updR (updR (updR R 5 (.ref pq)) 6 (.ref (it j9))) 7 (.ref (a sp))) 8 (.ref (a op))) Z B J2 K w → lv_has ls 9 [(5, .int cl), (4, va_rf o2), (3, .int xa), (2, .int xe), (1, .int xf), (0, .ref (a 5))] → W p l e (headSpec (Cond.code yX5_collect cX5_collect 9 none :: pw) ({ frames := 6, cells := 0, slots := 0, locals := 145 } : Room)).room s m ([.ref (a 5)] : List Value).toArray below meth c H locs 0 0 (MQ below (pQ G A (fun (v : Option Value) (u : va_W × (Nat × (Nat → Nat → Int64) × (Nat → Nat) × (Nat → Nat))) => v = none ∧ (MIa y (B 19) u.2.2.2.1 u.2.2.2.2 (u.2.2.1 op) u.2.1 (B 30) (u.2.2.1 29) on j9 ba pc os tp) ∧ (LoE u.2.2.1 op sp) ∧ (8 ≤ u.2.1 ∧ u.2.1 ≤ 3008) ∧ (OKP G h0 a (upd (upd (upd (upd (upd (upd (upd (upd F 5 (nI cs)) 6 (nI rg)) 18 (nI ba)) 19 (nI tp)) 20 (nI pc)) 22 (nI on)) 26 (nI u.2.1)) 27 (nI u.2.1)) (updR (updR (updR (updR R 5 (.ref pq)) 6 (.ref (it j9))) 7 (.ref (a op))) 8 (.ref (a sp))) Z B u.2.2.1 K u.1)) (fun u => u.1)) ([.ref (a 5)] : List Value).toArray s ({ frames := 6, cells := 0, slots := 0, locals := 145 } : Room).cells ({ frames := 6, cells := 0, slots := 0, locals := 145 } : Room).slots A) (F0 m 36 ls []) := by
    intro n_c
    induction n_c with
    | zero => intro k2 xf xe xa cl o2 b2 e2 p2 i9 q2 n9 c2 ot2 a2 J2 ph2 H locs ls w hk_c hn_c; omega
    | succ n_c ih_c =>
      intro k2 xf xe xa cl o2 b2 e2 p2 i9 q2 n9 c2 ot2 a2 J2 ph2 H locs ls w hk_c hn_c hcl hck hot2 hcf hgi2 hgc2 hun2 hco2 ho2 hP hD hS hO hl
      refine lv_iload hx hb dX5_collect_36 (lv_at hl 0 rfl) ?_
      refine lv_if_lt (tgt := 185) hx hb dX5_collect_38 (by decide) (fun c8 => ?_) (fun c8 => ?_)
      · have hc0 : c2 = 0 := Classical.byContradiction fun z => nI_pos (n := c2 - 1) (by omega) (by rw [← nI_subN (a := 1) (b := c2) (by omega)]; exact hcl ▸ c8)
        subst hc0
        refine lv_aload_n hx hb dX5_collect_185 rfl (lv_at hl 5 rfl) ?_
        refine c_get (v := .ref (a 28)) (C := RX5) (Tc := TX5) (N := 19) (ci := 4) hx hb hq pin_wsX50 hown hE hP hO 28 (sg_28 G h0 a _ _ _ _ _) rfl 1 (by decide) (hq _ pw_473) (fun _ h9 => h9) rfl dX5_collect_186 ?_
        have hO : OKW G h0 a (upd (upd (upd (upd (upd (upd (upd (upd (upd (upd F 5 (nI cs)) 6 (nI rg)) 18 (nI ba)) 19 (nI tp)) 20 (nI pc)) 22 (nI on)) 26 (nI ht)) 27 (nI ot2)) 26 (nI ht)) 27 (nI ot2)) (updR (updR (updR (updR (updR (updR R 5 (.ref pq)) 6 (.ref (it j9))) 7 (.ref (a sp))) 8 (.ref (a op))) 7 (.ref (a sp))) 8 (.ref (a op))) Z B J2 K.1 (fun q99 x99 => x99 = rep G a K q99) w := hO.to rfl
        obtain ⟨_, qr12, hqr13⟩ := hO.2.1 29 _ (sg_29 G h0 a _ _ _ _ _)
        refine pc_V0 (G := G) (As := []) (rest := []) hx hb hml hown hq hE hX pX0_al hP hD hS hA hl.1 (Y_endCollecting l G h0 a (upd (upd (upd (upd (upd (upd (upd (upd F 5 (nI cs)) 6 (nI rg)) 18 (nI ba)) 19 (nI tp)) 20 (nI pc)) 22 (nI on)) 26 (nI ht)) 27 (nI ot2)) (updR (updR (updR (updR R 5 (.ref pq)) 6 (.ref (it j9))) 7 (.ref (a sp))) 8 (.ref (a op))) Z B J2 K.1 (fun q99 x99 => x99 = rep G a K q99) w sp op ht ot2 (yfi y) (yfd y) (yft y) Sh nn (J sp) ph2 hsp (by omega) hgi2 hgc2 hht hO) (gV pw_531 pw_532 pw_533 pw_440 pw_464) hV_X3_endCollecting qr12 3 hqr13 rfl rfl rfl (Nat.le_of_ble_eq_true rfl) dX5_collect_189 ⟨Nat.le_of_ble_eq_true rfl, Nat.le_of_ble_eq_true rfl⟩ ⟨Nat.le_of_ble_eq_true rfl, Nat.le_of_ble_eq_true rfl⟩ (fun v11 u9 H locs hw10 hP hD hS => ?_)
        obtain ⟨w, ot14, J15, ph16⟩ := u9
        obtain ⟨hw10, h17, h18, h19, h20, h21, hO⟩ := hw10
        have h17 : GI Sh nn (J sp) (J15 sp) (J15 op) ot14 ot14 ph16 := h17
        have h18 : GC nn ph16 ht ot14 := h18
        have h19 : ∀ q : Nat, ¬ ph2 q = 0 → ph16 q = ph2 q := h19
        have h20 : J15 29 = (J2 29) := h20
        have h21 : ot2 ≤ ot14 ∧ ot14 ≤ 3008 := h21
        obtain rfl : v11 = none := hw10
        have hO : OKP G h0 a (upd (upd (upd (upd (upd (upd (upd (upd F 5 (nI cs)) 6 (nI rg)) 18 (nI ba)) 19 (nI tp)) 20 (nI pc)) 22 (nI on)) 26 (nI ot14)) 27 (nI ot14)) (updR (updR (updR (updR R 5 (.ref pq)) 6 (.ref (it j9))) 7 (.ref (a op))) 8 (.ref (a sp))) Z B J15 K w := hO.to rfl
        refine W.widen (k := 0) (n := 0) (Nat.le_of_ble_eq_true rfl) (Nat.le_of_ble_eq_true rfl) ?_
        refine W.eq (g2 := F0 m 192 ls []) rfl ?_
        have htot := CoI.done hco2
        have hgx : ∀ q : Nat, ¬ ph2 q = 0 → ph16 q = ph2 q := h19
        have hma1 : MIa y (B 19) (S9 Sh ph16) (N9 nn ph16) (J15 op) ot14 (B 30) (J15 29) on j9 ba pc os tp := MIa.moved (O := B 16) (L := B 17) (R := B 18) (q := (yA y j9 pc).2.1) hma h17 (by omega) (fun i hi => (hpy.2.1 i (by omega)).1) hhe rfl (by rw [h20]; exact ⟨MvS.up htot.1 hgx (fun _ _ _ => rfl), MvF.up hgx htot.2⟩)
        have hz22 : MIa y (B 19) (S9 Sh ph16) (N9 nn ph16) (J15 op) ot14 (B 30) (J15 29) on j9 ba pc os tp := hma1
        have hz23 : LoE J15 op sp := (GI.low h17 hht.2.1)
        have hz24 : 8 ≤ ot14 ∧ ot14 ≤ 3008 := (by omega)
        have hO : OKP G h0 a (upd (upd (upd (upd (upd (upd (upd (upd F 5 (nI cs)) 6 (nI rg)) 18 (nI ba)) 19 (nI tp)) 20 (nI pc)) 22 (nI on)) 26 (nI ot14)) 27 (nI ot14)) (updR (updR (updR (updR R 5 (.ref pq)) 6 (.ref (it j9))) 7 (.ref (a op))) 8 (.ref (a sp))) Z B J15 K w := hO.to rfl
        exact W.vret hx hb hr (fun t99 ht99 hW99 => ⟨⟨_, (w, (ot14, J15, (S9 Sh ph16), (N9 nn ph16))), rfl, ⟨rfl, hz22, hz23, hz24, hO⟩, by rw [ht99]; exact hP, hD⟩, hS.F ht99⟩) hS.2.2 dX5_collect_192
      · obtain ⟨hc1, hc9⟩ := pred_nn hcl (by omega) c8
        obtain ⟨hf1, hf2, hf3, hf4, hf5, hf6, hf7, hf8, hf9, hfk, hcs⟩ := hcf hc1
        subst hf1 hf2 hf3 hf4 hf9
        have hmi := hpy.2.1 i9 (by omega)
        have hbi := hmi.1.2.1.2
        have hyc : yhi y i9 ≤ cs := hmi.2.1
        rw [hc9] at hl
        have hl : lv_has ls 9 [(5, .int (nI (c2 - 1))), (4, .ref (it i9)), (3, .int (nI p2)), (2, .int (nI e2)), (1, .int (nI b2)), (0, .ref (a 5))] := hl
        have hfk3 := hfk.2.2.1
        have hfk2 := hfk.2.1
        refine lv_aload hx hb dX5_collect_41 (lv_at hl 1 rfl) ?_
        refine lv_ifnull hx hb dX5_collect_43 ?_
        refine lv_iload_n hx hb dX5_collect_46 rfl (lv_at hl 4 rfl) ?_
        refine lv_aload_n hx hb dX5_collect_47 rfl (lv_at hl 5 rfl) ?_
        refine c_get (v := .ref (a 2)) (C := RX5) (Tc := TX5) (N := 19) (ci := 4) hx hb hq pin_wsX50 hown hE hP hO 28 (sg_28 G h0 a _ _ _ _ _) rfl 0 (by decide) (hq _ pw_470) (fun _ h9 => h9) rfl dX5_collect_48 ?_
        refine lv_iload_n hx hb dX5_collect_51 rfl (lv_at hl 2 rfl) ?_
        have hO : OKW G h0 a (upd (upd (upd (upd (upd (upd (upd (upd (upd F 5 (nI cs)) 6 (nI rg)) 18 (nI ba)) 19 (nI tp)) 20 (nI pc)) 22 (nI on)) 26 (nI ht)) 27 (nI ot2)) 5 (nI cs)) (updR (updR (updR (updR R 5 (.ref pq)) 6 (.ref (it j9))) 7 (.ref (a sp))) 8 (.ref (a op))) Z B J2 K.1 (fun q99 x99 => x99 = rep G a K q99) w := hO.to rfl
        obtain ⟨_, qr28, hqr29⟩ := hO.2.1 13 _ (sg_13 G h0 a _ _ _ _ _)
        refine pc_V0 (G := G) (As := [.int (nI p2)]) (rest := [.int (nI b2)]) hx hb hml hown hq hE hX pX0_al hP hD hS hA hl.1 (Y_heldAt l G h0 a (upd (upd (upd (upd (upd (upd (upd (upd F 5 (nI cs)) 6 (nI rg)) 18 (nI ba)) 19 (nI tp)) 20 (nI pc)) 22 (nI on)) 26 (nI ht)) 27 (nI ot2)) (updR (updR (updR (updR R 5 (.ref pq)) 6 (.ref (it j9))) 7 (.ref (a sp))) 8 (.ref (a op))) Z B J2 K.1 (fun q99 x99 => x99 = rep G a K q99) w p2 cs (by omega) (by omega) hO) (gV pw_524 pw_525 pw_526 pw_70 pw_382) hV_X1_heldAt qr28 1 hqr29 rfl rfl rfl (Nat.le_of_ble_eq_true rfl) dX5_collect_52 ⟨Nat.le_of_ble_eq_true rfl, Nat.le_of_ble_eq_true rfl⟩ ⟨Nat.le_of_ble_eq_true rfl, Nat.le_of_ble_eq_true rfl⟩ (fun v27 u25 H locs hw26 hP hD hS => ?_)
        obtain ⟨w, _⟩ := u25
        obtain ⟨hw26, hO⟩ := hw26
        obtain rfl : v27 = some (.int ((B 19) p2)) := hw26
        have hO : OKP G h0 a (upd (upd (upd (upd (upd (upd (upd (upd F 5 (nI cs)) 6 (nI rg)) 18 (nI ba)) 19 (nI tp)) 20 (nI pc)) 22 (nI on)) 26 (nI ht)) 27 (nI ot2)) (updR (updR (updR (updR R 5 (.ref pq)) 6 (.ref (it j9))) 7 (.ref (a sp))) 8 (.ref (a op))) Z B J2 K w := hO.to rfl
        refine W.widen (k := 0) (n := 0) (Nat.le_of_ble_eq_true rfl) (Nat.le_of_ble_eq_true rfl) ?_
        refine W.eq (g2 := F0 m 55 ls [.int ((B 19) p2), .int (nI b2)]) rfl ?_
        rw [hf7]
        refine lv_iadd hx hb dX5_collect_55 ?_
        refine lv_topi (fun x30 e31 => ?_)
        obtain rfl : x30 = nI (b2 + q2) := e31.trans (nI_add (b2) (q2))
        refine lv_istore (lv' := [(6, .int (nI (b2 + q2))), (5, .int (nI (c2 - 1))), (4, .ref (it i9)), (3, .int (nI p2)), (2, .int (nI e2)), (1, .int (nI b2)), (0, .ref (a 5))]) hx hb dX5_collect_56 hl (by decide) rfl (fun ls hl => ?_)
        refine lv_iload_n hx hb dX5_collect_58 rfl (lv_at hl 5 rfl) ?_
        refine lv_aload hx hb dX5_collect_59 (lv_at hl 2 rfl) ?_
        refine p_get (v := .int (nI (ysl y i9))) (C := RX6) (Tc := TX6) (N := 12) (ci := 12) hx hb hq pin_wsX60 hown hE hP hO (by rw [(hps.2.2.1.T (show i9 < nm by omega))]; decide) (rep_3 (hps.2.2.1.T (show i9 < nm by omega))) rfl 9 (by decide) (hq _ pw_519) (fun _ h9 => h9) (congrArg (fun z => some (Value.int z)) hmi.2.2.2.2.2.1) dX5_collect_61 ?_
        refine lv_iadd hx hb dX5_collect_64 ?_
        refine lv_topi (fun x32 e33 => ?_)
        obtain rfl : x32 = nI (b2 + (ysl y i9)) := e33.trans (nI_add (b2) ((ysl y i9)))
        refine lv_istore (lv' := [(7, .int (nI (b2 + (ysl y i9)))), (6, .int (nI (b2 + q2))), (5, .int (nI (c2 - 1))), (4, .ref (it i9)), (3, .int (nI p2)), (2, .int (nI e2)), (1, .int (nI b2)), (0, .ref (a 5))]) hx hb dX5_collect_65 hl (by decide) rfl (fun ls hl => ?_)
        refine lv_iload_n hx hb dX5_collect_67 rfl (lv_at hl 6 rfl) ?_
        refine lv_iconst (v := 0) hx hb dX5_collect_68 (by decide) ?_
        refine va_mmax (own := RX5) hx hb (by rw [hml]; exact hl.1.symm) hown (hq _ pw_520) (hq _ pw_51) (hq _ pw_52) (hq _ pw_53) (Nat.le_of_ble_eq_true rfl) (Nat.le_of_ble_eq_true rfl) (Nat.le_of_ble_eq_true rfl) (Nat.le_of_ble_eq_true rfl) dX5_collect_69 ?_
        refine lv_topi (fun x34 e35 => ?_)
        rw [show x34 = nI b2 from e35.trans (mx_l0 (by omega))]
        refine lv_istore (lv' := [(8, .int (nI b2)), (7, .int (nI (b2 + (ysl y i9)))), (6, .int (nI (b2 + q2))), (5, .int (nI (c2 - 1))), (4, .ref (it i9)), (3, .int (nI p2)), (2, .int (nI e2)), (1, .int (nI b2)), (0, .ref (a 5))]) hx hb dX5_collect_72 hl (by decide) rfl (fun ls hl => ?_)
        have loop_j : ∀ (n_j : Nat) (i3 : Nat) (ot3 : Nat) (J3 : Nat → Nat → Int64) (ph3 : Nat → Nat) (H : Heap) (locs : List Loc) (ls : Array Slot) (w : va_W), i3 ≤ 32000 → 32000 + 1 ≤ i3 + n_j → (8 ≤ ot3 ∧ ot3 ≤ 3008 ∧ b2 ≤ i3 ∧ i3 ≤ e2) → (GI Sh nn (J sp) (J3 sp) (J3 op) ot3 8 ph3) → (GC nn ph3 ht ot3) → (∀ q : Nat, ¬ ph2 q = 0 → ph3 q = ph2 q) → (∀ i : Nat, i < b2 → J3 29 i = J2 29 i) → (∀ i : Nat, i3 ≤ i → J3 29 i = J2 29 i) → (∀ i : Nat, b2 ≤ i → i < i3 → (i < b2 + q2 ∨ b2 + ysl y i9 ≤ i) → MV ph3 (J2 29 i) (J3 29 i)) → va_P G.1 pCl w H → va_D A w → va_S A s.heap H locs → OKP G h0 a (upd (upd (upd (upd (upd (upd (upd (upd F 5 (nI cs)) 6 (nI rg)) 18 (nI ba)) 19 (nI tp)) 20 (nI pc)) 22 (nI on)) 26 (nI ht)) 27 (nI ot3)) (updR (updR (updR (updR R 5 (.ref pq)) 6 (.ref (it j9))) 7 (.ref (a sp))) 8 (.ref (a op))) Z B J3 K w → lv_has ls 9 [(8, .int (nI i3)), (7, .int (nI (b2 + ysl y i9))), (6, .int (nI (b2 + q2))), (5, .int (nI (c2 - 1))), (4, .ref (it i9)), (3, .int (nI p2)), (2, .int (nI e2)), (1, .int (nI b2)), (0, .ref (a 5))] → W p l e (headSpec (Cond.code yX5_collect cX5_collect 9 none :: pw) ({ frames := 6, cells := 0, slots := 0, locals := 145 } : Room)).room s m ([.ref (a 5)] : List Value).toArray below meth c H locs 0 0 (MQ below (pQ G A (fun (v : Option Value) (u : va_W × (Nat × (Nat → Nat → Int64) × (Nat → Nat) × (Nat → Nat))) => v = none ∧ (MIa y (B 19) u.2.2.2.1 u.2.2.2.2 (u.2.2.1 op) u.2.1 (B 30) (u.2.2.1 29) on j9 ba pc os tp) ∧ (LoE u.2.2.1 op sp) ∧ (8 ≤ u.2.1 ∧ u.2.1 ≤ 3008) ∧ (OKP G h0 a (upd (upd (upd (upd (upd (upd (upd (upd F 5 (nI cs)) 6 (nI rg)) 18 (nI ba)) 19 (nI tp)) 20 (nI pc)) 22 (nI on)) 26 (nI u.2.1)) 27 (nI u.2.1)) (updR (updR (updR (updR R 5 (.ref pq)) 6 (.ref (it j9))) 7 (.ref (a op))) 8 (.ref (a sp))) Z B u.2.2.1 K u.1)) (fun u => u.1)) ([.ref (a 5)] : List Value).toArray s ({ frames := 6, cells := 0, slots := 0, locals := 145 } : Room).cells ({ frames := 6, cells := 0, slots := 0, locals := 145 } : Room).slots A) (F0 m 74 ls []) := by
          intro n_j
          induction n_j with
          | zero => intro i3 ot3 J3 ph3 H locs ls w hk_j hn_j; omega
          | succ n_j ih_j =>
            intro i3 ot3 J3 ph3 H locs ls w hk_j hn_j hot3 hgi3 hgc3 hgr3 hlo3 hhi3 hmv3 hP hD hS hO hl
            refine lv_iload hx hb dX5_collect_74 (lv_at hl 0 rfl) ?_
            refine lv_iload_n hx hb dX5_collect_76 rfl (lv_at hl 6 rfl) ?_
            refine lv_icmp_ge (tgt := 135) hx hb dX5_collect_77 (by decide) (fun c36 => ?_) (fun c36 => ?_)
            · have n37 : e2 ≤ i3 := (nI_leI (a := e2) (b := i3) (by omega) (by omega)).mp c36
              by_cases hc1x : c2 = 1
              · skip
                refine lv_iload_n hx hb dX5_collect_135 rfl (lv_at hl 7 rfl) ?_
                refine lv_istore_n (lv' := [(2, .int (nI b2)), (8, .int (nI i3)), (7, .int (nI (b2 + ysl y i9))), (6, .int (nI (b2 + q2))), (5, .int (nI (c2 - 1))), (4, .ref (it i9)), (3, .int (nI p2)), (1, .int (nI b2)), (0, .ref (a 5))]) hx hb dX5_collect_136 rfl hl (by decide) rfl (fun ls hl => ?_)
                refine lv_aload_n hx hb dX5_collect_137 rfl (lv_at hl 8 rfl) ?_
                refine c_get (v := .ref (a 30)) (C := RX5) (Tc := TX5) (N := 19) (ci := 4) hx hb hq pin_wsX50 hown hE hP hO 28 (sg_28 G h0 a _ _ _ _ _) rfl 3 (by decide) (hq _ pw_475) (fun _ h9 => h9) rfl dX5_collect_138 ?_
                refine lv_iconst (v := 3) hx hb dX5_collect_141 (by decide) ?_
                refine lv_iload hx hb dX5_collect_142 (lv_at hl 4 rfl) ?_
                refine lv_imul hx hb dX5_collect_144 ?_
                refine lv_topi (fun x38 e39 => ?_)
                obtain rfl : x38 = nI (3 * (c2 - 1)) := e39.trans (nI_mulN (3) ((c2 - 1)))
                refine c_ldi (f := (B 30)) (n := 300) (t0 := 0) hx hb hE hP hO 33 (sg_33 G h0 a _ _ _ _ _) rfl (vp_in_nI (by omega) (by decide)) dX5_collect_145 ?_
                rw [(nI_clamp (show (3 * (c2 - 1)) < 2 ^ 31 by omega))]
                refine lv_istore_n (lv' := [(3, .int ((B 30) (3 * (c2 - 1)))), (2, .int (nI b2)), (8, .int (nI i3)), (7, .int (nI (b2 + ysl y i9))), (6, .int (nI (b2 + q2))), (5, .int (nI (c2 - 1))), (4, .ref (it i9)), (1, .int (nI b2)), (0, .ref (a 5))]) hx hb dX5_collect_146 rfl hl (by decide) rfl (fun ls hl => ?_)
                refine lv_aload_n hx hb dX5_collect_147 rfl (lv_at hl 8 rfl) ?_
                refine c_get (v := .ref (a 30)) (C := RX5) (Tc := TX5) (N := 19) (ci := 4) hx hb hq pin_wsX50 hown hE hP hO 28 (sg_28 G h0 a _ _ _ _ _) rfl 3 (by decide) (hq _ pw_475) (fun _ h9 => h9) rfl dX5_collect_148 ?_
                refine lv_iconst (v := 3) hx hb dX5_collect_151 (by decide) ?_
                refine lv_iload hx hb dX5_collect_152 (lv_at hl 5 rfl) ?_
                refine lv_imul hx hb dX5_collect_154 ?_
                refine lv_topi (fun x40 e41 => ?_)
                obtain rfl : x40 = nI (3 * (c2 - 1)) := e41.trans (nI_mulN (3) ((c2 - 1)))
                refine lv_iconst (v := 1) hx hb dX5_collect_155 (by decide) ?_
                refine lv_iadd hx hb dX5_collect_156 ?_
                refine lv_topi (fun x42 e43 => ?_)
                obtain rfl : x42 = nI ((3 * (c2 - 1)) + 1) := e43.trans (nI_add ((3 * (c2 - 1))) (1))
                refine c_ldi (f := (B 30)) (n := 300) (t0 := 0) hx hb hE hP hO 33 (sg_33 G h0 a _ _ _ _ _) rfl (vp_in_nI (by omega) (by decide)) dX5_collect_157 ?_
                rw [(nI_clamp (show ((3 * (c2 - 1)) + 1) < 2 ^ 31 by omega))]
                refine lv_istore_n (lv' := [(1, .int ((B 30) ((3 * (c2 - 1)) + 1))), (3, .int ((B 30) (3 * (c2 - 1)))), (2, .int (nI b2)), (8, .int (nI i3)), (7, .int (nI (b2 + ysl y i9))), (6, .int (nI (b2 + q2))), (5, .int (nI (c2 - 1))), (4, .ref (it i9)), (0, .ref (a 5))]) hx hb dX5_collect_158 rfl hl (by decide) rfl (fun ls hl => ?_)
                refine lv_aload_n hx hb dX5_collect_159 rfl (lv_at hl 8 rfl) ?_
                refine c_get (v := .ref pq) (C := RX5) (Tc := TX5) (N := 19) (ci := 4) hx hb hq pin_wsX50 hown hE hP hO 28 (sg_28 G h0 a _ _ _ _ _) rfl 8 (by decide) (hq _ pw_486) (fun _ h9 => h9) rfl dX5_collect_160 ?_
                refine lv_aload_n hx hb dX5_collect_163 rfl (lv_at hl 8 rfl) ?_
                refine c_get (v := .ref (a 30)) (C := RX5) (Tc := TX5) (N := 19) (ci := 4) hx hb hq pin_wsX50 hown hE hP hO 28 (sg_28 G h0 a _ _ _ _ _) rfl 3 (by decide) (hq _ pw_475) (fun _ h9 => h9) rfl dX5_collect_164 ?_
                refine lv_iconst (v := 3) hx hb dX5_collect_167 (by decide) ?_
                refine lv_iload hx hb dX5_collect_168 (lv_at hl 6 rfl) ?_
                refine lv_imul hx hb dX5_collect_170 ?_
                refine lv_topi (fun x44 e45 => ?_)
                obtain rfl : x44 = nI (3 * (c2 - 1)) := e45.trans (nI_mulN (3) ((c2 - 1)))
                refine lv_iconst (v := 2) hx hb dX5_collect_171 (by decide) ?_
                refine lv_iadd hx hb dX5_collect_172 ?_
                refine lv_topi (fun x46 e47 => ?_)
                obtain rfl : x46 = nI ((3 * (c2 - 1)) + 2) := e47.trans (nI_add ((3 * (c2 - 1))) (2))
                refine c_ldi (f := (B 30)) (n := 300) (t0 := 0) hx hb hE hP hO 33 (sg_33 G h0 a _ _ _ _ _) rfl (vp_in_nI (by omega) (by decide)) dX5_collect_173 ?_
                rw [(nI_clamp (show ((3 * (c2 - 1)) + 2) < 2 ^ 31 by omega))]
                have hO : OKP G h0 a (upd (upd (upd (upd (upd (upd (upd (upd F 5 (nI cs)) 6 (nI rg)) 18 (nI ba)) 19 (nI tp)) 20 (nI pc)) 22 (nI on)) 26 (nI ht)) 27 (nI ot3)) (updR (updR (updR (updR R 5 (.ref pq)) 6 (.ref (it j9))) 7 (.ref (a sp))) 8 (.ref (a op))) Z B J3 K w := hO.to rfl
                obtain ⟨qr51, hqr52⟩ := p_recv hO (by rw [hp1]; decide) (rep_7 hp1)
                refine pc_V0 (G := G) (As := [.int ((B 30) ((3 * (c2 - 1)) + 2))]) (rest := []) hx hb hml hown hq hE hX pX0_al hP hD hS hA hl.1 (G_methodX l G h0 a (upd (upd (upd (upd (upd (upd (upd (upd F 5 (nI cs)) 6 (nI rg)) 18 (nI ba)) 19 (nI tp)) 20 (nI pc)) 22 (nI on)) 26 (nI ht)) 27 (nI ot3)) (updR (updR (updR (updR R 5 (.ref pq)) 6 (.ref (it j9))) 7 (.ref (a sp))) 8 (.ref (a op))) Z B J3 K w pq dr ml nd ((B 30) ((3 * (c2 - 1)) + 2)) nm cp it g hps.1 hps.2.2.1 hO) (gV pw_528 pw_529 pw_530 pw_106 pw_518) hV_X9_method qr51 6 hqr52 rfl rfl rfl (Nat.le_of_ble_eq_true rfl) dX5_collect_174 ⟨Nat.le_of_ble_eq_true rfl, Nat.le_of_ble_eq_true rfl⟩ ⟨Nat.le_of_ble_eq_true rfl, Nat.le_of_ble_eq_true rfl⟩ (fun v50 u48 H locs hw49 hP hD hS => ?_)
                obtain ⟨w, o53⟩ := u48
                obtain ⟨hw49, h54, hO⟩ := hw49
                have h54 : MoX K nm it ((B 30) ((3 * (c2 - 1)) + 2)) o53 := h54
                obtain rfl : v50 = some ((va_rf o53)) := hw49
                have hO : OKP G h0 a (upd (upd (upd (upd (upd (upd (upd (upd F 5 (nI cs)) 6 (nI rg)) 18 (nI ba)) 19 (nI tp)) 20 (nI pc)) 22 (nI on)) 26 (nI ht)) 27 (nI ot3)) (updR (updR (updR (updR R 5 (.ref pq)) 6 (.ref (it j9))) 7 (.ref (a sp))) 8 (.ref (a op))) Z B J3 K w := hO.to rfl
                refine W.widen (k := 0) (n := 0) (Nat.le_of_ble_eq_true rfl) (Nat.le_of_ble_eq_true rfl) ?_
                refine W.eq (g2 := F0 m 177 ls [(va_rf o53)]) rfl ?_
                rcases o53 with _ | d55
                · have hl : lv_has ls 9 [(1, .int ((B 30) ((3 * (c2 - 1)) + 1))), (3, .int ((B 30) (3 * (c2 - 1)))), (2, .int (nI b2)), (8, .int (nI i3)), (7, .int (nI (b2 + ysl y i9))), (6, .int (nI (b2 + q2))), (5, .int (nI (c2 - 1))), (4, .ref (it i9)), (0, .ref (a 5))] := hl
                  refine W.eq (g2 := F0 m 177 ls [.null]) rfl ?_
                  refine lv_astoreN (lv' := [(4, .null), (1, .int ((B 30) ((3 * (c2 - 1)) + 1))), (3, .int ((B 30) (3 * (c2 - 1)))), (2, .int (nI b2)), (8, .int (nI i3)), (7, .int (nI (b2 + ysl y i9))), (6, .int (nI (b2 + q2))), (5, .int (nI (c2 - 1))), (0, .ref (a 5))]) hx hb dX5_collect_177 hl (by decide) rfl (fun ls hl => ?_)
                  obtain ⟨x56, e57⟩ : ∃ y : Int32, y = (nI (c2 - 1)) + (-1) := ⟨_, rfl⟩
                  refine lv_iinc (v := x56) (lv' := [(5, .int x56), (4, .null), (1, .int ((B 30) ((3 * (c2 - 1)) + 1))), (3, .int ((B 30) (3 * (c2 - 1)))), (2, .int (nI b2)), (8, .int (nI i3)), (7, .int (nI (b2 + ysl y i9))), (6, .int (nI (b2 + q2))), (0, .ref (a 5))]) hx hb dX5_collect_179 hl (k := 7) rfl (by rw [e57]; rfl) (by decide) rfl (fun ls hl => ?_)
                  refine lv_goto (tgt := 36) hx hb dX5_collect_182 (by decide) ?_
                  have hO : OKP G h0 a (upd (upd (upd (upd (upd (upd (upd (upd F 5 (nI cs)) 6 (nI rg)) 18 (nI ba)) 19 (nI tp)) 20 (nI pc)) 22 (nI on)) 26 (nI ht)) 27 (nI ot3)) (updR (updR (updR (updR R 5 (.ref pq)) 6 (.ref (it j9))) 7 (.ref (a sp))) 8 (.ref (a op))) Z B J3 K w := hO.to rfl
                  exact ih_c (k2 + 1) ((B 30) ((3 * (c2 - 1)) + 1)) (nI b2) ((B 30) (3 * (c2 - 1))) x56 none 0 b2 0 0 0 0 (c2 - 1) ot3 (yA y 0 0) J3 ph3 _ _ _ _ (by omega) (by omega) (e57.trans add_m1) (by omega) (by omega) (fun z => absurd z (by omega)) hgi3 hgc3 (fun i hi => (hlo3 i hi).trans (hun2 i (by omega))) (by rw [show c2 - 1 = 0 by omega]; rw [hc1x] at hco2; exact CoI.step (n := 0) (i3 := 0) (p3 := 0) hco2 hgr3 (fun i hi hi2 => hhi3 i (by omega)) (fun i h1 h2 h3 => by rw [← hun2 i (by omega)]; exact hmv3 i h1 (by omega) h3) (by omega) (fun z => absurd z (by omega))) (fun z h => by cases h) hP hD hS hO (lv_sub hl [0, 1, 3, 4, 2, 8] rfl)
                · have hl : lv_has ls 9 [(1, .int ((B 30) ((3 * (c2 - 1)) + 1))), (3, .int ((B 30) (3 * (c2 - 1)))), (2, .int (nI b2)), (8, .int (nI i3)), (7, .int (nI (b2 + ysl y i9))), (6, .int (nI (b2 + q2))), (5, .int (nI (c2 - 1))), (4, .ref (it i9)), (0, .ref (a 5))] := hl
                  refine W.eq (g2 := F0 m 177 ls [.ref d55]) rfl ?_
                  refine lv_astore (lv' := [(4, .ref d55), (1, .int ((B 30) ((3 * (c2 - 1)) + 1))), (3, .int ((B 30) (3 * (c2 - 1)))), (2, .int (nI b2)), (8, .int (nI i3)), (7, .int (nI (b2 + ysl y i9))), (6, .int (nI (b2 + q2))), (5, .int (nI (c2 - 1))), (0, .ref (a 5))]) hx hb dX5_collect_177 hl (by decide) rfl (fun ls hl => ?_)
                  obtain ⟨x58, e59⟩ : ∃ y : Int32, y = (nI (c2 - 1)) + (-1) := ⟨_, rfl⟩
                  refine lv_iinc (v := x58) (lv' := [(5, .int x58), (4, .ref d55), (1, .int ((B 30) ((3 * (c2 - 1)) + 1))), (3, .int ((B 30) (3 * (c2 - 1)))), (2, .int (nI b2)), (8, .int (nI i3)), (7, .int (nI (b2 + ysl y i9))), (6, .int (nI (b2 + q2))), (0, .ref (a 5))]) hx hb dX5_collect_179 hl (k := 7) rfl (by rw [e59]; rfl) (by decide) rfl (fun ls hl => ?_)
                  refine lv_goto (tgt := 36) hx hb dX5_collect_182 (by decide) ?_
                  have hO : OKP G h0 a (upd (upd (upd (upd (upd (upd (upd (upd F 5 (nI cs)) 6 (nI rg)) 18 (nI ba)) 19 (nI tp)) 20 (nI pc)) 22 (nI on)) 26 (nI ht)) 27 (nI ot3)) (updR (updR (updR (updR R 5 (.ref pq)) 6 (.ref (it j9))) 7 (.ref (a sp))) 8 (.ref (a op))) Z B J3 K w := hO.to rfl
                  exact ih_c (k2 + 1) ((B 30) ((3 * (c2 - 1)) + 1)) (nI b2) ((B 30) (3 * (c2 - 1))) x58 (some d55) 0 b2 0 0 0 0 (c2 - 1) ot3 (yA y 0 0) J3 ph3 _ _ _ _ (by omega) (by omega) (e59.trans add_m1) (by omega) (by omega) (fun z => absurd z (by omega)) hgi3 hgc3 (fun i hi => (hlo3 i hi).trans (hun2 i (by omega))) (by rw [show c2 - 1 = 0 by omega]; rw [hc1x] at hco2; exact CoI.step (n := 0) (i3 := 0) (p3 := 0) hco2 hgr3 (fun i hi hi2 => hhi3 i (by omega)) (fun i h1 h2 h3 => by rw [← hun2 i (by omega)]; exact hmv3 i h1 (by omega) h3) (by omega) (fun z => absurd z (by omega))) (fun z h => by cases h; exact (h54 d55 rfl).1) hP hD hS hO (lv_sub hl [0, 1, 3, 4, 2, 8] rfl)
              · skip
                obtain ⟨n8, hn8⟩ : ∃ n8, c2 = n8 + 2 := ⟨c2 - 2, by omega⟩
                obtain ⟨i8, p8, b8, os8, hg1, hg2, hg3, hg4, hg5, hg6, hg7, hg8, hg9, hg10, hg11, hg12⟩ : CS (yfi y) (yM y) (ynm y) (B 30) Sh (J 29) (n8 + 1) i9 b2 := by rw [show c2 - 1 = n8 + 1 by omega] at hcs; exact hcs
                have hg13 := hma.2.2.2.2.2 (n8 + 1) p8 i8 (by omega) (by omega) hg1 hg3 (by have := (hpy.2.1 i8 (by omega)).1.2.1.2; omega) hg4
                have hm8 := (hpy.2.1 i8 (by omega)).1.2.1.2
                have hs8 : ysl y i8 ≤ 319 := by have h79 : (yA y i8 p8).2.2.2.length + ysl y i8 ≤ 319 := ((hpy.2.1 i8 (by omega)).1.2.2.2.1 p8 hg5 hg6 hg9.1).2.2.1; omega
                have hq8 : (yA y i8 p8).2.1 ≤ ysl y i8 := hg9.2.1
                refine lv_iload_n hx hb dX5_collect_135 rfl (lv_at hl 7 rfl) ?_
                refine lv_istore_n (lv' := [(2, .int (nI b2)), (8, .int (nI i3)), (7, .int (nI (b2 + ysl y i9))), (6, .int (nI (b2 + q2))), (5, .int (nI (c2 - 1))), (4, .ref (it i9)), (3, .int (nI p2)), (1, .int (nI b2)), (0, .ref (a 5))]) hx hb dX5_collect_136 rfl hl (by decide) rfl (fun ls hl => ?_)
                refine lv_aload_n hx hb dX5_collect_137 rfl (lv_at hl 8 rfl) ?_
                refine c_get (v := .ref (a 30)) (C := RX5) (Tc := TX5) (N := 19) (ci := 4) hx hb hq pin_wsX50 hown hE hP hO 28 (sg_28 G h0 a _ _ _ _ _) rfl 3 (by decide) (hq _ pw_475) (fun _ h9 => h9) rfl dX5_collect_138 ?_
                refine lv_iconst (v := 3) hx hb dX5_collect_141 (by decide) ?_
                refine lv_iload hx hb dX5_collect_142 (lv_at hl 4 rfl) ?_
                refine lv_imul hx hb dX5_collect_144 ?_
                refine lv_topi (fun x60 e61 => ?_)
                obtain rfl : x60 = nI (3 * (c2 - 1)) := e61.trans (nI_mulN (3) ((c2 - 1)))
                refine c_ldi (f := (B 30)) (n := 300) (t0 := 0) hx hb hE hP hO 33 (sg_33 G h0 a _ _ _ _ _) rfl (vp_in_nI (by omega) (by decide)) dX5_collect_145 ?_
                rw [(nI_clamp (show (3 * (c2 - 1)) < 2 ^ 31 by omega))]
                refine lv_topi (fun x62 e63 => ?_)
                obtain rfl : x62 = nI p8 := e63.trans (by rw [show (3 * (c2 - 1)) = 3 * (n8 + 1) by omega]; exact hg1)
                refine lv_istore_n (lv' := [(3, .int (nI p8)), (2, .int (nI b2)), (8, .int (nI i3)), (7, .int (nI (b2 + ysl y i9))), (6, .int (nI (b2 + q2))), (5, .int (nI (c2 - 1))), (4, .ref (it i9)), (1, .int (nI b2)), (0, .ref (a 5))]) hx hb dX5_collect_146 rfl hl (by decide) rfl (fun ls hl => ?_)
                refine lv_aload_n hx hb dX5_collect_147 rfl (lv_at hl 8 rfl) ?_
                refine c_get (v := .ref (a 30)) (C := RX5) (Tc := TX5) (N := 19) (ci := 4) hx hb hq pin_wsX50 hown hE hP hO 28 (sg_28 G h0 a _ _ _ _ _) rfl 3 (by decide) (hq _ pw_475) (fun _ h9 => h9) rfl dX5_collect_148 ?_
                refine lv_iconst (v := 3) hx hb dX5_collect_151 (by decide) ?_
                refine lv_iload hx hb dX5_collect_152 (lv_at hl 5 rfl) ?_
                refine lv_imul hx hb dX5_collect_154 ?_
                refine lv_topi (fun x64 e65 => ?_)
                obtain rfl : x64 = nI (3 * (c2 - 1)) := e65.trans (nI_mulN (3) ((c2 - 1)))
                refine lv_iconst (v := 1) hx hb dX5_collect_155 (by decide) ?_
                refine lv_iadd hx hb dX5_collect_156 ?_
                refine lv_topi (fun x66 e67 => ?_)
                obtain rfl : x66 = nI ((3 * (c2 - 1)) + 1) := e67.trans (nI_add ((3 * (c2 - 1))) (1))
                refine c_ldi (f := (B 30)) (n := 300) (t0 := 0) hx hb hE hP hO 33 (sg_33 G h0 a _ _ _ _ _) rfl (vp_in_nI (by omega) (by decide)) dX5_collect_157 ?_
                rw [(nI_clamp (show ((3 * (c2 - 1)) + 1) < 2 ^ 31 by omega))]
                refine lv_topi (fun x68 e69 => ?_)
                obtain rfl : x68 = nI b8 := e69.trans (by rw [show ((3 * (c2 - 1)) + 1) = 3 * (n8 + 1) + 1 by omega]; exact hg2)
                refine lv_istore_n (lv' := [(1, .int (nI b8)), (3, .int (nI p8)), (2, .int (nI b2)), (8, .int (nI i3)), (7, .int (nI (b2 + ysl y i9))), (6, .int (nI (b2 + q2))), (5, .int (nI (c2 - 1))), (4, .ref (it i9)), (0, .ref (a 5))]) hx hb dX5_collect_158 rfl hl (by decide) rfl (fun ls hl => ?_)
                refine lv_aload_n hx hb dX5_collect_159 rfl (lv_at hl 8 rfl) ?_
                refine c_get (v := .ref pq) (C := RX5) (Tc := TX5) (N := 19) (ci := 4) hx hb hq pin_wsX50 hown hE hP hO 28 (sg_28 G h0 a _ _ _ _ _) rfl 8 (by decide) (hq _ pw_486) (fun _ h9 => h9) rfl dX5_collect_160 ?_
                refine lv_aload_n hx hb dX5_collect_163 rfl (lv_at hl 8 rfl) ?_
                refine c_get (v := .ref (a 30)) (C := RX5) (Tc := TX5) (N := 19) (ci := 4) hx hb hq pin_wsX50 hown hE hP hO 28 (sg_28 G h0 a _ _ _ _ _) rfl 3 (by decide) (hq _ pw_475) (fun _ h9 => h9) rfl dX5_collect_164 ?_
                refine lv_iconst (v := 3) hx hb dX5_collect_167 (by decide) ?_
                refine lv_iload hx hb dX5_collect_168 (lv_at hl 6 rfl) ?_
                refine lv_imul hx hb dX5_collect_170 ?_
                refine lv_topi (fun x70 e71 => ?_)
                obtain rfl : x70 = nI (3 * (c2 - 1)) := e71.trans (nI_mulN (3) ((c2 - 1)))
                refine lv_iconst (v := 2) hx hb dX5_collect_171 (by decide) ?_
                refine lv_iadd hx hb dX5_collect_172 ?_
                refine lv_topi (fun x72 e73 => ?_)
                obtain rfl : x72 = nI ((3 * (c2 - 1)) + 2) := e73.trans (nI_add ((3 * (c2 - 1))) (2))
                refine c_ldi (f := (B 30)) (n := 300) (t0 := 0) hx hb hE hP hO 33 (sg_33 G h0 a _ _ _ _ _) rfl (vp_in_nI (by omega) (by decide)) dX5_collect_173 ?_
                rw [(nI_clamp (show ((3 * (c2 - 1)) + 2) < 2 ^ 31 by omega))]
                refine lv_topi (fun x74 e75 => ?_)
                obtain rfl : x74 = nI i8 := e75.trans (by rw [show ((3 * (c2 - 1)) + 2) = 3 * (n8 + 1) + 2 by omega]; exact hg3)
                have hO : OKP G h0 a (upd (upd (upd (upd (upd (upd (upd (upd F 5 (nI cs)) 6 (nI rg)) 18 (nI ba)) 19 (nI tp)) 20 (nI pc)) 22 (nI on)) 26 (nI ht)) 27 (nI ot3)) (updR (updR (updR (updR R 5 (.ref pq)) 6 (.ref (it j9))) 7 (.ref (a sp))) 8 (.ref (a op))) Z B J3 K w := hO.to rfl
                obtain ⟨qr79, hqr80⟩ := p_recv hO (by rw [hp1]; decide) (rep_7 hp1)
                refine pc_V0 (G := G) (As := [.int (nI i8)]) (rest := []) hx hb hml hown hq hE hX pX0_al hP hD hS hA hl.1 (Y_method l G h0 a (upd (upd (upd (upd (upd (upd (upd (upd F 5 (nI cs)) 6 (nI rg)) 18 (nI ba)) 19 (nI tp)) 20 (nI pc)) 22 (nI on)) 26 (nI ht)) 27 (nI ot3)) (updR (updR (updR (updR R 5 (.ref pq)) 6 (.ref (it j9))) 7 (.ref (a sp))) 8 (.ref (a op))) Z B J3 K w pq dr ml nd i8 nm cp it g hps.1 hps.2.2.1 (by omega) hO) (gV pw_528 pw_529 pw_530 pw_106 pw_518) hV_X9_method qr79 6 hqr80 rfl rfl rfl (Nat.le_of_ble_eq_true rfl) dX5_collect_174 ⟨Nat.le_of_ble_eq_true rfl, Nat.le_of_ble_eq_true rfl⟩ ⟨Nat.le_of_ble_eq_true rfl, Nat.le_of_ble_eq_true rfl⟩ (fun v78 u76 H locs hw77 hP hD hS => ?_)
                obtain ⟨w, _⟩ := u76
                obtain ⟨hw77, hO⟩ := hw77
                obtain rfl : v78 = some (.ref (it i8)) := hw77
                have hO : OKP G h0 a (upd (upd (upd (upd (upd (upd (upd (upd F 5 (nI cs)) 6 (nI rg)) 18 (nI ba)) 19 (nI tp)) 20 (nI pc)) 22 (nI on)) 26 (nI ht)) 27 (nI ot3)) (updR (updR (updR (updR R 5 (.ref pq)) 6 (.ref (it j9))) 7 (.ref (a sp))) 8 (.ref (a op))) Z B J3 K w := hO.to rfl
                refine W.widen (k := 0) (n := 0) (Nat.le_of_ble_eq_true rfl) (Nat.le_of_ble_eq_true rfl) ?_
                refine W.eq (g2 := F0 m 177 ls [.ref (it i8)]) rfl ?_
                refine lv_astore (lv' := [(4, .ref (it i8)), (1, .int (nI b8)), (3, .int (nI p8)), (2, .int (nI b2)), (8, .int (nI i3)), (7, .int (nI (b2 + ysl y i9))), (6, .int (nI (b2 + q2))), (5, .int (nI (c2 - 1))), (0, .ref (a 5))]) hx hb dX5_collect_177 hl (by decide) rfl (fun ls hl => ?_)
                obtain ⟨x81, e82⟩ : ∃ y : Int32, y = (nI (c2 - 1)) + (-1) := ⟨_, rfl⟩
                refine lv_iinc (v := x81) (lv' := [(5, .int x81), (4, .ref (it i8)), (1, .int (nI b8)), (3, .int (nI p8)), (2, .int (nI b2)), (8, .int (nI i3)), (7, .int (nI (b2 + ysl y i9))), (6, .int (nI (b2 + q2))), (0, .ref (a 5))]) hx hb dX5_collect_179 hl (k := 7) rfl (by rw [e82]; rfl) (by decide) rfl (fun ls hl => ?_)
                refine lv_goto (tgt := 36) hx hb dX5_collect_182 (by decide) ?_
                have hO : OKP G h0 a (upd (upd (upd (upd (upd (upd (upd (upd F 5 (nI cs)) 6 (nI rg)) 18 (nI ba)) 19 (nI tp)) 20 (nI pc)) 22 (nI on)) 26 (nI ht)) 27 (nI ot3)) (updR (updR (updR (updR R 5 (.ref pq)) 6 (.ref (it j9))) 7 (.ref (a sp))) 8 (.ref (a op))) Z B J3 K w := hO.to rfl
                exact ih_c (k2 + 1) (nI b8) (nI b2) (nI p8) x81 (some (it i8)) b8 b2 p8 i8 ((yA y i8 p8).2.1) (ysl y i8) (c2 - 1) ot3 (wos os8 (yA y i8 p8)) J3 ph3 _ _ _ _ (by omega) (by omega) (e82.trans add_m1) (by omega) (by omega) (fun _ => ⟨rfl, rfl, rfl, rfl, hg4, hg6, hg13, rfl, rfl, hg9, by rw [show c2 - 1 - 1 = n8 by omega]; exact hg12⟩) hgi3 hgc3 (fun i hi => (hlo3 i hi).trans (hun2 i (by omega))) (by rw [show c2 - 1 = n8 + 1 by omega]; rw [hn8] at hco2; exact CoI.step (n := n8 + 1) (i3 := i8) (p3 := p8) hco2 hgr3 (fun i hi hi2 => hhi3 i (by omega)) (fun i h1 h2 h3 => by rw [← hun2 i (by omega)]; exact hmv3 i h1 (by omega) h3) (by omega) (fun _ => ⟨hg1, hg2, hg3, by omega, by omega, by omega, hg13, by omega, rfl⟩)) (fun z h => by cases h; exact hps.2.2.1.T (show i8 < nm by omega)) hP hD hS hO (lv_sub hl [0, 1, 3, 4, 2, 8] rfl)
            · have n83 : ¬ (e2 ≤ i3) := fun h9 => c36 ((nI_leI (a := e2) (b := i3) (by omega) (by omega)).mpr h9)
              refine lv_iload hx hb dX5_collect_80 (lv_at hl 0 rfl) ?_
              refine lv_aload_n hx hb dX5_collect_82 rfl (lv_at hl 8 rfl) ?_
              refine c_get (v := .ref (a 29)) (C := RX5) (Tc := TX5) (N := 19) (ci := 4) hx hb hq pin_wsX50 hown hE hP hO 28 (sg_28 G h0 a _ _ _ _ _) rfl 2 (by decide) (hq _ pw_474) (fun _ h9 => h9) rfl dX5_collect_83 ?_
              refine c_len (n := 0) (t0 := 2) (v := 32000) hx hb hE hP hO 32 (sg_32 G h0 a _ _ _ _ _) rfl rfl dX5_collect_86 ?_
              refine lv_icmp_ge (tgt := 135) hx hb dX5_collect_87 (by decide) (fun c84 => (by have n85 : 32000 ≤ i3 := (nI_leI (a := 32000) (b := i3) (by omega) (by omega)).mp c84; omega)) (fun c84 => ?_)
              refine lv_aload_n hx hb dX5_collect_90 rfl (lv_at hl 8 rfl) ?_
              refine c_get (v := .ref (a 29)) (C := RX5) (Tc := TX5) (N := 19) (ci := 4) hx hb hq pin_wsX50 hown hE hP hO 28 (sg_28 G h0 a _ _ _ _ _) rfl 2 (by decide) (hq _ pw_474) (fun _ h9 => h9) rfl dX5_collect_91 ?_
              refine lv_iload hx hb dX5_collect_94 (lv_at hl 0 rfl) ?_
              refine lv_iload hx hb dX5_collect_96 (lv_at hl 0 rfl) ?_
              refine lv_iload hx hb dX5_collect_98 (lv_at hl 2 rfl) ?_
              refine lv_icmp_lt (tgt := 110) hx hb dX5_collect_100 (by decide) (fun c86 => ?_) (fun c86 => ?_)
              · have n87 : i3 < (b2 + q2) := (nI_ltI (a := i3) (b := (b2 + q2)) (by omega) (by omega)).mp c86
                refine lv_aload_n hx hb dX5_collect_110 rfl (lv_at hl 8 rfl) ?_
                refine c_get (v := .ref (a 28)) (C := RX5) (Tc := TX5) (N := 19) (ci := 4) hx hb hq pin_wsX50 hown hE hP hO 28 (sg_28 G h0 a _ _ _ _ _) rfl 1 (by decide) (hq _ pw_473) (fun _ h9 => h9) rfl dX5_collect_111 ?_
                refine lv_aload_n hx hb dX5_collect_114 rfl (lv_at hl 8 rfl) ?_
                refine c_get (v := .ref (a 29)) (C := RX5) (Tc := TX5) (N := 19) (ci := 4) hx hb hq pin_wsX50 hown hE hP hO 28 (sg_28 G h0 a _ _ _ _ _) rfl 2 (by decide) (hq _ pw_474) (fun _ h9 => h9) rfl dX5_collect_115 ?_
                refine lv_iload hx hb dX5_collect_118 (lv_at hl 0 rfl) ?_
                refine c_ldl (f := (J3 29)) (n := 32000) (t0 := 2) hx hb hE hP hO 32 (sg_32 G h0 a _ _ _ _ _) rfl (vp_in_nI (by omega) (by decide)) dX5_collect_120 ?_
                rw [(nI_clamp (show i3 < 2 ^ 31 by omega))]
                have hO : OKW G h0 a (upd (upd (upd (upd (upd (upd (upd (upd (upd (upd F 5 (nI cs)) 6 (nI rg)) 18 (nI ba)) 19 (nI tp)) 20 (nI pc)) 22 (nI on)) 26 (nI ht)) 27 (nI ot3)) 26 (nI ht)) 27 (nI ot3)) (updR (updR (updR (updR (updR (updR R 5 (.ref pq)) 6 (.ref (it j9))) 7 (.ref (a sp))) 8 (.ref (a op))) 7 (.ref (a sp))) 8 (.ref (a op))) Z B J3 K.1 (fun q99 x99 => x99 = rep G a K q99) w := hO.to rfl
                obtain ⟨_, qr91, hqr92⟩ := hO.2.1 29 _ (sg_29 G h0 a _ _ _ _ _)
                refine pc_V0 (G := G) (As := [.long ((J3 29) i3)]) (rest := [.int (nI i3), .ref (a 29)]) hx hb hml hown hq hE hX pX0_al hP hD hS hA hl.1 (Y_moved l G h0 a (upd (upd (upd (upd (upd (upd (upd (upd F 5 (nI cs)) 6 (nI rg)) 18 (nI ba)) 19 (nI tp)) 20 (nI pc)) 22 (nI on)) 26 (nI ht)) 27 (nI ot3)) (updR (updR (updR (updR R 5 (.ref pq)) 6 (.ref (it j9))) 7 (.ref (a sp))) 8 (.ref (a op))) Z B J3 K.1 (fun q99 x99 => x99 = rep G a K q99) w ((J3 29) i3) sp op ht ot3 8 (yfi y) (yfd y) (yft y) Sh nn (J sp) ph3 hsp (by omega) hgi3 hgc3 hht (by rw [hhi3 i3 (Nat.le_refl _), hun2 i3 (by omega)]; exact hfk.vo (by omega) (by omega) (by omega)) (by omega) hO) (gV pw_527 pw_466 pw_467 pw_440 pw_459) hV_X3_moved qr91 3 hqr92 rfl rfl rfl (Nat.le_of_ble_eq_true rfl) dX5_collect_121 ⟨Nat.le_of_ble_eq_true rfl, Nat.le_of_ble_eq_true rfl⟩ ⟨Nat.le_of_ble_eq_true rfl, Nat.le_of_ble_eq_true rfl⟩ (fun v90 u88 H locs hw89 hP hD hS => ?_)
                obtain ⟨w, ot93, r94, J95, ph96⟩ := u88
                obtain ⟨hw89, h97, h98, h99, h100, h101, h102, h103, hO⟩ := hw89
                have h97 : GI Sh nn (J sp) (J95 sp) (J95 op) ot93 8 ph96 := h97
                have h98 : GC nn ph96 ht ot93 := h98
                have h99 : ∀ q : Nat, ¬ ph3 q = 0 → ph96 q = ph3 q := h99
                have h100 : J95 29 = (J3 29) := h100
                have h101 : ot3 ≤ ot93 ∧ ot93 ≤ 3008 := h101
                have h102 : MV ph96 ((J3 29) i3) r94 := h102
                have h103 : ∀ i : Nat, i < ot3 → J95 op i = J3 op i := h103
                obtain rfl : v90 = some (.long r94) := hw89
                have hO : OKP G h0 a (upd (upd (upd (upd (upd (upd (upd (upd F 5 (nI cs)) 6 (nI rg)) 18 (nI ba)) 19 (nI tp)) 20 (nI pc)) 22 (nI on)) 26 (nI ht)) 27 (nI ot93)) (updR (updR (updR (updR R 5 (.ref pq)) 6 (.ref (it j9))) 7 (.ref (a sp))) 8 (.ref (a op))) Z B J95 K w := hO.to rfl
                refine W.widen (k := 0) (n := 0) (Nat.le_of_ble_eq_true rfl) (Nat.le_of_ble_eq_true rfl) ?_
                refine W.eq (g2 := F0 m 124 ls [.long r94, .int (nI i3), .ref (a 29)]) rfl ?_
                refine lv_goto (tgt := 128) hx hb dX5_collect_124 (by decide) ?_
                refine c_stl (f := (J95 29)) (n := 32000) (t0 := 2) hx hb hE hP hD hS hO 32 (sg_32 G h0 a _ _ _ _ _) rfl (vp_in_nI (by omega) (by decide)) (sj_29 G h0 a _ _ _ _ _ _) dX5_collect_128 (fun H locs w hP hD hS hO => ?_)
                rw [(nI_clamp (show i3 < 2 ^ 31 by omega))] at hO
                refine lv_iinc (v := (nI (i3 + 1))) (lv' := [(8, .int (nI (i3 + 1))), (7, .int (nI (b2 + ysl y i9))), (6, .int (nI (b2 + q2))), (5, .int (nI (c2 - 1))), (4, .ref (it i9)), (3, .int (nI p2)), (2, .int (nI e2)), (1, .int (nI b2)), (0, .ref (a 5))]) hx hb dX5_collect_129 hl (k := 0) rfl (nI_1 i3) (by decide) rfl (fun ls hl => ?_)
                refine lv_goto (tgt := 74) hx hb dX5_collect_132 (by decide) ?_
                have hO : OKP G h0 a (upd (upd (upd (upd (upd (upd (upd (upd F 5 (nI cs)) 6 (nI rg)) 18 (nI ba)) 19 (nI tp)) 20 (nI pc)) 22 (nI on)) 26 (nI ht)) 27 (nI ot93)) (updR (updR (updR (updR R 5 (.ref pq)) 6 (.ref (it j9))) 7 (.ref (a sp))) 8 (.ref (a op))) Z B (updJ J95 29 (vp_updL (J95 29) i3 r94)) K w := hO.to rfl
                exact ih_j (i3 + 1) ot93 (updJ J95 29 (vp_updL (J95 29) i3 r94)) ph96 _ _ _ _ (by omega) (by omega) (by omega) (by rw [updJ_ne h29.1, updJ_ne h29.2]; exact h97) h98 (fun q hq => (h99 q (by rw [hgr3 q hq]; exact hq)).trans (hgr3 q hq)) (fun i hi => (vpL_ne (by omega)).trans ((congrFun h100 i).trans (hlo3 i hi))) (fun i hi => (vpL_ne (by omega)).trans ((congrFun h100 i).trans (hhi3 i (by omega)))) (fun i h1 h2 h3 => by by_cases z : i = i3; (subst z; rw [show (updJ J95 29 (vp_updL (J95 29) i r94)) 29 i = r94 from vpL_eq, ← hhi3 i (Nat.le_refl _)]; exact h102); (rw [show (updJ J95 29 (vp_updL (J95 29) i3 r94)) 29 i = J3 29 i from (vpL_ne z).trans (congrFun h100 i)]; exact (hmv3 i h1 (by omega) h3).grow h99)) hP hD hS hO (lv_sub hl [0, 1, 2, 3, 4, 5, 6, 7, 8] rfl)
              · have n104 : ¬ (i3 < (b2 + q2)) := fun h9 => c86 ((nI_ltI (a := i3) (b := (b2 + q2)) (by omega) (by omega)).mpr h9)
                refine lv_iload hx hb dX5_collect_103 (lv_at hl 0 rfl) ?_
                refine lv_iload hx hb dX5_collect_105 (lv_at hl 1 rfl) ?_
                refine lv_icmp_lt (tgt := 127) hx hb dX5_collect_107 (by decide) (fun c105 => ?_) (fun c105 => ?_)
                · have n106 : i3 < (b2 + ysl y i9) := (nI_ltI (a := i3) (b := (b2 + ysl y i9)) (by omega) (by omega)).mp c105
                  refine lv_lconst (v := 0) hx hb dX5_collect_127 (by decide) ?_
                  refine c_stl (f := (J3 29)) (n := 32000) (t0 := 2) hx hb hE hP hD hS hO 32 (sg_32 G h0 a _ _ _ _ _) rfl (vp_in_nI (by omega) (by decide)) (sj_29 G h0 a _ _ _ _ _ _) dX5_collect_128 (fun H locs w hP hD hS hO => ?_)
                  rw [(nI_clamp (show i3 < 2 ^ 31 by omega))] at hO
                  refine lv_iinc (v := (nI (i3 + 1))) (lv' := [(8, .int (nI (i3 + 1))), (7, .int (nI (b2 + ysl y i9))), (6, .int (nI (b2 + q2))), (5, .int (nI (c2 - 1))), (4, .ref (it i9)), (3, .int (nI p2)), (2, .int (nI e2)), (1, .int (nI b2)), (0, .ref (a 5))]) hx hb dX5_collect_129 hl (k := 0) rfl (nI_1 i3) (by decide) rfl (fun ls hl => ?_)
                  refine lv_goto (tgt := 74) hx hb dX5_collect_132 (by decide) ?_
                  have hO : OKP G h0 a (upd (upd (upd (upd (upd (upd (upd (upd F 5 (nI cs)) 6 (nI rg)) 18 (nI ba)) 19 (nI tp)) 20 (nI pc)) 22 (nI on)) 26 (nI ht)) 27 (nI ot3)) (updR (updR (updR (updR R 5 (.ref pq)) 6 (.ref (it j9))) 7 (.ref (a sp))) 8 (.ref (a op))) Z B (updJ J3 29 (vp_updL (J3 29) i3 0)) K w := hO.to rfl
                  exact ih_j (i3 + 1) ot3 (updJ J3 29 (vp_updL (J3 29) i3 0)) ph3 _ _ _ _ (by omega) (by omega) (by omega) (by rw [updJ_ne h29.1, updJ_ne h29.2]; exact hgi3) hgc3 hgr3 (fun i hi => (vpL_ne (by omega)).trans (hlo3 i hi)) (fun i hi => (vpL_ne (by omega)).trans (hhi3 i (by omega))) (fun i h1 h2 h3 => by have z : ¬ i = i3 := (fun z => by omega); (rw [show (updJ J3 29 (vp_updL (J3 29) i3 0)) 29 i = J3 29 i from vpL_ne z]; exact hmv3 i h1 (by omega) h3)) hP hD hS hO (lv_sub hl [0, 1, 2, 3, 4, 5, 6, 7, 8] rfl)
                · have n107 : ¬ (i3 < (b2 + ysl y i9)) := fun h9 => c105 ((nI_ltI (a := i3) (b := (b2 + ysl y i9)) (by omega) (by omega)).mpr h9)
                  refine lv_aload_n hx hb dX5_collect_110 rfl (lv_at hl 8 rfl) ?_
                  refine c_get (v := .ref (a 28)) (C := RX5) (Tc := TX5) (N := 19) (ci := 4) hx hb hq pin_wsX50 hown hE hP hO 28 (sg_28 G h0 a _ _ _ _ _) rfl 1 (by decide) (hq _ pw_473) (fun _ h9 => h9) rfl dX5_collect_111 ?_
                  refine lv_aload_n hx hb dX5_collect_114 rfl (lv_at hl 8 rfl) ?_
                  refine c_get (v := .ref (a 29)) (C := RX5) (Tc := TX5) (N := 19) (ci := 4) hx hb hq pin_wsX50 hown hE hP hO 28 (sg_28 G h0 a _ _ _ _ _) rfl 2 (by decide) (hq _ pw_474) (fun _ h9 => h9) rfl dX5_collect_115 ?_
                  refine lv_iload hx hb dX5_collect_118 (lv_at hl 0 rfl) ?_
                  refine c_ldl (f := (J3 29)) (n := 32000) (t0 := 2) hx hb hE hP hO 32 (sg_32 G h0 a _ _ _ _ _) rfl (vp_in_nI (by omega) (by decide)) dX5_collect_120 ?_
                  rw [(nI_clamp (show i3 < 2 ^ 31 by omega))]
                  have hO : OKW G h0 a (upd (upd (upd (upd (upd (upd (upd (upd (upd (upd F 5 (nI cs)) 6 (nI rg)) 18 (nI ba)) 19 (nI tp)) 20 (nI pc)) 22 (nI on)) 26 (nI ht)) 27 (nI ot3)) 26 (nI ht)) 27 (nI ot3)) (updR (updR (updR (updR (updR (updR R 5 (.ref pq)) 6 (.ref (it j9))) 7 (.ref (a sp))) 8 (.ref (a op))) 7 (.ref (a sp))) 8 (.ref (a op))) Z B J3 K.1 (fun q99 x99 => x99 = rep G a K q99) w := hO.to rfl
                  obtain ⟨_, qr111, hqr112⟩ := hO.2.1 29 _ (sg_29 G h0 a _ _ _ _ _)
                  refine pc_V0 (G := G) (As := [.long ((J3 29) i3)]) (rest := [.int (nI i3), .ref (a 29)]) hx hb hml hown hq hE hX pX0_al hP hD hS hA hl.1 (Y_moved l G h0 a (upd (upd (upd (upd (upd (upd (upd (upd F 5 (nI cs)) 6 (nI rg)) 18 (nI ba)) 19 (nI tp)) 20 (nI pc)) 22 (nI on)) 26 (nI ht)) 27 (nI ot3)) (updR (updR (updR (updR R 5 (.ref pq)) 6 (.ref (it j9))) 7 (.ref (a sp))) 8 (.ref (a op))) Z B J3 K.1 (fun q99 x99 => x99 = rep G a K q99) w ((J3 29) i3) sp op ht ot3 8 (yfi y) (yfd y) (yft y) Sh nn (J sp) ph3 hsp (by omega) hgi3 hgc3 hht (by rw [hhi3 i3 (Nat.le_refl _), hun2 i3 (by omega)]; exact hfk.vo (by omega) (by omega) (by omega)) (by omega) hO) (gV pw_527 pw_466 pw_467 pw_440 pw_459) hV_X3_moved qr111 3 hqr112 rfl rfl rfl (Nat.le_of_ble_eq_true rfl) dX5_collect_121 ⟨Nat.le_of_ble_eq_true rfl, Nat.le_of_ble_eq_true rfl⟩ ⟨Nat.le_of_ble_eq_true rfl, Nat.le_of_ble_eq_true rfl⟩ (fun v110 u108 H locs hw109 hP hD hS => ?_)
                  obtain ⟨w, ot113, r114, J115, ph116⟩ := u108
                  obtain ⟨hw109, h117, h118, h119, h120, h121, h122, h123, hO⟩ := hw109
                  have h117 : GI Sh nn (J sp) (J115 sp) (J115 op) ot113 8 ph116 := h117
                  have h118 : GC nn ph116 ht ot113 := h118
                  have h119 : ∀ q : Nat, ¬ ph3 q = 0 → ph116 q = ph3 q := h119
                  have h120 : J115 29 = (J3 29) := h120
                  have h121 : ot3 ≤ ot113 ∧ ot113 ≤ 3008 := h121
                  have h122 : MV ph116 ((J3 29) i3) r114 := h122
                  have h123 : ∀ i : Nat, i < ot3 → J115 op i = J3 op i := h123
                  obtain rfl : v110 = some (.long r114) := hw109
                  have hO : OKP G h0 a (upd (upd (upd (upd (upd (upd (upd (upd F 5 (nI cs)) 6 (nI rg)) 18 (nI ba)) 19 (nI tp)) 20 (nI pc)) 22 (nI on)) 26 (nI ht)) 27 (nI ot113)) (updR (updR (updR (updR R 5 (.ref pq)) 6 (.ref (it j9))) 7 (.ref (a sp))) 8 (.ref (a op))) Z B J115 K w := hO.to rfl
                  refine W.widen (k := 0) (n := 0) (Nat.le_of_ble_eq_true rfl) (Nat.le_of_ble_eq_true rfl) ?_
                  refine W.eq (g2 := F0 m 124 ls [.long r114, .int (nI i3), .ref (a 29)]) rfl ?_
                  refine lv_goto (tgt := 128) hx hb dX5_collect_124 (by decide) ?_
                  refine c_stl (f := (J115 29)) (n := 32000) (t0 := 2) hx hb hE hP hD hS hO 32 (sg_32 G h0 a _ _ _ _ _) rfl (vp_in_nI (by omega) (by decide)) (sj_29 G h0 a _ _ _ _ _ _) dX5_collect_128 (fun H locs w hP hD hS hO => ?_)
                  rw [(nI_clamp (show i3 < 2 ^ 31 by omega))] at hO
                  refine lv_iinc (v := (nI (i3 + 1))) (lv' := [(8, .int (nI (i3 + 1))), (7, .int (nI (b2 + ysl y i9))), (6, .int (nI (b2 + q2))), (5, .int (nI (c2 - 1))), (4, .ref (it i9)), (3, .int (nI p2)), (2, .int (nI e2)), (1, .int (nI b2)), (0, .ref (a 5))]) hx hb dX5_collect_129 hl (k := 0) rfl (nI_1 i3) (by decide) rfl (fun ls hl => ?_)
                  refine lv_goto (tgt := 74) hx hb dX5_collect_132 (by decide) ?_
                  have hO : OKP G h0 a (upd (upd (upd (upd (upd (upd (upd (upd F 5 (nI cs)) 6 (nI rg)) 18 (nI ba)) 19 (nI tp)) 20 (nI pc)) 22 (nI on)) 26 (nI ht)) 27 (nI ot113)) (updR (updR (updR (updR R 5 (.ref pq)) 6 (.ref (it j9))) 7 (.ref (a sp))) 8 (.ref (a op))) Z B (updJ J115 29 (vp_updL (J115 29) i3 r114)) K w := hO.to rfl
                  exact ih_j (i3 + 1) ot113 (updJ J115 29 (vp_updL (J115 29) i3 r114)) ph116 _ _ _ _ (by omega) (by omega) (by omega) (by rw [updJ_ne h29.1, updJ_ne h29.2]; exact h117) h118 (fun q hq => (h119 q (by rw [hgr3 q hq]; exact hq)).trans (hgr3 q hq)) (fun i hi => (vpL_ne (by omega)).trans ((congrFun h120 i).trans (hlo3 i hi))) (fun i hi => (vpL_ne (by omega)).trans ((congrFun h120 i).trans (hhi3 i (by omega)))) (fun i h1 h2 h3 => by by_cases z : i = i3; (subst z; rw [show (updJ J115 29 (vp_updL (J115 29) i r114)) 29 i = r114 from vpL_eq, ← hhi3 i (Nat.le_refl _)]; exact h122); (rw [show (updJ J115 29 (vp_updL (J115 29) i3 r114)) 29 i = J3 29 i from (vpL_ne z).trans (congrFun h120 i)]; exact (hmv3 i h1 (by omega) h3).grow h119)) hP hD hS hO (lv_sub hl [0, 1, 2, 3, 4, 5, 6, 7, 8] rfl)
        have hO : OKP G h0 a (upd (upd (upd (upd (upd (upd (upd (upd F 5 (nI cs)) 6 (nI rg)) 18 (nI ba)) 19 (nI tp)) 20 (nI pc)) 22 (nI on)) 26 (nI ht)) 27 (nI ot2)) (updR (updR (updR (updR R 5 (.ref pq)) 6 (.ref (it j9))) 7 (.ref (a sp))) 8 (.ref (a op))) Z B J2 K w := hO.to rfl
        exact loop_j (32000 + 1) b2 ot2 J2 ph2 _ _ _ _ (by omega) (by omega) (by omega) hgi2 hgc2 (fun _ _ => rfl) (fun _ _ => rfl) (fun _ _ => rfl) (fun i h1 h2 => absurd h2 (by omega)) hP hD hS hO (lv_sub hl [0, 1, 2, 3, 4, 5, 6, 7, 8] rfl)
  have hO : OKP G h0 a (upd (upd (upd (upd (upd (upd (upd (upd F 5 (nI cs)) 6 (nI rg)) 18 (nI ba)) 19 (nI tp)) 20 (nI pc)) 22 (nI on)) 26 (nI ht)) 27 (nI 8)) (updR (updR (updR (updR R 5 (.ref pq)) 6 (.ref (it j9))) 7 (.ref (a sp))) 8 (.ref (a op))) Z B J K w := hO.to rfl
  exact loop_c (on + 1) 0 (nI ba) (nI tp) (nI pc) x6 (some (it j9)) ba tp pc j9 ((yA y j9 pc).2.1) (ysl y j9) on 8 (wos os (yA y j9 pc)) J (fun _ => 0) _ _ _ _ (by omega) (by omega) e7 (by omega) (by omega) (fun _ => ⟨rfl, rfl, rfl, rfl, hb3, hb5, hhe, rfl, rfl, hma.2.1.1, hma.2.2.1⟩) (GI.start hht (fun p hp9 => (hle p hp9).1)) GC.start (fun _ _ => rfl) (CoI.start hb1) (fun z h => by cases h; exact hps.2.2.1.T (show j9 < nm by omega)) hP hD hS hO (lv_sub hl [0, 1, 2, 3, 4, 5] rfl)
