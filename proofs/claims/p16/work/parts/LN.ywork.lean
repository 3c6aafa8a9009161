set_option maxHeartbeats 100000000 in
set_option maxRecDepth 100000 in
theorem Y_work (l : Launch) (G : pT) (h0 : Nat) (a : Nat → Nat) (F : Nat → Int32) (R : Nat → Value) (Z : Int64) (B : Nat → Nat → Int32) (J : Nat → Nat → Int64) (K : PK) (w : va_W) (y : TY) (tp : Nat) (ba : Nat) (on : Nat) (sp : Nat) (op : Nat) (ht : Nat) (fl : Nat) (lm : Nat) (en : Int32) (pcv : Int32) (mo : Option Nat) (pq : Nat) (dr : Nat) (ml : Nat) (nd : Nat) (nm : Nat) (cp : Nat) (it : Nat → Nat) (s9 : Nat) (g : Nat → Nat → Nat) (rk : Nat → Nat) (cs : Nat) (rg : Nat) (hsp : (sp = 34 ∧ op = 35) ∨ (sp = 35 ∧ op = 34)) (hwk : WkI y it (B 16) (B 19) (B 30) J 0 fl tp sp op ht en pcv Z ba on mo) (hbd : tp ≤ 32000 ∧ ba ≤ 32000 ∧ on ≤ 100 ∧ (8 ≤ ht ∧ ht ≤ 3008) ∧ lm ≤ 3008 ∧ rg ≤ 625 ∧ cs ≤ 10000) (hfl : B 33 5 = nI fl) (hflb : fl ≤ 20000) (hle0 : LoE J sp op) (hwp : WPr G K g) (hps : PgT G K g (a 1) pq dr ml nd nm cp it s9) (hrk : RkO K rk) (hpy : PrY y K B dr nd nm it cs rg) (hcs9 : cs ≤ 10000) (hO : OKP G h0 a (upd (upd (upd (upd (upd (upd (upd (upd (upd F 5 (nI cs)) 6 (nI rg)) 18 (nI ba)) 19 (nI tp)) 20 pcv) 22 (nI on)) 23 en) 26 (nI ht)) 28 (nI lm)) (updR (updR (updR (updR R 5 (.ref pq)) 6 (va_rf mo)) 7 (.ref (a sp))) 8 (.ref (a op))) Z B J K w) : PM l G pX0 yX5_work cX5_work 3 (some .int) ({ frames := 41, cells := 0, slots := 0, locals := 4023 }) [.ref (a 5)] w (fun (v : Option Value) (u : va_W × (Int32 × Int32 × Int32 × Int32 × Int32 × Nat × Nat × Nat × Nat × Nat × Nat × Int32 × Int64 × (Nat → Nat → Int64) × Option Nat × (Nat → Int32) × (Nat → Int32) × (Nat → Int32))) => v = some (.int u.2.1) ∧ (u.2.2.2.2.2.2.1 ≤ 32000 ∧ u.2.2.2.2.2.2.2.1 ≤ 32000 ∧ u.2.2.2.2.2.2.2.2.1 ≤ 100 ∧ (8 ≤ u.2.2.2.2.2.2.2.2.2.2.2.1 ∧ u.2.2.2.2.2.2.2.2.2.2.2.1 ≤ 3008)) ∧ ((u.2.2.2.2.2.2.2.2.2.1 = 34 ∧ u.2.2.2.2.2.2.2.2.2.2.1 = 35) ∨ (u.2.2.2.2.2.2.2.2.2.1 = 35 ∧ u.2.2.2.2.2.2.2.2.2.2.1 = 34)) ∧ (LoE u.2.2.2.2.2.2.2.2.2.2.2.2.2.2.1 u.2.2.2.2.2.2.2.2.2.1 u.2.2.2.2.2.2.2.2.2.2.1) ∧ (OKP G h0 a (upd (upd (upd (upd (upd (upd (upd (upd (upd (upd (upd (upd F 5 (nI cs)) 6 (nI rg)) 18 (nI u.2.2.2.2.2.2.2.1)) 19 (nI u.2.2.2.2.2.2.1)) 20 u.2.2.2.2.1) 21 u.2.2.2.1) 22 (nI u.2.2.2.2.2.2.2.2.1)) 23 u.2.2.1) 24 u.2.2.2.2.2.1) 26 (nI u.2.2.2.2.2.2.2.2.2.2.2.1)) 27 u.2.2.2.2.2.2.2.2.2.2.2.2.1) 28 (nI lm)) (updR (updR (updR (updR R 5 (.ref pq)) 6 (va_rf u.2.2.2.2.2.2.2.2.2.2.2.2.2.2.2.1)) 7 (.ref (a u.2.2.2.2.2.2.2.2.2.1))) 8 (.ref (a u.2.2.2.2.2.2.2.2.2.2.1))) u.2.2.2.2.2.2.2.2.2.2.2.2.2.1 (updA (updA (updA B 30 u.2.2.2.2.2.2.2.2.2.2.2.2.2.2.2.2.2.2) 32 u.2.2.2.2.2.2.2.2.2.2.2.2.2.2.2.2.2.1) 33 u.2.2.2.2.2.2.2.2.2.2.2.2.2.2.2.2.1) u.2.2.2.2.2.2.2.2.2.2.2.2.2.2.1 K u.1)) (fun u => u.1) := by
  intro sz
  refine Met.ofW (cc := cX5_work) (maxL := 3) (ret := (some .int)) (by decide) rfl ?_
  intro p e s m args below meth c s₁ B9 hml hv
  obtain ⟨rfl, hsz, hP, hD0, hE, hX⟩ := hv
  have hx := B9.exec
  have hb := B9.bytes
  have hr := B9.returns
  have hts := atoms_spec (ws := Cond.code yX5_work cX5_work 3 (some .int) :: pw) B9.pre
  have hq : ∀ w ∈ pw, w.before _ s = true := fun w h => hts w (List.mem_cons_of_mem _ h)
  have hown : s.vm.findClass RX5 = some m.cls := findClass_of_methodNamed B9.named
  have hlocks := B9.notSynchronized
  subst hsz
  have hD := hD0.self (sz := s.heap.size)
  have hA : ∀ q : Nat, s.heap.size ≤ q → va_A w s.heap.size q := fun q h => Or.inr h
  generalize va_A w s.heap.size = A at hD hE hA ⊢
  have hS : va_S A s.heap s.heap [] := va_S.rf
  have hl := lv_entry ([.ref (a 5)]) (n := 3) (Nat.le_of_ble_eq_true rfl)
  rw [lg_entry_eq]
  generalize (lg_sl ([.ref (a 5)]) ++ List.replicate (3 - (lg_sl ([.ref (a 5)])).length) Slot.unset).toArray = ls at hl ⊢
  have hl : lv_has ls 3 [(0, .ref (a 5))] := hl
  have hpg := hps.1
  have hp1 := hpg.1
  have hp2 := hpg.2.1
  have hp3 := hpg.2.2.1
  have hp4 := hpg.2.2.2.1
  have hp5 := hpg.2.2.2.2.1
  have hp6 := hpg.2.2.2.2.2.1
  have hp8 := hpg.2.2.2.2.2.2.2.1
  have hp9 := hpg.2.2.2.2.2.2.2.2
  have hnmE := hpy.1.1
  refine lv_iconst (v := 0) hx hb dX5_work_0 (by decide) ?_
  refine lv_istore_n (lv' := [(1, .int 0), (0, .ref (a 5))]) hx hb dX5_work_1 rfl hl (by decide) rfl (fun ls hl => ?_)
  have loop_w : ∀ (n_w : Nat) (i2 : Nat) (tp2 : Nat) (ba2 : Nat) (on2 : Nat) (sp2 : Nat) (op2 : Nat) (ht2 : Nat) (fl2 : Nat) (ot2 : Int32) (en2 : Int32) (nx2 : Int32) (pc2 : Int32) (rs2 : Int32) (mo2 : Option Nat) (f2 : Nat → Int32) (ta2 : Nat → Int32) (ou2 : Nat → Int32) (z2 : Int64) (J2 : Nat → Nat → Int64) (H : Heap) (locs : List Loc) (ls : Array Slot) (w : va_W), i2 ≤ 400000000 → 400000000 + 1 ≤ i2 + n_w → (tp2 ≤ 32000 ∧ ba2 ≤ 32000 ∧ on2 ≤ 100 ∧ (8 ≤ ht2 ∧ ht2 ≤ 3008) ∧ fl2 ≤ 20000) → ((sp2 = 34 ∧ op2 = 35) ∨ (sp2 = 35 ∧ op2 = 34)) → (WkI y it (B 16) (B 19) f2 J2 i2 fl2 tp2 sp2 op2 ht2 en2 pc2 z2 ba2 on2 mo2) → (ta2 5 = nI fl2) → (LoE J2 sp2 op2) → va_P G.1 pCl w H → va_D A w → va_S A s.heap H locs → OKP G h0 a (upd (upd (upd (upd (upd (upd (upd (upd (upd (upd (upd (upd F 5 (nI cs)) 6 (nI rg)) 18 (nI ba2)) 19 (nI tp2)) 20 pc2) 21 nx2) 22 (nI on2)) 23 en2) 24 rs2) 26 (nI ht2)) 27 ot2) 28 (nI lm)) (updR (updR (updR (updR R 5 (.ref pq)) 6 (va_rf mo2)) 7 (.ref (a sp2))) 8 (.ref (a op2))) z2 (updA (updA (updA B 30 f2) 32 ou2) 33 ta2) J2 K w → lv_has ls 3 [(1, .int (nI i2)), (0, .ref (a 5))] → W p l e (headSpec (Cond.code yX5_work cX5_work 3 (some .int) :: pw) ({ frames := 41, cells := 0, slots := 0, locals := 4023 } : Room)).room s m ([.ref (a 5)] : List Value).toArray below meth c H locs 0 0 (MQ below (pQ G A (fun (v : Option Value) (u : va_W × (Int32 × Int32 × Int32 × Int32 × Int32 × Nat × Nat × Nat × Nat × Nat × Nat × Int32 × Int64 × (Nat → Nat → Int64) × Option Nat × (Nat → Int32) × (Nat → Int32) × (Nat → Int32))) => v = some (.int u.2.1) ∧ (u.2.2.2.2.2.2.1 ≤ 32000 ∧ u.2.2.2.2.2.2.2.1 ≤ 32000 ∧ u.2.2.2.2.2.2.2.2.1 ≤ 100 ∧ (8 ≤ u.2.2.2.2.2.2.2.2.2.2.2.1 ∧ u.2.2.2.2.2.2.2.2.2.2.2.1 ≤ 3008)) ∧ ((u.2.2.2.2.2.2.2.2.2.1 = 34 ∧ u.2.2.2.2.2.2.2.2.2.2.1 = 35) ∨ (u.2.2.2.2.2.2.2.2.2.1 = 35 ∧ u.2.2.2.2.2.2.2.2.2.2.1 = 34)) ∧ (LoE u.2.2.2.2.2.2.2.2.2.2.2.2.2.2.1 u.2.2.2.2.2.2.2.2.2.1 u.2.2.2.2.2.2.2.2.2.2.1) ∧ (OKP G h0 a (upd (upd (upd (upd (upd (upd (upd (upd (upd (upd (upd (upd F 5 (nI cs)) 6 (nI rg)) 18 (nI u.2.2.2.2.2.2.2.1)) 19 (nI u.2.2.2.2.2.2.1)) 20 u.2.2.2.2.1) 21 u.2.2.2.1) 22 (nI u.2.2.2.2.2.2.2.2.1)) 23 u.2.2.1) 24 u.2.2.2.2.2.1) 26 (nI u.2.2.2.2.2.2.2.2.2.2.2.1)) 27 u.2.2.2.2.2.2.2.2.2.2.2.2.1) 28 (nI lm)) (updR (updR (updR (updR R 5 (.ref pq)) 6 (va_rf u.2.2.2.2.2.2.2.2.2.2.2.2.2.2.2.1)) 7 (.ref (a u.2.2.2.2.2.2.2.2.2.1))) 8 (.ref (a u.2.2.2.2.2.2.2.2.2.2.1))) u.2.2.2.2.2.2.2.2.2.2.2.2.2.1 (updA (updA (updA B 30 u.2.2.2.2.2.2.2.2.2.2.2.2.2.2.2.2.2.2) 32 u.2.2.2.2.2.2.2.2.2.2.2.2.2.2.2.2.2.1) 33 u.2.2.2.2.2.2.2.2.2.2.2.2.2.2.2.2.1) u.2.2.2.2.2.2.2.2.2.2.2.2.2.2.1 K u.1)) (fun u => u.1)) ([.ref (a 5)] : List Value).toArray s ({ frames := 41, cells := 0, slots := 0, locals := 4023 } : Room).cells ({ frames := 41, cells := 0, slots := 0, locals := 4023 } : Room).slots A) (F0 m 2 ls []) := by
    intro n_w
    induction n_w with
    | zero => intro i2 tp2 ba2 on2 sp2 op2 ht2 fl2 ot2 en2 nx2 pc2 rs2 mo2 f2 ta2 ou2 z2 J2 H locs ls w hk_w hn_w; omega
    | succ n_w ih_w =>
      intro i2 tp2 ba2 on2 sp2 op2 ht2 fl2 ot2 en2 nx2 pc2 rs2 mo2 f2 ta2 ou2 z2 J2 H locs ls w hk_w hn_w hb2 hsp2 hwk2 hfl2 hle2 hP hD hS hO hl
      rcases hwk2 with hwk2 | hwk2
      · skip
        refine lv_iload_n hx hb dX5_work_2 rfl (lv_at hl 0 rfl) ?_
        refine lv_ldc (v := 400000000) hx hb hown (hq _ pw_732) dX5_work_3 ?_
        refine lv_icmp_ge (tgt := 153) hx hb dX5_work_5 (by decide) (fun c1 => ?_) (fun c1 => ?_)
        · have n2 : 400000000 ≤ i2 := (nI_leI (a := 400000000) (b := i2) (by omega) (by omega)).mp c1
          refine lv_aload_n hx hb dX5_work_153 rfl (lv_at hl 1 rfl) ?_
          refine c_get (v := .int en2) (C := RX5) (Tc := TX5) (N := 19) (ci := 4) hx hb hq pin_wsX50 hown hE hP hO 28 (sg_28 G h0 a _ _ _ _ _) rfl 16 (by decide) (hq _ pw_513) (fun _ h9 => h9) rfl dX5_work_154 ?_
          refine lv_iconst (v := 5) hx hb dX5_work_157 (by decide) ?_
          refine lv_icmp_ne (tgt := 165) hx hb dX5_work_158 (by decide) (fun c3 => ?_) (fun c3 => (hwk2 c3).elim)
          refine lv_aload_n hx hb dX5_work_165 rfl (lv_at hl 1 rfl) ?_
          refine c_get (v := .int en2) (C := RX5) (Tc := TX5) (N := 19) (ci := 4) hx hb hq pin_wsX50 hown hE hP hO 28 (sg_28 G h0 a _ _ _ _ _) rfl 16 (by decide) (hq _ pw_513) (fun _ h9 => h9) rfl dX5_work_166 ?_
          have hz4 : tp2 ≤ 32000 ∧ ba2 ≤ 32000 ∧ on2 ≤ 100 ∧ (8 ≤ ht2 ∧ ht2 ≤ 3008) := (by omega)
          have hz5 : (sp2 = 34 ∧ op2 = 35) ∨ (sp2 = 35 ∧ op2 = 34) := hsp2
          have hz6 : LoE J2 sp2 op2 := hle2
          have hO : OKP G h0 a (upd (upd (upd (upd (upd (upd (upd (upd (upd (upd (upd (upd F 5 (nI cs)) 6 (nI rg)) 18 (nI ba2)) 19 (nI tp2)) 20 pc2) 21 nx2) 22 (nI on2)) 23 en2) 24 rs2) 26 (nI ht2)) 27 ot2) 28 (nI lm)) (updR (updR (updR (updR R 5 (.ref pq)) 6 (va_rf mo2)) 7 (.ref (a sp2))) 8 (.ref (a op2))) z2 (updA (updA (updA B 30 f2) 32 ou2) 33 ta2) J2 K w := hO.to rfl
          exact W.iret (v := en2) hx hb hr (fun t99 ht99 hW99 => ⟨⟨_, (w, (en2, en2, nx2, pc2, rs2, tp2, ba2, on2, sp2, op2, ht2, ot2, z2, J2, mo2, ta2, ou2, f2)), rfl, ⟨rfl, hz4, hz5, hz6, hO⟩, by rw [ht99]; exact hP, hD⟩, hS.F ht99⟩) hS.2.2 dX5_work_169
        · have n7 : ¬ (400000000 ≤ i2) := fun h9 => c1 ((nI_leI (a := 400000000) (b := i2) (by omega) (by omega)).mpr h9)
          refine lv_aload_n hx hb dX5_work_8 rfl (lv_at hl 1 rfl) ?_
          refine c_get (v := .int en2) (C := RX5) (Tc := TX5) (N := 19) (ci := 4) hx hb hq pin_wsX50 hown hE hP hO 28 (sg_28 G h0 a _ _ _ _ _) rfl 16 (by decide) (hq _ pw_513) (fun _ h9 => h9) rfl dX5_work_9 ?_
          refine lv_iconst (v := 5) hx hb dX5_work_12 (by decide) ?_
          refine lv_icmp_ne (tgt := 153) hx hb dX5_work_13 (by decide) (fun c8 => ?_) (fun c8 => (hwk2 c8).elim)
          refine lv_aload_n hx hb dX5_work_153 rfl (lv_at hl 1 rfl) ?_
          refine c_get (v := .int en2) (C := RX5) (Tc := TX5) (N := 19) (ci := 4) hx hb hq pin_wsX50 hown hE hP hO 28 (sg_28 G h0 a _ _ _ _ _) rfl 16 (by decide) (hq _ pw_513) (fun _ h9 => h9) rfl dX5_work_154 ?_
          refine lv_iconst (v := 5) hx hb dX5_work_157 (by decide) ?_
          refine lv_icmp_ne (tgt := 165) hx hb dX5_work_158 (by decide) (fun c9 => ?_) (fun c9 => (hwk2 c9).elim)
          refine lv_aload_n hx hb dX5_work_165 rfl (lv_at hl 1 rfl) ?_
          refine c_get (v := .int en2) (C := RX5) (Tc := TX5) (N := 19) (ci := 4) hx hb hq pin_wsX50 hown hE hP hO 28 (sg_28 G h0 a _ _ _ _ _) rfl 16 (by decide) (hq _ pw_513) (fun _ h9 => h9) rfl dX5_work_166 ?_
          have hz10 : tp2 ≤ 32000 ∧ ba2 ≤ 32000 ∧ on2 ≤ 100 ∧ (8 ≤ ht2 ∧ ht2 ≤ 3008) := (by omega)
          have hz11 : (sp2 = 34 ∧ op2 = 35) ∨ (sp2 = 35 ∧ op2 = 34) := hsp2
          have hz12 : LoE J2 sp2 op2 := hle2
          have hO : OKP G h0 a (upd (upd (upd (upd (upd (upd (upd (upd (upd (upd (upd (upd F 5 (nI cs)) 6 (nI rg)) 18 (nI ba2)) 19 (nI tp2)) 20 pc2) 21 nx2) 22 (nI on2)) 23 en2) 24 rs2) 26 (nI ht2)) 27 ot2) 28 (nI lm)) (updR (updR (updR (updR R 5 (.ref pq)) 6 (va_rf mo2)) 7 (.ref (a sp2))) 8 (.ref (a op2))) z2 (updA (updA (updA B 30 f2) 32 ou2) 33 ta2) J2 K w := hO.to rfl
          exact W.iret (v := en2) hx hb hr (fun t99 ht99 hW99 => ⟨⟨_, (w, (en2, en2, nx2, pc2, rs2, tp2, ba2, on2, sp2, op2, ht2, ot2, z2, J2, mo2, ta2, ou2, f2)), rfl, ⟨rfl, hz10, hz11, hz12, hO⟩, by rw [ht99]; exact hP, hD⟩, hS.F ht99⟩) hS.2.2 dX5_work_169
      · skip
        obtain ⟨he5, hz5, hle, Sh, nn, j9, x9, hmo5, hpc5, hmi, hms⟩ := hwk2
        subst he5 hz5 hmo5 hpc5
        have hO : OKP G h0 a (upd (upd (upd (upd (upd (upd (upd (upd (upd (upd (upd (upd F 5 (nI cs)) 6 (nI rg)) 18 (nI ba2)) 19 (nI tp2)) 20 (nI x9)) 21 nx2) 22 (nI on2)) 23 5) 24 rs2) 26 (nI ht2)) 27 ot2) 28 (nI lm)) (updR (updR (updR (updR R 5 (.ref pq)) 6 (.ref (it j9))) 7 (.ref (a sp2))) 8 (.ref (a op2))) 0 (updA (updA (updA B 30 f2) 32 ou2) 33 ta2) J2 K w := hO.to rfl
        have hj9 := hmi.1.1.2.2.1
        have hmj := hpy.2.1 j9 (by omega)
        have hmo := hmj.1
        obtain ⟨hn1, hn2, hn3, hn4, hn5, hn6, hn7, hn8, hn9, hn10, hn11, hn12⟩ := MIy.nums hmi hmo
        obtain ⟨ko, hk31, hop, hru⟩ := MIy.rule hmi hmo
        refine lv_iload_n hx hb dX5_work_2 rfl (lv_at hl 0 rfl) ?_
        refine lv_ldc (v := 400000000) hx hb hown (hq _ pw_732) dX5_work_3 ?_
        refine lv_icmp_ge (tgt := 153) hx hb dX5_work_5 (by decide) (fun c13 => (by have n14 : 400000000 ≤ i2 := (nI_leI (a := 400000000) (b := i2) (by omega) (by omega)).mp c13; omega)) (fun c13 => ?_)
        refine lv_aload_n hx hb dX5_work_8 rfl (lv_at hl 1 rfl) ?_
        refine c_get (v := .int 5) (C := RX5) (Tc := TX5) (N := 19) (ci := 4) hx hb hq pin_wsX50 hown hE hP hO 28 (sg_28 G h0 a _ _ _ _ _) rfl 16 (by decide) (hq _ pw_513) (fun _ h9 => h9) rfl dX5_work_9 ?_
        refine lv_iconst (v := 5) hx hb dX5_work_12 (by decide) ?_
        refine lv_icmp_ne (tgt := 153) hx hb dX5_work_13 (by decide) (fun c15 => absurd c15 (by decide)) (fun c15 => ?_)
        refine lv_aload_n hx hb dX5_work_16 rfl (lv_at hl 1 rfl) ?_
        refine lv_aload_n hx hb dX5_work_17 rfl (lv_at hl 1 rfl) ?_
        refine c_get (v := .int (nI x9)) (C := RX5) (Tc := TX5) (N := 19) (ci := 4) hx hb hq pin_wsX50 hown hE hP hO 28 (sg_28 G h0 a _ _ _ _ _) rfl 12 (by decide) (hq _ pw_506) (fun _ h9 => h9) rfl dX5_work_18 ?_
        refine lv_iconst (v := 1) hx hb dX5_work_21 (by decide) ?_
        refine lv_iadd hx hb dX5_work_22 ?_
        refine lv_topi (fun x16 e17 => ?_)
        obtain rfl : x16 = nI (x9 + 1) := e17.trans (nI_add (x9) (1))
        refine c_put (v := .int (nI (x9 + 1))) (ty := .int) (C := RX5) (Tc := TX5) (N := 19) (ci := 4) hx hb hq pin_wsX50 tyX5 tyX5_ok nmX5 hown hE hP hD hS hO 28 (sg_28 G h0 a _ _ _ _ _) rfl 13 (by decide) (hq _ pw_566) (fun _ h9 => h9) rfl (by decide +kernel) rfl rfl (Nat.le_of_ble_eq_true rfl) (sf_21 G h0 a _ _ _ _ _ (nI (x9 + 1))) dX5_work_23 (fun H locs w hP hD hS hO => ?_)
        refine lv_aload_n hx hb dX5_work_26 rfl (lv_at hl 1 rfl) ?_
        refine c_get (v := .ref (a 2)) (C := RX5) (Tc := TX5) (N := 19) (ci := 4) hx hb hq pin_wsX50 hown hE hP hO 28 (sg_28 G h0 a _ _ _ _ _) rfl 0 (by decide) (hq _ pw_470) (fun _ h9 => h9) rfl dX5_work_27 ?_
        refine lv_aload_n hx hb dX5_work_30 rfl (lv_at hl 1 rfl) ?_
        refine c_get (v := .int (nI x9)) (C := RX5) (Tc := TX5) (N := 19) (ci := 4) hx hb hq pin_wsX50 hown hE hP hO 28 (sg_28 G h0 a _ _ _ _ _) rfl 12 (by decide) (hq _ pw_506) (fun _ h9 => h9) rfl dX5_work_31 ?_
        have hO : OKW G h0 a (upd (upd (upd (upd (upd (upd (upd (upd (upd (upd (upd (upd (upd F 5 (nI cs)) 6 (nI rg)) 18 (nI ba2)) 19 (nI tp2)) 20 (nI x9)) 21 (nI (x9 + 1))) 22 (nI on2)) 23 5) 24 rs2) 26 (nI ht2)) 27 ot2) 28 (nI lm)) 5 (nI cs)) (updR (updR (updR (updR R 5 (.ref pq)) 6 (.ref (it j9))) 7 (.ref (a sp2))) 8 (.ref (a op2))) 0 (updA (updA (updA B 30 f2) 32 ou2) 33 ta2) J2 K.1 (fun q99 x99 => x99 = rep G a K q99) w := hO.to rfl
        obtain ⟨_, qr21, hqr22⟩ := hO.2.1 13 _ (sg_13 G h0 a _ _ _ _ _)
        refine pc_V0 (G := G) (As := [.int (nI x9)]) (rest := []) hx hb hml hown hq hE hX pX0_al hP hD hS hA hl.1 (Y_operation l G h0 a (upd (upd (upd (upd (upd (upd (upd (upd (upd (upd (upd (upd F 5 (nI cs)) 6 (nI rg)) 18 (nI ba2)) 19 (nI tp2)) 20 (nI x9)) 21 (nI (x9 + 1))) 22 (nI on2)) 23 5) 24 rs2) 26 (nI ht2)) 27 ot2) 28 (nI lm)) (updR (updR (updR (updR R 5 (.ref pq)) 6 (.ref (it j9))) 7 (.ref (a sp2))) 8 (.ref (a op2))) 0 (updA (updA (updA B 30 f2) 32 ou2) 33 ta2) J2 K.1 (fun q99 x99 => x99 = rep G a K q99) w x9 cs (by omega) (by omega) hO) (gV pw_733 pw_734 pw_735 pw_70 pw_379) hV_X1_operation qr21 1 hqr22 rfl rfl rfl (Nat.le_of_ble_eq_true rfl) dX5_work_34 ⟨Nat.le_of_ble_eq_true rfl, Nat.le_of_ble_eq_true rfl⟩ ⟨Nat.le_of_ble_eq_true rfl, Nat.le_of_ble_eq_true rfl⟩ (fun v20 u18 H locs hw19 hP hD hS => ?_)
        obtain ⟨w, _⟩ := u18
        obtain ⟨hw19, hO⟩ := hw19
        obtain rfl : v20 = some (.int ((B 16) x9)) := hw19
        have hO : OKP G h0 a (upd (upd (upd (upd (upd (upd (upd (upd (upd (upd (upd (upd F 5 (nI cs)) 6 (nI rg)) 18 (nI ba2)) 19 (nI tp2)) 20 (nI x9)) 21 (nI (x9 + 1))) 22 (nI on2)) 23 5) 24 rs2) 26 (nI ht2)) 27 ot2) 28 (nI lm)) (updR (updR (updR (updR R 5 (.ref pq)) 6 (.ref (it j9))) 7 (.ref (a sp2))) 8 (.ref (a op2))) 0 (updA (updA (updA B 30 f2) 32 ou2) 33 ta2) J2 K w := hO.to rfl
        refine W.widen (k := 0) (n := 0) (Nat.le_of_ble_eq_true rfl) (Nat.le_of_ble_eq_true rfl) ?_
        refine W.eq (g2 := F0 m 37 ls [.int ((B 16) x9)]) rfl ?_
        rw [hop]
        refine lv_istore_n (lv' := [(2, .int (nI ko)), (1, .int (nI i2)), (0, .ref (a 5))]) hx hb dX5_work_37 rfl hl (by decide) rfl (fun ls hl => ?_)
        refine lv_iload_n hx hb dX5_work_38 rfl (lv_at hl 0 rfl) ?_
        refine lv_bipush (v := 14) hx hb dX5_work_39 (by decide) ?_
        refine lv_icmp_ge (tgt := 63) hx hb dX5_work_41 (by decide) (fun c23 => ?_) (fun c23 => ?_)
        · have n24 : 14 ≤ ko := (nI_leI (a := 14) (b := ko) (by omega) (by omega)).mp c23
          refine lv_iload_n hx hb dX5_work_63 rfl (lv_at hl 0 rfl) ?_
          refine lv_bipush (v := 26) hx hb dX5_work_64 (by decide) ?_
          refine lv_icmp_ge (tgt := 99) hx hb dX5_work_66 (by decide) (fun c25 => ?_) (fun c25 => ?_)
          · have n26 : 26 ≤ ko := (nI_leI (a := 26) (b := ko) (by omega) (by omega)).mp c25
            refine lv_aload_n hx hb dX5_work_99 rfl (lv_at hl 2 rfl) ?_
            refine lv_iload_n hx hb dX5_work_100 rfl (lv_at hl 0 rfl) ?_
            refine lv_aload_n hx hb dX5_work_101 rfl (lv_at hl 2 rfl) ?_
            refine c_get (v := .ref (a 2)) (C := RX5) (Tc := TX5) (N := 19) (ci := 4) hx hb hq pin_wsX50 hown hE hP hO 28 (sg_28 G h0 a _ _ _ _ _) rfl 0 (by decide) (hq _ pw_470) (fun _ h9 => h9) rfl dX5_work_102 ?_
            refine lv_aload_n hx hb dX5_work_105 rfl (lv_at hl 2 rfl) ?_
            refine c_get (v := .int (nI x9)) (C := RX5) (Tc := TX5) (N := 19) (ci := 4) hx hb hq pin_wsX50 hown hE hP hO 28 (sg_28 G h0 a _ _ _ _ _) rfl 12 (by decide) (hq _ pw_506) (fun _ h9 => h9) rfl dX5_work_106 ?_
            have hO : OKW G h0 a (upd (upd (upd (upd (upd (upd (upd (upd (upd (upd (upd (upd (upd F 5 (nI cs)) 6 (nI rg)) 18 (nI ba2)) 19 (nI tp2)) 20 (nI x9)) 21 (nI (x9 + 1))) 22 (nI on2)) 23 5) 24 rs2) 26 (nI ht2)) 27 ot2) 28 (nI lm)) 5 (nI cs)) (updR (updR (updR (updR R 5 (.ref pq)) 6 (.ref (it j9))) 7 (.ref (a sp2))) 8 (.ref (a op2))) 0 (updA (updA (updA B 30 f2) 32 ou2) 33 ta2) J2 K.1 (fun q99 x99 => x99 = rep G a K q99) w := hO.to rfl
            obtain ⟨_, qr30, hqr31⟩ := hO.2.1 13 _ (sg_13 G h0 a _ _ _ _ _)
            refine pc_V0 (G := G) (As := [.int (nI x9)]) (rest := [.int (nI ko), .ref (a 5)]) hx hb hml hown hq hE hX pX0_al hP hD hS hA hl.1 (Y_left l G h0 a (upd (upd (upd (upd (upd (upd (upd (upd (upd (upd (upd (upd F 5 (nI cs)) 6 (nI rg)) 18 (nI ba2)) 19 (nI tp2)) 20 (nI x9)) 21 (nI (x9 + 1))) 22 (nI on2)) 23 5) 24 rs2) 26 (nI ht2)) 27 ot2) 28 (nI lm)) (updR (updR (updR (updR R 5 (.ref pq)) 6 (.ref (it j9))) 7 (.ref (a sp2))) 8 (.ref (a op2))) 0 (updA (updA (updA B 30 f2) 32 ou2) 33 ta2) J2 K.1 (fun q99 x99 => x99 = rep G a K q99) w x9 cs (by omega) (by omega) hO) (gV pw_736 pw_737 pw_738 pw_70 pw_380) hV_X1_left qr30 1 hqr31 rfl rfl rfl (Nat.le_of_ble_eq_true rfl) dX5_work_109 ⟨Nat.le_of_ble_eq_true rfl, Nat.le_of_ble_eq_true rfl⟩ ⟨Nat.le_of_ble_eq_true rfl, Nat.le_of_ble_eq_true rfl⟩ (fun v29 u27 H locs hw28 hP hD hS => ?_)
            obtain ⟨w, _⟩ := u27
            obtain ⟨hw28, hO⟩ := hw28
            obtain rfl : v29 = some (.int ((B 17) x9)) := hw28
            have hO : OKP G h0 a (upd (upd (upd (upd (upd (upd (upd (upd (upd (upd (upd (upd F 5 (nI cs)) 6 (nI rg)) 18 (nI ba2)) 19 (nI tp2)) 20 (nI x9)) 21 (nI (x9 + 1))) 22 (nI on2)) 23 5) 24 rs2) 26 (nI ht2)) 27 ot2) 28 (nI lm)) (updR (updR (updR (updR R 5 (.ref pq)) 6 (.ref (it j9))) 7 (.ref (a sp2))) 8 (.ref (a op2))) 0 (updA (updA (updA B 30 f2) 32 ou2) 33 ta2) J2 K w := hO.to rfl
            refine W.widen (k := 0) (n := 0) (Nat.le_of_ble_eq_true rfl) (Nat.le_of_ble_eq_true rfl) ?_
            refine W.eq (g2 := F0 m 112 ls [.int ((B 17) x9), .int (nI ko), .ref (a 5)]) rfl ?_
            refine lv_aload_n hx hb dX5_work_112 rfl (lv_at hl 2 rfl) ?_
            refine c_get (v := .ref (a 2)) (C := RX5) (Tc := TX5) (N := 19) (ci := 4) hx hb hq pin_wsX50 hown hE hP hO 28 (sg_28 G h0 a _ _ _ _ _) rfl 0 (by decide) (hq _ pw_470) (fun _ h9 => h9) rfl dX5_work_113 ?_
            refine lv_aload_n hx hb dX5_work_116 rfl (lv_at hl 2 rfl) ?_
            refine c_get (v := .int (nI x9)) (C := RX5) (Tc := TX5) (N := 19) (ci := 4) hx hb hq pin_wsX50 hown hE hP hO 28 (sg_28 G h0 a _ _ _ _ _) rfl 12 (by decide) (hq _ pw_506) (fun _ h9 => h9) rfl dX5_work_117 ?_
            have hO : OKW G h0 a (upd (upd (upd (upd (upd (upd (upd (upd (upd (upd (upd (upd (upd F 5 (nI cs)) 6 (nI rg)) 18 (nI ba2)) 19 (nI tp2)) 20 (nI x9)) 21 (nI (x9 + 1))) 22 (nI on2)) 23 5) 24 rs2) 26 (nI ht2)) 27 ot2) 28 (nI lm)) 5 (nI cs)) (updR (updR (updR (updR R 5 (.ref pq)) 6 (.ref (it j9))) 7 (.ref (a sp2))) 8 (.ref (a op2))) 0 (updA (updA (updA B 30 f2) 32 ou2) 33 ta2) J2 K.1 (fun q99 x99 => x99 = rep G a K q99) w := hO.to rfl
            obtain ⟨_, qr35, hqr36⟩ := hO.2.1 13 _ (sg_13 G h0 a _ _ _ _ _)
            refine pc_V0 (G := G) (As := [.int (nI x9)]) (rest := [.int ((B 17) x9), .int (nI ko), .ref (a 5)]) hx hb hml hown hq hE hX pX0_al hP hD hS hA hl.1 (Y_right l G h0 a (upd (upd (upd (upd (upd (upd (upd (upd (upd (upd (upd (upd F 5 (nI cs)) 6 (nI rg)) 18 (nI ba2)) 19 (nI tp2)) 20 (nI x9)) 21 (nI (x9 + 1))) 22 (nI on2)) 23 5) 24 rs2) 26 (nI ht2)) 27 ot2) 28 (nI lm)) (updR (updR (updR (updR R 5 (.ref pq)) 6 (.ref (it j9))) 7 (.ref (a sp2))) 8 (.ref (a op2))) 0 (updA (updA (updA B 30 f2) 32 ou2) 33 ta2) J2 K.1 (fun q99 x99 => x99 = rep G a K q99) w x9 cs (by omega) (by omega) hO) (gV pw_742 pw_743 pw_744 pw_70 pw_381) hV_X1_right qr35 1 hqr36 rfl rfl rfl (Nat.le_of_ble_eq_true rfl) dX5_work_120 ⟨Nat.le_of_ble_eq_true rfl, Nat.le_of_ble_eq_true rfl⟩ ⟨Nat.le_of_ble_eq_true rfl, Nat.le_of_ble_eq_true rfl⟩ (fun v34 u32 H locs hw33 hP hD hS => ?_)
            obtain ⟨w, _⟩ := u32
            obtain ⟨hw33, hO⟩ := hw33
            obtain rfl : v34 = some (.int ((B 18) x9)) := hw33
            have hO : OKP G h0 a (upd (upd (upd (upd (upd (upd (upd (upd (upd (upd (upd (upd F 5 (nI cs)) 6 (nI rg)) 18 (nI ba2)) 19 (nI tp2)) 20 (nI x9)) 21 (nI (x9 + 1))) 22 (nI on2)) 23 5) 24 rs2) 26 (nI ht2)) 27 ot2) 28 (nI lm)) (updR (updR (updR (updR R 5 (.ref pq)) 6 (.ref (it j9))) 7 (.ref (a sp2))) 8 (.ref (a op2))) 0 (updA (updA (updA B 30 f2) 32 ou2) 33 ta2) J2 K w := hO.to rfl
            refine W.widen (k := 0) (n := 0) (Nat.le_of_ble_eq_true rfl) (Nat.le_of_ble_eq_true rfl) ?_
            refine W.eq (g2 := F0 m 123 ls [.int ((B 18) x9), .int ((B 17) x9), .int (nI ko), .ref (a 5)]) rfl ?_
            have hO : OKP G h0 a (upd (upd (upd (upd (upd (upd (upd (upd (upd (upd (upd (upd (upd (upd (upd (upd (upd (upd (upd (upd (upd F 5 (nI cs)) 6 (nI rg)) 18 (nI ba2)) 19 (nI tp2)) 20 (nI x9)) 21 (nI (x9 + 1))) 22 (nI on2)) 23 5) 24 rs2) 26 (nI ht2)) 27 ot2) 28 (nI lm)) 5 (nI cs)) 6 (nI rg)) 18 (nI ba2)) 19 (nI tp2)) 20 (nI x9)) 21 (nI (x9 + 1))) 22 (nI on2)) 23 5) 26 (nI ht2)) (updR (updR (updR (updR (updR (updR (updR (updR R 5 (.ref pq)) 6 (.ref (it j9))) 7 (.ref (a sp2))) 8 (.ref (a op2))) 5 (.ref pq)) 6 (.ref (it j9))) 7 (.ref (a sp2))) 8 (.ref (a op2))) 0 (updA (updA (updA B 30 f2) 32 ou2) 33 ta2) J2 K w := hO.to rfl
            obtain ⟨_, qr40, hqr41⟩ := hO.2.1 28 _ (sg_28 G h0 a _ _ _ _ _)
            refine pc_V0 (G := G) (As := [.int (nI ko), .int ((updA (updA (updA B 30 f2) 32 ou2) 33 ta2) 17 x9), .int ((updA (updA (updA B 30 f2) 32 ou2) 33 ta2) 18 x9)]) (rest := []) hx hb hml hown hq hE hX pX0_al hP hD hS hA hl.1 (Y_stepOut l G h0 a (upd (upd (upd (upd (upd (upd (upd (upd (upd (upd (upd (upd F 5 (nI cs)) 6 (nI rg)) 18 (nI ba2)) 19 (nI tp2)) 20 (nI x9)) 21 (nI (x9 + 1))) 22 (nI on2)) 23 5) 24 rs2) 26 (nI ht2)) 27 ot2) 28 (nI lm)) (updR (updR (updR (updR R 5 (.ref pq)) 6 (.ref (it j9))) 7 (.ref (a sp2))) 8 (.ref (a op2))) 0 (updA (updA (updA B 30 f2) 32 ou2) 33 ta2) J2 K w y Sh nn on2 j9 ba2 x9 tp2 sp2 op2 ht2 fl2 pq dr ml nd nm cp it s9 g rk cs rg ko hsp2 hmi hmo rfl hfl2 (by omega) hwp hps hrk hpy hle (by omega) (by omega) hop hru (by omega) hO) (gV pw_748 pw_749 pw_750 pw_539 pw_726) hV_X5_stepOut qr40 4 hqr41 rfl rfl rfl (Nat.le_of_ble_eq_true rfl) dX5_work_123 ⟨Nat.le_of_ble_eq_true rfl, Nat.le_of_ble_eq_true rfl⟩ ⟨Nat.le_of_ble_eq_true rfl, Nat.le_of_ble_eq_true rfl⟩ (fun v39 u37 H locs hw38 hP hD hS => ?_)
            obtain ⟨w, tp42, en43, nx44, pc45, rs46, z47, J48, ba49, on50, mr51⟩ := u37
            obtain ⟨hw38, h52, h53, h54, h55, hO⟩ := hw38
            have h52 : StG y it ((B 16)) ((B 19)) (mT ((B 16)) (f2) fl2 on2 x9) x9 tp42 en43 nx44 z47 J48 fl2 sp2 op2 ht2 (f2) on50 ba49 mr51 := h52
            have h53 : PcK z47 pc45 x9 := h53
            have h54 : tp42 ≤ 32000 ∧ ba49 ≤ 32000 ∧ on50 ≤ 100 := h54
            have h55 : LoE J48 sp2 op2 := h55
            obtain rfl : v39 = none := hw38
            have hO : OKP G h0 a (upd (upd (upd (upd (upd (upd (upd (upd (upd (upd (upd (upd F 5 (nI cs)) 6 (nI rg)) 18 (nI ba49)) 19 (nI tp42)) 20 pc45) 21 nx44) 22 (nI on50)) 23 en43) 24 rs46) 26 (nI ht2)) 27 ot2) 28 (nI lm)) (updR (updR (updR (updR R 5 (.ref pq)) 6 (.ref mr51)) 7 (.ref (a sp2))) 8 (.ref (a op2))) z47 (updA (updA (updA B 30 f2) 32 ou2) 33 ta2) J48 K w := hO.to rfl
            refine W.widen (k := 0) (n := 0) (Nat.le_of_ble_eq_true rfl) (Nat.le_of_ble_eq_true rfl) ?_
            refine W.eq (g2 := F0 m 126 ls []) rfl ?_
            have hstg := h52
            refine lv_aload_n hx hb dX5_work_126 rfl (lv_at hl 2 rfl) ?_
            refine c_get (v := .long z47) (C := RX5) (Tc := TX5) (N := 19) (ci := 4) hx hb hq pin_wsX50 hown hE hP hO 28 (sg_28 G h0 a _ _ _ _ _) rfl 14 (by decide) (hq _ pw_485) (fun _ h9 => h9) rfl dX5_work_127 ?_
            refine lv_lconst (v := 0) hx hb dX5_work_130 (by decide) ?_
            rcases StG.cases hstg with hstg | hstg | hstg
            · skip
              have hz7 := hstg.2
              rw [hz7]
              refine W.lcmp hx hb dX5_work_131 ?_
              refine lv_topi (fun x56 e57 => ?_)
              obtain rfl : x56 = 0 := e57.trans (by decide)
              refine lv_if_eq (tgt := 139) hx hb dX5_work_132 (by decide) (fun c58 => ?_) (fun c58 => absurd c58 (by decide))
              refine lv_aload_n hx hb dX5_work_139 rfl (lv_at hl 2 rfl) ?_
              refine lv_aload_n hx hb dX5_work_140 rfl (lv_at hl 2 rfl) ?_
              refine c_get (v := .int nx44) (C := RX5) (Tc := TX5) (N := 19) (ci := 4) hx hb hq pin_wsX50 hown hE hP hO 28 (sg_28 G h0 a _ _ _ _ _) rfl 13 (by decide) (hq _ pw_566) (fun _ h9 => h9) rfl dX5_work_141 ?_
              refine c_put (v := .int nx44) (ty := .int) (C := RX5) (Tc := TX5) (N := 19) (ci := 4) hx hb hq pin_wsX50 tyX5 tyX5_ok nmX5 hown hE hP hD hS hO 28 (sg_28 G h0 a _ _ _ _ _) rfl 12 (by decide) (hq _ pw_506) (fun _ h9 => h9) rfl (by decide +kernel) rfl rfl (Nat.le_of_ble_eq_true rfl) (sf_20 G h0 a _ _ _ _ _ nx44) dX5_work_144 (fun H locs w hP hD hS hO => ?_)
              refine lv_iinc (v := (nI (i2 + 1))) (lv' := [(1, .int (nI (i2 + 1))), (2, .int (nI ko)), (0, .ref (a 5))]) hx hb dX5_work_147 hl (k := 1) rfl (nI_1 i2) (by decide) rfl (fun ls hl => ?_)
              refine lv_goto (tgt := 2) hx hb dX5_work_150 (by decide) ?_
              have hO : OKP G h0 a (upd (upd (upd (upd (upd (upd (upd (upd (upd (upd (upd (upd F 5 (nI cs)) 6 (nI rg)) 18 (nI ba49)) 19 (nI tp42)) 20 nx44) 21 nx44) 22 (nI on50)) 23 en43) 24 rs46) 26 (nI ht2)) 27 ot2) 28 (nI lm)) (updR (updR (updR (updR R 5 (.ref pq)) 6 (va_rf (some mr51))) 7 (.ref (a sp2))) 8 (.ref (a op2))) z47 (updA (updA (updA B 30 f2) 32 ou2) 33 ta2) J48 K w := hO.to rfl
              exact ih_w (i2 + 1) tp42 ba49 on50 sp2 op2 ht2 fl2 ot2 en43 nx44 nx44 rs46 (some mr51) f2 ta2 ou2 z47 J48 _ _ _ _ (by omega) (by omega) (by omega) hsp2 (Or.inl hstg.1) hfl2 h55 hP hD hS hO (lv_sub hl [0, 2] rfl)
            · skip
              obtain ⟨hs1, hs2, hs3, S7, n7, j7, x7, hs4, hs5, hs6, hs7⟩ := hstg
              have hz7 := hs1
              rw [hz7]
              refine W.lcmp hx hb dX5_work_131 ?_
              refine lv_topi (fun x59 e60 => ?_)
              obtain rfl : x59 = 0 := e60.trans (by decide)
              refine lv_if_eq (tgt := 139) hx hb dX5_work_132 (by decide) (fun c61 => ?_) (fun c61 => absurd c61 (by decide))
              refine lv_aload_n hx hb dX5_work_139 rfl (lv_at hl 2 rfl) ?_
              refine lv_aload_n hx hb dX5_work_140 rfl (lv_at hl 2 rfl) ?_
              refine c_get (v := .int nx44) (C := RX5) (Tc := TX5) (N := 19) (ci := 4) hx hb hq pin_wsX50 hown hE hP hO 28 (sg_28 G h0 a _ _ _ _ _) rfl 13 (by decide) (hq _ pw_566) (fun _ h9 => h9) rfl dX5_work_141 ?_
              refine c_put (v := .int nx44) (ty := .int) (C := RX5) (Tc := TX5) (N := 19) (ci := 4) hx hb hq pin_wsX50 tyX5 tyX5_ok nmX5 hown hE hP hD hS hO 28 (sg_28 G h0 a _ _ _ _ _) rfl 12 (by decide) (hq _ pw_506) (fun _ h9 => h9) rfl (by decide +kernel) rfl rfl (Nat.le_of_ble_eq_true rfl) (sf_20 G h0 a _ _ _ _ _ nx44) dX5_work_144 (fun H locs w hP hD hS hO => ?_)
              refine lv_iinc (v := (nI (i2 + 1))) (lv' := [(1, .int (nI (i2 + 1))), (2, .int (nI ko)), (0, .ref (a 5))]) hx hb dX5_work_147 hl (k := 1) rfl (nI_1 i2) (by decide) rfl (fun ls hl => ?_)
              refine lv_goto (tgt := 2) hx hb dX5_work_150 (by decide) ?_
              have hO : OKP G h0 a (upd (upd (upd (upd (upd (upd (upd (upd (upd (upd (upd (upd F 5 (nI cs)) 6 (nI rg)) 18 (nI ba49)) 19 (nI tp42)) 20 nx44) 21 nx44) 22 (nI on50)) 23 en43) 24 rs46) 26 (nI ht2)) 27 ot2) 28 (nI lm)) (updR (updR (updR (updR R 5 (.ref pq)) 6 (va_rf (some mr51))) 7 (.ref (a sp2))) 8 (.ref (a op2))) z47 (updA (updA (updA B 30 f2) 32 ou2) 33 ta2) J48 K w := hO.to rfl
              exact ih_w (i2 + 1) tp42 ba49 on50 sp2 op2 ht2 fl2 ot2 en43 nx44 nx44 rs46 (some mr51) f2 ta2 ou2 z47 J48 _ _ _ _ (by omega) (by omega) (by omega) hsp2 (Or.inr ⟨hs2, hs1, hs3, S7, n7, j7, x7, by rw [hs4], hs5, hs6, by omega⟩) hfl2 h55 hP hD hS hO (lv_sub hl [0, 2] rfl)
            · skip
              obtain ⟨hs2, hs3, S7, n7, j7, hs4, hs5, hs6, hs7⟩ := hstg
              refine W.lcmp hx hb dX5_work_131 ?_
              refine lv_topi (fun x62 e63 => ?_)
              refine lv_if_eq (tgt := 139) hx hb dX5_work_132 (by decide) (fun c64 => (RaO.n0 hs5 ((lg_cmp_eq _ _).mp (e63.symm.trans c64))).elim) (fun c64 => ?_)
              refine lv_aload_n hx hb dX5_work_135 rfl (lv_at hl 2 rfl) ?_
              have hs2x := hs2
              obtain rfl : en43 = 5 := hs2
              obtain rfl : pc45 = nI x9 := h53 (RaO.n0 hs5)
              obtain rfl : mr51 = it j7 := hs4.symm
              have hO : OKP G h0 a (upd (upd (upd (upd (upd (upd (upd (upd (upd (upd (upd (upd F 5 (nI cs)) 6 (nI rg)) 18 (nI ba49)) 19 (nI tp42)) 20 (nI x9)) 21 nx44) 22 (nI on50)) 23 5) 24 rs46) 26 (nI ht2)) 27 ot2) 28 (nI lm)) (updR (updR (updR (updR R 5 (.ref pq)) 6 (.ref (it j7))) 7 (.ref (a sp2))) 8 (.ref (a op2))) z47 (updA (updA (updA B 30 f2) 32 ou2) 33 ta2) J48 K w := hO.to rfl
              have hO : OKP G h0 a (upd (upd (upd (upd (upd (upd (upd (upd (upd (upd (upd (upd (upd (upd (upd (upd (upd (upd (upd (upd F 5 (nI cs)) 6 (nI rg)) 18 (nI ba49)) 19 (nI tp42)) 20 (nI x9)) 21 nx44) 22 (nI on50)) 23 5) 24 rs46) 26 (nI ht2)) 27 ot2) 28 (nI lm)) 5 (nI cs)) 6 (nI rg)) 18 (nI ba49)) 19 (nI tp42)) 20 (nI x9)) 22 (nI on50)) 23 5) 26 (nI ht2)) (updR (updR (updR (updR (updR (updR (updR (updR R 5 (.ref pq)) 6 (.ref (it j7))) 7 (.ref (a sp2))) 8 (.ref (a op2))) 5 (.ref pq)) 6 (.ref (it j7))) 7 (.ref (a sp2))) 8 (.ref (a op2))) z47 (updA (updA (updA B 30 f2) 32 ou2) 33 ta2) J48 K w := hO.to rfl
              obtain ⟨_, qr68, hqr69⟩ := hO.2.1 28 _ (sg_28 G h0 a _ _ _ _ _)
              refine pc_V0 (G := G) (As := []) (rest := []) hx hb hml hown hq hE hX pX0_al hP hD hS hA hl.1 (Y_goOutward l G h0 a (upd (upd (upd (upd (upd (upd (upd (upd (upd (upd (upd (upd F 5 (nI cs)) 6 (nI rg)) 18 (nI ba49)) 19 (nI tp42)) 20 (nI x9)) 21 nx44) 22 (nI on50)) 23 5) 24 rs46) 26 (nI ht2)) 27 ot2) 28 (nI lm)) (updR (updR (updR (updR R 5 (.ref pq)) 6 (.ref (it j7))) 7 (.ref (a sp2))) 8 (.ref (a op2))) z47 (updA (updA (updA B 30 f2) 32 ou2) 33 ta2) J48 K w y S7 n7 on50 j7 ba49 x9 tp42 sp2 op2 ht2 fl2 pq dr ml nd nm cp it s9 g rk cs rg (mT (B 16) f2 fl2 on2 x9) hsp2 hs6 hs5 hs3 (by omega) hs7 (by omega) hwp hps hrk hpy (by omega) hO) (gV pw_751 pw_752 pw_753 pw_539 pw_731) hV_X5_goOutward qr68 4 hqr69 rfl rfl rfl (Nat.le_of_ble_eq_true rfl) dX5_work_136 ⟨Nat.le_of_ble_eq_true rfl, Nat.le_of_ble_eq_true rfl⟩ ⟨Nat.le_of_ble_eq_true rfl, Nat.le_of_ble_eq_true rfl⟩ (fun v67 u65 H locs hw66 hP hD hS => ?_)
              obtain ⟨w, tp70, en71, nx72, pc73, z74, J75, ba76, on77, mr78⟩ := u65
              obtain ⟨hw66, h79, h80, h81, hO⟩ := hw66
              have h79 : OuG y it ((B 16)) ((B 19)) (f2) S7 n7 J75 sp2 ht2 fl2 (mT (B 16) f2 fl2 on2 x9) tp70 en71 nx72 z74 ba76 on77 mr78 := h79
              have h80 : LoE J75 sp2 op2 := h80
              have h81 : tp70 ≤ 32000 ∧ ba76 ≤ 32000 ∧ on77 ≤ 100 := h81
              obtain rfl : v67 = none := hw66
              have hO : OKP G h0 a (upd (upd (upd (upd (upd (upd (upd (upd (upd (upd (upd (upd F 5 (nI cs)) 6 (nI rg)) 18 (nI ba76)) 19 (nI tp70)) 20 pc73) 21 nx72) 22 (nI on77)) 23 en71) 24 rs46) 26 (nI ht2)) 27 ot2) 28 (nI lm)) (updR (updR (updR (updR R 5 (.ref pq)) 6 (.ref mr78)) 7 (.ref (a sp2))) 8 (.ref (a op2))) z74 (updA (updA (updA B 30 f2) 32 ou2) 33 ta2) J75 K w := hO.to rfl
              refine W.widen (k := 0) (n := 0) (Nat.le_of_ble_eq_true rfl) (Nat.le_of_ble_eq_true rfl) ?_
              refine W.eq (g2 := F0 m 139 ls []) rfl ?_
              refine lv_aload_n hx hb dX5_work_139 rfl (lv_at hl 2 rfl) ?_
              refine lv_aload_n hx hb dX5_work_140 rfl (lv_at hl 2 rfl) ?_
              refine c_get (v := .int nx72) (C := RX5) (Tc := TX5) (N := 19) (ci := 4) hx hb hq pin_wsX50 hown hE hP hO 28 (sg_28 G h0 a _ _ _ _ _) rfl 13 (by decide) (hq _ pw_566) (fun _ h9 => h9) rfl dX5_work_141 ?_
              refine c_put (v := .int nx72) (ty := .int) (C := RX5) (Tc := TX5) (N := 19) (ci := 4) hx hb hq pin_wsX50 tyX5 tyX5_ok nmX5 hown hE hP hD hS hO 28 (sg_28 G h0 a _ _ _ _ _) rfl 12 (by decide) (hq _ pw_506) (fun _ h9 => h9) rfl (by decide +kernel) rfl rfl (Nat.le_of_ble_eq_true rfl) (sf_20 G h0 a _ _ _ _ _ nx72) dX5_work_144 (fun H locs w hP hD hS hO => ?_)
              refine lv_iinc (v := (nI (i2 + 1))) (lv' := [(1, .int (nI (i2 + 1))), (2, .int (nI ko)), (0, .ref (a 5))]) hx hb dX5_work_147 hl (k := 1) rfl (nI_1 i2) (by decide) rfl (fun ls hl => ?_)
              refine lv_goto (tgt := 2) hx hb dX5_work_150 (by decide) ?_
              have hO : OKP G h0 a (upd (upd (upd (upd (upd (upd (upd (upd (upd (upd (upd (upd F 5 (nI cs)) 6 (nI rg)) 18 (nI ba76)) 19 (nI tp70)) 20 nx72) 21 nx72) 22 (nI on77)) 23 en71) 24 rs46) 26 (nI ht2)) 27 ot2) 28 (nI lm)) (updR (updR (updR (updR R 5 (.ref pq)) 6 (va_rf (some mr78))) 7 (.ref (a sp2))) 8 (.ref (a op2))) z74 (updA (updA (updA B 30 f2) 32 ou2) 33 ta2) J75 K w := hO.to rfl
              exact ih_w (i2 + 1) tp70 ba76 on77 sp2 op2 ht2 fl2 ot2 en71 nx72 nx72 rs46 (some mr78) f2 ta2 ou2 z74 J75 _ _ _ _ (by omega) (by omega) (by omega) hsp2 (by rcases h79 with z | ⟨z1, z2, j8, x8, z3, z4, z5, z6⟩; (exact Or.inl (by rw [z]; decide)); (exact Or.inr ⟨z1, z2, h80, S7, n7, j8, x8, by rw [z3], z4, z5, by omega⟩)) hfl2 h80 hP hD hS hO (lv_sub hl [0, 2] rfl)
          · have n82 : ¬ (26 ≤ ko) := fun h9 => c25 ((nI_leI (a := 26) (b := ko) (by omega) (by omega)).mpr h9)
            refine lv_aload_n hx hb dX5_work_69 rfl (lv_at hl 2 rfl) ?_
            refine lv_iload_n hx hb dX5_work_70 rfl (lv_at hl 0 rfl) ?_
            refine lv_aload_n hx hb dX5_work_71 rfl (lv_at hl 2 rfl) ?_
            refine c_get (v := .ref (a 2)) (C := RX5) (Tc := TX5) (N := 19) (ci := 4) hx hb hq pin_wsX50 hown hE hP hO 28 (sg_28 G h0 a _ _ _ _ _) rfl 0 (by decide) (hq _ pw_470) (fun _ h9 => h9) rfl dX5_work_72 ?_
            refine lv_aload_n hx hb dX5_work_75 rfl (lv_at hl 2 rfl) ?_
            refine c_get (v := .int (nI x9)) (C := RX5) (Tc := TX5) (N := 19) (ci := 4) hx hb hq pin_wsX50 hown hE hP hO 28 (sg_28 G h0 a _ _ _ _ _) rfl 12 (by decide) (hq _ pw_506) (fun _ h9 => h9) rfl dX5_work_76 ?_
            have hO : OKW G h0 a (upd (upd (upd (upd (upd (upd (upd (upd (upd (upd (upd (upd (upd F 5 (nI cs)) 6 (nI rg)) 18 (nI ba2)) 19 (nI tp2)) 20 (nI x9)) 21 (nI (x9 + 1))) 22 (nI on2)) 23 5) 24 rs2) 26 (nI ht2)) 27 ot2) 28 (nI lm)) 5 (nI cs)) (updR (updR (updR (updR R 5 (.ref pq)) 6 (.ref (it j9))) 7 (.ref (a sp2))) 8 (.ref (a op2))) 0 (updA (updA (updA B 30 f2) 32 ou2) 33 ta2) J2 K.1 (fun q99 x99 => x99 = rep G a K q99) w := hO.to rfl
            obtain ⟨_, qr86, hqr87⟩ := hO.2.1 13 _ (sg_13 G h0 a _ _ _ _ _)
            refine pc_V0 (G := G) (As := [.int (nI x9)]) (rest := [.int (nI ko), .ref (a 5)]) hx hb hml hown hq hE hX pX0_al hP hD hS hA hl.1 (Y_left l G h0 a (upd (upd (upd (upd (upd (upd (upd (upd (upd (upd (upd (upd F 5 (nI cs)) 6 (nI rg)) 18 (nI ba2)) 19 (nI tp2)) 20 (nI x9)) 21 (nI (x9 + 1))) 22 (nI on2)) 23 5) 24 rs2) 26 (nI ht2)) 27 ot2) 28 (nI lm)) (updR (updR (updR (updR R 5 (.ref pq)) 6 (.ref (it j9))) 7 (.ref (a sp2))) 8 (.ref (a op2))) 0 (updA (updA (updA B 30 f2) 32 ou2) 33 ta2) J2 K.1 (fun q99 x99 => x99 = rep G a K q99) w x9 cs (by omega) (by omega) hO) (gV pw_736 pw_737 pw_738 pw_70 pw_380) hV_X1_left qr86 1 hqr87 rfl rfl rfl (Nat.le_of_ble_eq_true rfl) dX5_work_79 ⟨Nat.le_of_ble_eq_true rfl, Nat.le_of_ble_eq_true rfl⟩ ⟨Nat.le_of_ble_eq_true rfl, Nat.le_of_ble_eq_true rfl⟩ (fun v85 u83 H locs hw84 hP hD hS => ?_)
            obtain ⟨w, _⟩ := u83
            obtain ⟨hw84, hO⟩ := hw84
            obtain rfl : v85 = some (.int ((B 17) x9)) := hw84
            have hO : OKP G h0 a (upd (upd (upd (upd (upd (upd (upd (upd (upd (upd (upd (upd F 5 (nI cs)) 6 (nI rg)) 18 (nI ba2)) 19 (nI tp2)) 20 (nI x9)) 21 (nI (x9 + 1))) 22 (nI on2)) 23 5) 24 rs2) 26 (nI ht2)) 27 ot2) 28 (nI lm)) (updR (updR (updR (updR R 5 (.ref pq)) 6 (.ref (it j9))) 7 (.ref (a sp2))) 8 (.ref (a op2))) 0 (updA (updA (updA B 30 f2) 32 ou2) 33 ta2) J2 K w := hO.to rfl
            refine W.widen (k := 0) (n := 0) (Nat.le_of_ble_eq_true rfl) (Nat.le_of_ble_eq_true rfl) ?_
            refine W.eq (g2 := F0 m 82 ls [.int ((B 17) x9), .int (nI ko), .ref (a 5)]) rfl ?_
            refine lv_aload_n hx hb dX5_work_82 rfl (lv_at hl 2 rfl) ?_
            refine c_get (v := .ref (a 2)) (C := RX5) (Tc := TX5) (N := 19) (ci := 4) hx hb hq pin_wsX50 hown hE hP hO 28 (sg_28 G h0 a _ _ _ _ _) rfl 0 (by decide) (hq _ pw_470) (fun _ h9 => h9) rfl dX5_work_83 ?_
            refine lv_aload_n hx hb dX5_work_86 rfl (lv_at hl 2 rfl) ?_
            refine c_get (v := .int (nI x9)) (C := RX5) (Tc := TX5) (N := 19) (ci := 4) hx hb hq pin_wsX50 hown hE hP hO 28 (sg_28 G h0 a _ _ _ _ _) rfl 12 (by decide) (hq _ pw_506) (fun _ h9 => h9) rfl dX5_work_87 ?_
            have hO : OKW G h0 a (upd (upd (upd (upd (upd (upd (upd (upd (upd (upd (upd (upd (upd F 5 (nI cs)) 6 (nI rg)) 18 (nI ba2)) 19 (nI tp2)) 20 (nI x9)) 21 (nI (x9 + 1))) 22 (nI on2)) 23 5) 24 rs2) 26 (nI ht2)) 27 ot2) 28 (nI lm)) 5 (nI cs)) (updR (updR (updR (updR R 5 (.ref pq)) 6 (.ref (it j9))) 7 (.ref (a sp2))) 8 (.ref (a op2))) 0 (updA (updA (updA B 30 f2) 32 ou2) 33 ta2) J2 K.1 (fun q99 x99 => x99 = rep G a K q99) w := hO.to rfl
            obtain ⟨_, qr91, hqr92⟩ := hO.2.1 13 _ (sg_13 G h0 a _ _ _ _ _)
            refine pc_V0 (G := G) (As := [.int (nI x9)]) (rest := [.int ((B 17) x9), .int (nI ko), .ref (a 5)]) hx hb hml hown hq hE hX pX0_al hP hD hS hA hl.1 (Y_right l G h0 a (upd (upd (upd (upd (upd (upd (upd (upd (upd (upd (upd (upd F 5 (nI cs)) 6 (nI rg)) 18 (nI ba2)) 19 (nI tp2)) 20 (nI x9)) 21 (nI (x9 + 1))) 22 (nI on2)) 23 5) 24 rs2) 26 (nI ht2)) 27 ot2) 28 (nI lm)) (updR (updR (updR (updR R 5 (.ref pq)) 6 (.ref (it j9))) 7 (.ref (a sp2))) 8 (.ref (a op2))) 0 (updA (updA (updA B 30 f2) 32 ou2) 33 ta2) J2 K.1 (fun q99 x99 => x99 = rep G a K q99) w x9 cs (by omega) (by omega) hO) (gV pw_742 pw_743 pw_744 pw_70 pw_381) hV_X1_right qr91 1 hqr92 rfl rfl rfl (Nat.le_of_ble_eq_true rfl) dX5_work_90 ⟨Nat.le_of_ble_eq_true rfl, Nat.le_of_ble_eq_true rfl⟩ ⟨Nat.le_of_ble_eq_true rfl, Nat.le_of_ble_eq_true rfl⟩ (fun v90 u88 H locs hw89 hP hD hS => ?_)
            obtain ⟨w, _⟩ := u88
            obtain ⟨hw89, hO⟩ := hw89
            obtain rfl : v90 = some (.int ((B 18) x9)) := hw89
            have hO : OKP G h0 a (upd (upd (upd (upd (upd (upd (upd (upd (upd (upd (upd (upd F 5 (nI cs)) 6 (nI rg)) 18 (nI ba2)) 19 (nI tp2)) 20 (nI x9)) 21 (nI (x9 + 1))) 22 (nI on2)) 23 5) 24 rs2) 26 (nI ht2)) 27 ot2) 28 (nI lm)) (updR (updR (updR (updR R 5 (.ref pq)) 6 (.ref (it j9))) 7 (.ref (a sp2))) 8 (.ref (a op2))) 0 (updA (updA (updA B 30 f2) 32 ou2) 33 ta2) J2 K w := hO.to rfl
            refine W.widen (k := 0) (n := 0) (Nat.le_of_ble_eq_true rfl) (Nat.le_of_ble_eq_true rfl) ?_
            refine W.eq (g2 := F0 m 93 ls [.int ((B 18) x9), .int ((B 17) x9), .int (nI ko), .ref (a 5)]) rfl ?_
            have hO : OKP G h0 a (upd (upd (upd (upd (upd (upd (upd (upd (upd (upd (upd (upd (upd (upd (upd (upd (upd (upd (upd (upd (upd (upd F 5 (nI cs)) 6 (nI rg)) 18 (nI ba2)) 19 (nI tp2)) 20 (nI x9)) 21 (nI (x9 + 1))) 22 (nI on2)) 23 5) 24 rs2) 26 (nI ht2)) 27 ot2) 28 (nI lm)) 5 (nI cs)) 6 (nI rg)) 18 (nI ba2)) 19 (nI tp2)) 20 (nI x9)) 21 (nI (x9 + 1))) 22 (nI on2)) 23 5) 26 (nI ht2)) 28 (nI lm)) (updR (updR (updR (updR (updR (updR (updR (updR R 5 (.ref pq)) 6 (.ref (it j9))) 7 (.ref (a sp2))) 8 (.ref (a op2))) 5 (.ref pq)) 6 (.ref (it j9))) 7 (.ref (a sp2))) 8 (.ref (a op2))) 0 (updA (updA (updA B 30 f2) 32 ou2) 33 ta2) J2 K w := hO.to rfl
            obtain ⟨_, qr96, hqr97⟩ := hO.2.1 28 _ (sg_28 G h0 a _ _ _ _ _)
            refine pc_V0 (G := G) (As := [.int (nI ko), .int ((updA (updA (updA B 30 f2) 32 ou2) 33 ta2) 17 x9), .int ((updA (updA (updA B 30 f2) 32 ou2) 33 ta2) 18 x9)]) (rest := []) hx hb hml hown hq hE hX pX0_al hP hD hS hA hl.1 (Y_stepThings l G h0 a (upd (upd (upd (upd (upd (upd (upd (upd (upd (upd (upd (upd F 5 (nI cs)) 6 (nI rg)) 18 (nI ba2)) 19 (nI tp2)) 20 (nI x9)) 21 (nI (x9 + 1))) 22 (nI on2)) 23 5) 24 rs2) 26 (nI ht2)) 27 ot2) 28 (nI lm)) (updR (updR (updR (updR R 5 (.ref pq)) 6 (.ref (it j9))) 7 (.ref (a sp2))) 8 (.ref (a op2))) 0 (updA (updA (updA B 30 f2) 32 ou2) 33 ta2) J2 K w y Sh nn on2 j9 ba2 x9 tp2 sp2 op2 ht2 fl2 pq dr ml nd nm cp it s9 g rk cs rg lm ko hsp2 hmi hmo rfl hfl2 (by omega) hwp hps hrk hpy hle (by omega) (by omega) hop hru (by omega) hO) (gV pw_745 pw_746 pw_747 pw_539 pw_690) hV_X5_stepAmongThings qr96 4 hqr97 rfl rfl rfl (Nat.le_of_ble_eq_true rfl) dX5_work_93 ⟨Nat.le_of_ble_eq_true rfl, Nat.le_of_ble_eq_true rfl⟩ ⟨Nat.le_of_ble_eq_true rfl, Nat.le_of_ble_eq_true rfl⟩ (fun v95 u93 H locs hw94 hP hD hS => ?_)
            obtain ⟨w, tp98, en99, nx100, z101, J102, ta103, fl104, sp105, op106, ht107, ot108, ba109, on110, mr111, fr112, ou113⟩ := u93
            obtain ⟨hw94, h114, h115, h116, h117, h118, hO⟩ := hw94
            have h114 : StG y it ((B 16)) ((B 19)) (mT ((B 16)) (f2) fl2 on2 x9) x9 tp98 en99 nx100 z101 J102 fl104 sp105 op106 ht107 fr112 on110 ba109 mr111 := h114
            have h115 : ta103 5 = nI fl104 := h115
            have h116 : fl104 ≤ fl2 ∧ tp98 ≤ 32000 ∧ (8 ≤ ht107 ∧ ht107 ≤ 3008) ∧ ba109 ≤ 32000 ∧ on110 ≤ 100 := h116
            have h117 : (sp105 = 34 ∧ op106 = 35) ∨ (sp105 = 35 ∧ op106 = 34) := h117
            have h118 : LoE J102 sp105 op106 := h118
            obtain rfl : v95 = none := hw94
            have hO : OKP G h0 a (upd (upd (upd (upd (upd (upd (upd (upd (upd (upd (upd (upd F 5 (nI cs)) 6 (nI rg)) 18 (nI ba109)) 19 (nI tp98)) 20 (nI x9)) 21 nx100) 22 (nI on110)) 23 en99) 24 rs2) 26 (nI ht107)) 27 ot108) 28 (nI lm)) (updR (updR (updR (updR R 5 (.ref pq)) 6 (.ref mr111)) 7 (.ref (a sp105))) 8 (.ref (a op106))) z101 (updA (updA (updA B 30 fr112) 32 ou113) 33 ta103) J102 K w := hO.to rfl
            refine W.widen (k := 0) (n := 0) (Nat.le_of_ble_eq_true rfl) (Nat.le_of_ble_eq_true rfl) ?_
            refine W.eq (g2 := F0 m 96 ls []) rfl ?_
            have hstg := h114
            refine lv_goto (tgt := 126) hx hb dX5_work_96 (by decide) ?_
            refine lv_aload_n hx hb dX5_work_126 rfl (lv_at hl 2 rfl) ?_
            refine c_get (v := .long z101) (C := RX5) (Tc := TX5) (N := 19) (ci := 4) hx hb hq pin_wsX50 hown hE hP hO 28 (sg_28 G h0 a _ _ _ _ _) rfl 14 (by decide) (hq _ pw_485) (fun _ h9 => h9) rfl dX5_work_127 ?_
            refine lv_lconst (v := 0) hx hb dX5_work_130 (by decide) ?_
            rcases StG.cases hstg with hstg | hstg | hstg
            · skip
              have hz7 := hstg.2
              rw [hz7]
              refine W.lcmp hx hb dX5_work_131 ?_
              refine lv_topi (fun x119 e120 => ?_)
              obtain rfl : x119 = 0 := e120.trans (by decide)
              refine lv_if_eq (tgt := 139) hx hb dX5_work_132 (by decide) (fun c121 => ?_) (fun c121 => absurd c121 (by decide))
              refine lv_aload_n hx hb dX5_work_139 rfl (lv_at hl 2 rfl) ?_
              refine lv_aload_n hx hb dX5_work_140 rfl (lv_at hl 2 rfl) ?_
              refine c_get (v := .int nx100) (C := RX5) (Tc := TX5) (N := 19) (ci := 4) hx hb hq pin_wsX50 hown hE hP hO 28 (sg_28 G h0 a _ _ _ _ _) rfl 13 (by decide) (hq _ pw_566) (fun _ h9 => h9) rfl dX5_work_141 ?_
              refine c_put (v := .int nx100) (ty := .int) (C := RX5) (Tc := TX5) (N := 19) (ci := 4) hx hb hq pin_wsX50 tyX5 tyX5_ok nmX5 hown hE hP hD hS hO 28 (sg_28 G h0 a _ _ _ _ _) rfl 12 (by decide) (hq _ pw_506) (fun _ h9 => h9) rfl (by decide +kernel) rfl rfl (Nat.le_of_ble_eq_true rfl) (sf_20 G h0 a _ _ _ _ _ nx100) dX5_work_144 (fun H locs w hP hD hS hO => ?_)
              refine lv_iinc (v := (nI (i2 + 1))) (lv' := [(1, .int (nI (i2 + 1))), (2, .int (nI ko)), (0, .ref (a 5))]) hx hb dX5_work_147 hl (k := 1) rfl (nI_1 i2) (by decide) rfl (fun ls hl => ?_)
              refine lv_goto (tgt := 2) hx hb dX5_work_150 (by decide) ?_
              have hO : OKP G h0 a (upd (upd (upd (upd (upd (upd (upd (upd (upd (upd (upd (upd F 5 (nI cs)) 6 (nI rg)) 18 (nI ba109)) 19 (nI tp98)) 20 nx100) 21 nx100) 22 (nI on110)) 23 en99) 24 rs2) 26 (nI ht107)) 27 ot108) 28 (nI lm)) (updR (updR (updR (updR R 5 (.ref pq)) 6 (va_rf (some mr111))) 7 (.ref (a sp105))) 8 (.ref (a op106))) z101 (updA (updA (updA B 30 fr112) 32 ou113) 33 ta103) J102 K w := hO.to rfl
              exact ih_w (i2 + 1) tp98 ba109 on110 sp105 op106 ht107 fl104 ot108 en99 nx100 nx100 rs2 (some mr111) fr112 ta103 ou113 z101 J102 _ _ _ _ (by omega) (by omega) (by omega) h117 (Or.inl hstg.1) h115 h118 hP hD hS hO (lv_sub hl [0, 2] rfl)
            · skip
              obtain ⟨hs1, hs2, hs3, S7, n7, j7, x7, hs4, hs5, hs6, hs7⟩ := hstg
              have hz7 := hs1
              rw [hz7]
              refine W.lcmp hx hb dX5_work_131 ?_
              refine lv_topi (fun x122 e123 => ?_)
              obtain rfl : x122 = 0 := e123.trans (by decide)
              refine lv_if_eq (tgt := 139) hx hb dX5_work_132 (by decide) (fun c124 => ?_) (fun c124 => absurd c124 (by decide))
              refine lv_aload_n hx hb dX5_work_139 rfl (lv_at hl 2 rfl) ?_
              refine lv_aload_n hx hb dX5_work_140 rfl (lv_at hl 2 rfl) ?_
              refine c_get (v := .int nx100) (C := RX5) (Tc := TX5) (N := 19) (ci := 4) hx hb hq pin_wsX50 hown hE hP hO 28 (sg_28 G h0 a _ _ _ _ _) rfl 13 (by decide) (hq _ pw_566) (fun _ h9 => h9) rfl dX5_work_141 ?_
              refine c_put (v := .int nx100) (ty := .int) (C := RX5) (Tc := TX5) (N := 19) (ci := 4) hx hb hq pin_wsX50 tyX5 tyX5_ok nmX5 hown hE hP hD hS hO 28 (sg_28 G h0 a _ _ _ _ _) rfl 12 (by decide) (hq _ pw_506) (fun _ h9 => h9) rfl (by decide +kernel) rfl rfl (Nat.le_of_ble_eq_true rfl) (sf_20 G h0 a _ _ _ _ _ nx100) dX5_work_144 (fun H locs w hP hD hS hO => ?_)
              refine lv_iinc (v := (nI (i2 + 1))) (lv' := [(1, .int (nI (i2 + 1))), (2, .int (nI ko)), (0, .ref (a 5))]) hx hb dX5_work_147 hl (k := 1) rfl (nI_1 i2) (by decide) rfl (fun ls hl => ?_)
              refine lv_goto (tgt := 2) hx hb dX5_work_150 (by decide) ?_
              have hO : OKP G h0 a (upd (upd (upd (upd (upd (upd (upd (upd (upd (upd (upd (upd F 5 (nI cs)) 6 (nI rg)) 18 (nI ba109)) 19 (nI tp98)) 20 nx100) 21 nx100) 22 (nI on110)) 23 en99) 24 rs2) 26 (nI ht107)) 27 ot108) 28 (nI lm)) (updR (updR (updR (updR R 5 (.ref pq)) 6 (va_rf (some mr111))) 7 (.ref (a sp105))) 8 (.ref (a op106))) z101 (updA (updA (updA B 30 fr112) 32 ou113) 33 ta103) J102 K w := hO.to rfl
              exact ih_w (i2 + 1) tp98 ba109 on110 sp105 op106 ht107 fl104 ot108 en99 nx100 nx100 rs2 (some mr111) fr112 ta103 ou113 z101 J102 _ _ _ _ (by omega) (by omega) (by omega) h117 (Or.inr ⟨hs2, hs1, hs3, S7, n7, j7, x7, by rw [hs4], hs5, hs6, by omega⟩) h115 h118 hP hD hS hO (lv_sub hl [0, 2] rfl)
            · skip
              obtain ⟨hs2, hs3, S7, n7, j7, hs4, hs5, hs6, hs7⟩ := hstg
              refine W.lcmp hx hb dX5_work_131 ?_
              refine lv_topi (fun x125 e126 => ?_)
              refine lv_if_eq (tgt := 139) hx hb dX5_work_132 (by decide) (fun c127 => (RaO.n0 hs5 ((lg_cmp_eq _ _).mp (e126.symm.trans c127))).elim) (fun c127 => ?_)
              refine lv_aload_n hx hb dX5_work_135 rfl (lv_at hl 2 rfl) ?_
              have hs2x := hs2
              obtain rfl : en99 = 5 := hs2
              obtain rfl : mr111 = it j7 := hs4.symm
              have hO : OKP G h0 a (upd (upd (upd (upd (upd (upd (upd (upd (upd (upd (upd (upd F 5 (nI cs)) 6 (nI rg)) 18 (nI ba109)) 19 (nI tp98)) 20 (nI x9)) 21 nx100) 22 (nI on110)) 23 5) 24 rs2) 26 (nI ht107)) 27 ot108) 28 (nI lm)) (updR (updR (updR (updR R 5 (.ref pq)) 6 (.ref (it j7))) 7 (.ref (a sp105))) 8 (.ref (a op106))) z101 (updA (updA (updA B 30 fr112) 32 ou113) 33 ta103) J102 K w := hO.to rfl
              have hO : OKP G h0 a (upd (upd (upd (upd (upd (upd (upd (upd (upd (upd (upd (upd (upd (upd (upd (upd (upd (upd (upd (upd F 5 (nI cs)) 6 (nI rg)) 18 (nI ba109)) 19 (nI tp98)) 20 (nI x9)) 21 nx100) 22 (nI on110)) 23 5) 24 rs2) 26 (nI ht107)) 27 ot108) 28 (nI lm)) 5 (nI cs)) 6 (nI rg)) 18 (nI ba109)) 19 (nI tp98)) 20 (nI x9)) 22 (nI on110)) 23 5) 26 (nI ht107)) (updR (updR (updR (updR (updR (updR (updR (updR R 5 (.ref pq)) 6 (.ref (it j7))) 7 (.ref (a sp105))) 8 (.ref (a op106))) 5 (.ref pq)) 6 (.ref (it j7))) 7 (.ref (a sp105))) 8 (.ref (a op106))) z101 (updA (updA (updA B 30 fr112) 32 ou113) 33 ta103) J102 K w := hO.to rfl
              obtain ⟨_, qr131, hqr132⟩ := hO.2.1 28 _ (sg_28 G h0 a _ _ _ _ _)
              refine pc_V0 (G := G) (As := []) (rest := []) hx hb hml hown hq hE hX pX0_al hP hD hS hA hl.1 (Y_goOutward l G h0 a (upd (upd (upd (upd (upd (upd (upd (upd (upd (upd (upd (upd F 5 (nI cs)) 6 (nI rg)) 18 (nI ba109)) 19 (nI tp98)) 20 (nI x9)) 21 nx100) 22 (nI on110)) 23 5) 24 rs2) 26 (nI ht107)) 27 ot108) 28 (nI lm)) (updR (updR (updR (updR R 5 (.ref pq)) 6 (.ref (it j7))) 7 (.ref (a sp105))) 8 (.ref (a op106))) z101 (updA (updA (updA B 30 fr112) 32 ou113) 33 ta103) J102 K w y S7 n7 on110 j7 ba109 x9 tp98 sp105 op106 ht107 fl104 pq dr ml nd nm cp it s9 g rk cs rg (mT (B 16) f2 fl2 on2 x9) h117 hs6 hs5 hs3 (by omega) hs7 (by omega) hwp hps hrk hpy (by omega) hO) (gV pw_751 pw_752 pw_753 pw_539 pw_731) hV_X5_goOutward qr131 4 hqr132 rfl rfl rfl (Nat.le_of_ble_eq_true rfl) dX5_work_136 ⟨Nat.le_of_ble_eq_true rfl, Nat.le_of_ble_eq_true rfl⟩ ⟨Nat.le_of_ble_eq_true rfl, Nat.le_of_ble_eq_true rfl⟩ (fun v130 u128 H locs hw129 hP hD hS => ?_)
              obtain ⟨w, tp133, en134, nx135, pc136, z137, J138, ba139, on140, mr141⟩ := u128
              obtain ⟨hw129, h142, h143, h144, hO⟩ := hw129
              have h142 : OuG y it ((B 16)) ((B 19)) (fr112) S7 n7 J138 sp105 ht107 fl104 (mT (B 16) f2 fl2 on2 x9) tp133 en134 nx135 z137 ba139 on140 mr141 := h142
              have h143 : LoE J138 sp105 op106 := h143
              have h144 : tp133 ≤ 32000 ∧ ba139 ≤ 32000 ∧ on140 ≤ 100 := h144
              obtain rfl : v130 = none := hw129
              have hO : OKP G h0 a (upd (upd (upd (upd (upd (upd (upd (upd (upd (upd (upd (upd F 5 (nI cs)) 6 (nI rg)) 18 (nI ba139)) 19 (nI tp133)) 20 pc136) 21 nx135) 22 (nI on140)) 23 en134) 24 rs2) 26 (nI ht107)) 27 ot108) 28 (nI lm)) (updR (updR (updR (updR R 5 (.ref pq)) 6 (.ref mr141)) 7 (.ref (a sp105))) 8 (.ref (a op106))) z137 (updA (updA (updA B 30 fr112) 32 ou113) 33 ta103) J138 K w := hO.to rfl
              refine W.widen (k := 0) (n := 0) (Nat.le_of_ble_eq_true rfl) (Nat.le_of_ble_eq_true rfl) ?_
              refine W.eq (g2 := F0 m 139 ls []) rfl ?_
              refine lv_aload_n hx hb dX5_work_139 rfl (lv_at hl 2 rfl) ?_
              refine lv_aload_n hx hb dX5_work_140 rfl (lv_at hl 2 rfl) ?_
              refine c_get (v := .int nx135) (C := RX5) (Tc := TX5) (N := 19) (ci := 4) hx hb hq pin_wsX50 hown hE hP hO 28 (sg_28 G h0 a _ _ _ _ _) rfl 13 (by decide) (hq _ pw_566) (fun _ h9 => h9) rfl dX5_work_141 ?_
              refine c_put (v := .int nx135) (ty := .int) (C := RX5) (Tc := TX5) (N := 19) (ci := 4) hx hb hq pin_wsX50 tyX5 tyX5_ok nmX5 hown hE hP hD hS hO 28 (sg_28 G h0 a _ _ _ _ _) rfl 12 (by decide) (hq _ pw_506) (fun _ h9 => h9) rfl (by decide +kernel) rfl rfl (Nat.le_of_ble_eq_true rfl) (sf_20 G h0 a _ _ _ _ _ nx135) dX5_work_144 (fun H locs w hP hD hS hO => ?_)
              refine lv_iinc (v := (nI (i2 + 1))) (lv' := [(1, .int (nI (i2 + 1))), (2, .int (nI ko)), (0, .ref (a 5))]) hx hb dX5_work_147 hl (k := 1) rfl (nI_1 i2) (by decide) rfl (fun ls hl => ?_)
              refine lv_goto (tgt := 2) hx hb dX5_work_150 (by decide) ?_
              have hO : OKP G h0 a (upd (upd (upd (upd (upd (upd (upd (upd (upd (upd (upd (upd F 5 (nI cs)) 6 (nI rg)) 18 (nI ba139)) 19 (nI tp133)) 20 nx135) 21 nx135) 22 (nI on140)) 23 en134) 24 rs2) 26 (nI ht107)) 27 ot108) 28 (nI lm)) (updR (updR (updR (updR R 5 (.ref pq)) 6 (va_rf (some mr141))) 7 (.ref (a sp105))) 8 (.ref (a op106))) z137 (updA (updA (updA B 30 fr112) 32 ou113) 33 ta103) J138 K w := hO.to rfl
              exact ih_w (i2 + 1) tp133 ba139 on140 sp105 op106 ht107 fl104 ot108 en134 nx135 nx135 rs2 (some mr141) fr112 ta103 ou113 z137 J138 _ _ _ _ (by omega) (by omega) (by omega) h117 (by rcases h142 with z | ⟨z1, z2, j8, x8, z3, z4, z5, z6⟩; (exact Or.inl (by rw [z]; decide)); (exact Or.inr ⟨z1, z2, h143, S7, n7, j8, x8, by rw [z3], z4, z5, by omega⟩)) h115 h143 hP hD hS hO (lv_sub hl [0, 2] rfl)
        · have n145 : ¬ (14 ≤ ko) := fun h9 => c23 ((nI_leI (a := 14) (b := ko) (by omega) (by omega)).mpr h9)
          refine lv_aload_n hx hb dX5_work_44 rfl (lv_at hl 2 rfl) ?_
          refine lv_iload_n hx hb dX5_work_45 rfl (lv_at hl 0 rfl) ?_
          refine lv_aload_n hx hb dX5_work_46 rfl (lv_at hl 2 rfl) ?_
          refine c_get (v := .ref (a 2)) (C := RX5) (Tc := TX5) (N := 19) (ci := 4) hx hb hq pin_wsX50 hown hE hP hO 28 (sg_28 G h0 a _ _ _ _ _) rfl 0 (by decide) (hq _ pw_470) (fun _ h9 => h9) rfl dX5_work_47 ?_
          refine lv_aload_n hx hb dX5_work_50 rfl (lv_at hl 2 rfl) ?_
          refine c_get (v := .int (nI x9)) (C := RX5) (Tc := TX5) (N := 19) (ci := 4) hx hb hq pin_wsX50 hown hE hP hO 28 (sg_28 G h0 a _ _ _ _ _) rfl 12 (by decide) (hq _ pw_506) (fun _ h9 => h9) rfl dX5_work_51 ?_
          have hO : OKW G h0 a (upd (upd (upd (upd (upd (upd (upd (upd (upd (upd (upd (upd (upd F 5 (nI cs)) 6 (nI rg)) 18 (nI ba2)) 19 (nI tp2)) 20 (nI x9)) 21 (nI (x9 + 1))) 22 (nI on2)) 23 5) 24 rs2) 26 (nI ht2)) 27 ot2) 28 (nI lm)) 5 (nI cs)) (updR (updR (updR (updR R 5 (.ref pq)) 6 (.ref (it j9))) 7 (.ref (a sp2))) 8 (.ref (a op2))) 0 (updA (updA (updA B 30 f2) 32 ou2) 33 ta2) J2 K.1 (fun q99 x99 => x99 = rep G a K q99) w := hO.to rfl
          obtain ⟨_, qr149, hqr150⟩ := hO.2.1 13 _ (sg_13 G h0 a _ _ _ _ _)
          refine pc_V0 (G := G) (As := [.int (nI x9)]) (rest := [.int (nI ko), .ref (a 5)]) hx hb hml hown hq hE hX pX0_al hP hD hS hA hl.1 (Y_left l G h0 a (upd (upd (upd (upd (upd (upd (upd (upd (upd (upd (upd (upd F 5 (nI cs)) 6 (nI rg)) 18 (nI ba2)) 19 (nI tp2)) 20 (nI x9)) 21 (nI (x9 + 1))) 22 (nI on2)) 23 5) 24 rs2) 26 (nI ht2)) 27 ot2) 28 (nI lm)) (updR (updR (updR (updR R 5 (.ref pq)) 6 (.ref (it j9))) 7 (.ref (a sp2))) 8 (.ref (a op2))) 0 (updA (updA (updA B 30 f2) 32 ou2) 33 ta2) J2 K.1 (fun q99 x99 => x99 = rep G a K q99) w x9 cs (by omega) (by omega) hO) (gV pw_736 pw_737 pw_738 pw_70 pw_380) hV_X1_left qr149 1 hqr150 rfl rfl rfl (Nat.le_of_ble_eq_true rfl) dX5_work_54 ⟨Nat.le_of_ble_eq_true rfl, Nat.le_of_ble_eq_true rfl⟩ ⟨Nat.le_of_ble_eq_true rfl, Nat.le_of_ble_eq_true rfl⟩ (fun v148 u146 H locs hw147 hP hD hS => ?_)
          obtain ⟨w, _⟩ := u146
          obtain ⟨hw147, hO⟩ := hw147
          obtain rfl : v148 = some (.int ((B 17) x9)) := hw147
          have hO : OKP G h0 a (upd (upd (upd (upd (upd (upd (upd (upd (upd (upd (upd (upd F 5 (nI cs)) 6 (nI rg)) 18 (nI ba2)) 19 (nI tp2)) 20 (nI x9)) 21 (nI (x9 + 1))) 22 (nI on2)) 23 5) 24 rs2) 26 (nI ht2)) 27 ot2) 28 (nI lm)) (updR (updR (updR (updR R 5 (.ref pq)) 6 (.ref (it j9))) 7 (.ref (a sp2))) 8 (.ref (a op2))) 0 (updA (updA (updA B 30 f2) 32 ou2) 33 ta2) J2 K w := hO.to rfl
          refine W.widen (k := 0) (n := 0) (Nat.le_of_ble_eq_true rfl) (Nat.le_of_ble_eq_true rfl) ?_
          refine W.eq (g2 := F0 m 57 ls [.int ((B 17) x9), .int (nI ko), .ref (a 5)]) rfl ?_
          have hO : OKW G h0 a (upd (upd (upd (upd (upd (upd (upd (upd (upd (upd (upd (upd (upd (upd (upd (upd (upd (upd F 5 (nI cs)) 6 (nI rg)) 18 (nI ba2)) 19 (nI tp2)) 20 (nI x9)) 21 (nI (x9 + 1))) 22 (nI on2)) 23 5) 24 rs2) 26 (nI ht2)) 27 ot2) 28 (nI lm)) 18 (nI ba2)) 19 (nI tp2)) 20 (nI x9)) 21 (nI (x9 + 1))) 23 5) 26 (nI ht2)) (updR (updR (updR (updR (updR (updR R 5 (.ref pq)) 6 (.ref (it j9))) 7 (.ref (a sp2))) 8 (.ref (a op2))) 7 (.ref (a sp2))) 8 (.ref (a op2))) 0 (updA (updA (updA B 30 f2) 32 ou2) 33 ta2) J2 K.1 (fun q99 x99 => x99 = rep G a K q99) w := hO.to rfl
          obtain ⟨_, qr154, hqr155⟩ := hO.2.1 28 _ (sg_28 G h0 a _ _ _ _ _)
          refine pc_V0 (G := G) (As := [.int (nI ko), .int ((updA (updA (updA B 30 f2) 32 ou2) 33 ta2) 17 x9)]) (rest := []) hx hb hml hown hq hE hX pX0_al hP hD hS hA hl.1 (Y_step l G h0 a (upd (upd (upd (upd (upd (upd (upd (upd (upd (upd (upd (upd F 5 (nI cs)) 6 (nI rg)) 18 (nI ba2)) 19 (nI tp2)) 20 (nI x9)) 21 (nI (x9 + 1))) 22 (nI on2)) 23 5) 24 rs2) 26 (nI ht2)) 27 ot2) 28 (nI lm)) (updR (updR (updR (updR R 5 (.ref pq)) 6 (.ref (it j9))) 7 (.ref (a sp2))) 8 (.ref (a op2))) 0 (updA (updA (updA B 30 f2) 32 ou2) 33 ta2) J2 K.1 (fun q99 x99 => x99 = rep G a K q99) w y Sh nn on2 j9 ba2 x9 tp2 sp2 op2 ht2 fl2 ko hsp2 hmi hmo rfl hfl2 (by omega) hop hru (by omega) hO) (gV pw_739 pw_740 pw_741 pw_539 pw_643) hV_X5_step qr154 4 hqr155 rfl rfl rfl (Nat.le_of_ble_eq_true rfl) dX5_work_57 ⟨Nat.le_of_ble_eq_true rfl, Nat.le_of_ble_eq_true rfl⟩ ⟨Nat.le_of_ble_eq_true rfl, Nat.le_of_ble_eq_true rfl⟩ (fun v153 u151 H locs hw152 hP hD hS => ?_)
          obtain ⟨w, tp156, en157, nx158, z159, J160, ta161, ou162, fl163⟩ := u151
          obtain ⟨hw152, h164, h165, h166, h167, hO⟩ := hw152
          have h164 : StQ y ((B 19)) Sh nn (J2 sp2) ht2 (f2) ((B 16)) on2 j9 ba2 x9 fl2 tp156 en157 nx158 z159 (J160 29) fl163 := h164
          have h165 : J160 34 = (J2 34) ∧ J160 35 = (J2 35) := h165
          have h166 : ta161 5 = nI fl163 := h166
          have h167 : fl163 ≤ fl2 ∧ tp156 ≤ 32000 := h167
          obtain rfl : v153 = none := hw152
          have hO : OKP G h0 a (upd (upd (upd (upd (upd (upd (upd (upd (upd (upd (upd (upd F 5 (nI cs)) 6 (nI rg)) 18 (nI ba2)) 19 (nI tp156)) 20 (nI x9)) 21 nx158) 22 (nI on2)) 23 en157) 24 rs2) 26 (nI ht2)) 27 ot2) 28 (nI lm)) (updR (updR (updR (updR R 5 (.ref pq)) 6 (.ref (it j9))) 7 (.ref (a sp2))) 8 (.ref (a op2))) z159 (updA (updA (updA B 30 f2) 32 ou162) 33 ta161) J160 K w := hO.to rfl
          refine W.widen (k := 0) (n := 0) (Nat.le_of_ble_eq_true rfl) (Nat.le_of_ble_eq_true rfl) ?_
          refine W.eq (g2 := F0 m 60 ls []) rfl ?_
          have hsj := spj hsp2 h165
          have hstg := StG.ofQ (it := it) h164 hsj.1 (LoE.same hle hsj) rfl
          refine lv_goto (tgt := 126) hx hb dX5_work_60 (by decide) ?_
          refine lv_aload_n hx hb dX5_work_126 rfl (lv_at hl 2 rfl) ?_
          refine c_get (v := .long z159) (C := RX5) (Tc := TX5) (N := 19) (ci := 4) hx hb hq pin_wsX50 hown hE hP hO 28 (sg_28 G h0 a _ _ _ _ _) rfl 14 (by decide) (hq _ pw_485) (fun _ h9 => h9) rfl dX5_work_127 ?_
          refine lv_lconst (v := 0) hx hb dX5_work_130 (by decide) ?_
          rcases StG.cases hstg with hstg | hstg | hstg
          · skip
            have hz7 := hstg.2
            rw [hz7]
            refine W.lcmp hx hb dX5_work_131 ?_
            refine lv_topi (fun x168 e169 => ?_)
            obtain rfl : x168 = 0 := e169.trans (by decide)
            refine lv_if_eq (tgt := 139) hx hb dX5_work_132 (by decide) (fun c170 => ?_) (fun c170 => absurd c170 (by decide))
            refine lv_aload_n hx hb dX5_work_139 rfl (lv_at hl 2 rfl) ?_
            refine lv_aload_n hx hb dX5_work_140 rfl (lv_at hl 2 rfl) ?_
            refine c_get (v := .int nx158) (C := RX5) (Tc := TX5) (N := 19) (ci := 4) hx hb hq pin_wsX50 hown hE hP hO 28 (sg_28 G h0 a _ _ _ _ _) rfl 13 (by decide) (hq _ pw_566) (fun _ h9 => h9) rfl dX5_work_141 ?_
            refine c_put (v := .int nx158) (ty := .int) (C := RX5) (Tc := TX5) (N := 19) (ci := 4) hx hb hq pin_wsX50 tyX5 tyX5_ok nmX5 hown hE hP hD hS hO 28 (sg_28 G h0 a _ _ _ _ _) rfl 12 (by decide) (hq _ pw_506) (fun _ h9 => h9) rfl (by decide +kernel) rfl rfl (Nat.le_of_ble_eq_true rfl) (sf_20 G h0 a _ _ _ _ _ nx158) dX5_work_144 (fun H locs w hP hD hS hO => ?_)
            refine lv_iinc (v := (nI (i2 + 1))) (lv' := [(1, .int (nI (i2 + 1))), (2, .int (nI ko)), (0, .ref (a 5))]) hx hb dX5_work_147 hl (k := 1) rfl (nI_1 i2) (by decide) rfl (fun ls hl => ?_)
            refine lv_goto (tgt := 2) hx hb dX5_work_150 (by decide) ?_
            have hO : OKP G h0 a (upd (upd (upd (upd (upd (upd (upd (upd (upd (upd (upd (upd F 5 (nI cs)) 6 (nI rg)) 18 (nI ba2)) 19 (nI tp156)) 20 nx158) 21 nx158) 22 (nI on2)) 23 en157) 24 rs2) 26 (nI ht2)) 27 ot2) 28 (nI lm)) (updR (updR (updR (updR R 5 (.ref pq)) 6 (va_rf (some (it j9)))) 7 (.ref (a sp2))) 8 (.ref (a op2))) z159 (updA (updA (updA B 30 f2) 32 ou162) 33 ta161) J160 K w := hO.to rfl
            exact ih_w (i2 + 1) tp156 ba2 on2 sp2 op2 ht2 fl163 ot2 en157 nx158 nx158 rs2 (some (it j9)) f2 ta161 ou162 z159 J160 _ _ _ _ (by omega) (by omega) (by omega) hsp2 (Or.inl hstg.1) h166 (LoE.same hle hsj) hP hD hS hO (lv_sub hl [0, 2] rfl)
          · skip
            obtain ⟨hs1, hs2, hs3, S7, n7, j7, x7, hs4, hs5, hs6, hs7⟩ := hstg
            have hz7 := hs1
            rw [hz7]
            refine W.lcmp hx hb dX5_work_131 ?_
            refine lv_topi (fun x171 e172 => ?_)
            obtain rfl : x171 = 0 := e172.trans (by decide)
            refine lv_if_eq (tgt := 139) hx hb dX5_work_132 (by decide) (fun c173 => ?_) (fun c173 => absurd c173 (by decide))
            refine lv_aload_n hx hb dX5_work_139 rfl (lv_at hl 2 rfl) ?_
            refine lv_aload_n hx hb dX5_work_140 rfl (lv_at hl 2 rfl) ?_
            refine c_get (v := .int nx158) (C := RX5) (Tc := TX5) (N := 19) (ci := 4) hx hb hq pin_wsX50 hown hE hP hO 28 (sg_28 G h0 a _ _ _ _ _) rfl 13 (by decide) (hq _ pw_566) (fun _ h9 => h9) rfl dX5_work_141 ?_
            refine c_put (v := .int nx158) (ty := .int) (C := RX5) (Tc := TX5) (N := 19) (ci := 4) hx hb hq pin_wsX50 tyX5 tyX5_ok nmX5 hown hE hP hD hS hO 28 (sg_28 G h0 a _ _ _ _ _) rfl 12 (by decide) (hq _ pw_506) (fun _ h9 => h9) rfl (by decide +kernel) rfl rfl (Nat.le_of_ble_eq_true rfl) (sf_20 G h0 a _ _ _ _ _ nx158) dX5_work_144 (fun H locs w hP hD hS hO => ?_)
            refine lv_iinc (v := (nI (i2 + 1))) (lv' := [(1, .int (nI (i2 + 1))), (2, .int (nI ko)), (0, .ref (a 5))]) hx hb dX5_work_147 hl (k := 1) rfl (nI_1 i2) (by decide) rfl (fun ls hl => ?_)
            refine lv_goto (tgt := 2) hx hb dX5_work_150 (by decide) ?_
            have hO : OKP G h0 a (upd (upd (upd (upd (upd (upd (upd (upd (upd (upd (upd (upd F 5 (nI cs)) 6 (nI rg)) 18 (nI ba2)) 19 (nI tp156)) 20 nx158) 21 nx158) 22 (nI on2)) 23 en157) 24 rs2) 26 (nI ht2)) 27 ot2) 28 (nI lm)) (updR (updR (updR (updR R 5 (.ref pq)) 6 (va_rf (some (it j9)))) 7 (.ref (a sp2))) 8 (.ref (a op2))) z159 (updA (updA (updA B 30 f2) 32 ou162) 33 ta161) J160 K w := hO.to rfl
            exact ih_w (i2 + 1) tp156 ba2 on2 sp2 op2 ht2 fl163 ot2 en157 nx158 nx158 rs2 (some (it j9)) f2 ta161 ou162 z159 J160 _ _ _ _ (by omega) (by omega) (by omega) hsp2 (Or.inr ⟨hs2, hs1, hs3, S7, n7, j7, x7, by rw [hs4], hs5, hs6, by omega⟩) h166 (LoE.same hle hsj) hP hD hS hO (lv_sub hl [0, 2] rfl)
          · skip
            obtain ⟨hs2, hs3, S7, n7, j7, hs4, hs5, hs6, hs7⟩ := hstg
            refine W.lcmp hx hb dX5_work_131 ?_
            refine lv_topi (fun x174 e175 => ?_)
            refine lv_if_eq (tgt := 139) hx hb dX5_work_132 (by decide) (fun c176 => (RaO.n0 hs5 ((lg_cmp_eq _ _).mp (e175.symm.trans c176))).elim) (fun c176 => ?_)
            refine lv_aload_n hx hb dX5_work_135 rfl (lv_at hl 2 rfl) ?_
            have hs2x := hs2
            obtain rfl : en157 = 5 := hs2
            rw [← hs4] at hO
            have hO : OKP G h0 a (upd (upd (upd (upd (upd (upd (upd (upd (upd (upd (upd (upd F 5 (nI cs)) 6 (nI rg)) 18 (nI ba2)) 19 (nI tp156)) 20 (nI x9)) 21 nx158) 22 (nI on2)) 23 5) 24 rs2) 26 (nI ht2)) 27 ot2) 28 (nI lm)) (updR (updR (updR (updR R 5 (.ref pq)) 6 (.ref (it j7))) 7 (.ref (a sp2))) 8 (.ref (a op2))) z159 (updA (updA (updA B 30 f2) 32 ou162) 33 ta161) J160 K w := hO.to rfl
            have hO : OKP G h0 a (upd (upd (upd (upd (upd (upd (upd (upd (upd (upd (upd (upd (upd (upd (upd (upd (upd (upd (upd (upd F 5 (nI cs)) 6 (nI rg)) 18 (nI ba2)) 19 (nI tp156)) 20 (nI x9)) 21 nx158) 22 (nI on2)) 23 5) 24 rs2) 26 (nI ht2)) 27 ot2) 28 (nI lm)) 5 (nI cs)) 6 (nI rg)) 18 (nI ba2)) 19 (nI tp156)) 20 (nI x9)) 22 (nI on2)) 23 5) 26 (nI ht2)) (updR (updR (updR (updR (updR (updR (updR (updR R 5 (.ref pq)) 6 (.ref (it j7))) 7 (.ref (a sp2))) 8 (.ref (a op2))) 5 (.ref pq)) 6 (.ref (it j7))) 7 (.ref (a sp2))) 8 (.ref (a op2))) z159 (updA (updA (updA B 30 f2) 32 ou162) 33 ta161) J160 K w := hO.to rfl
            obtain ⟨_, qr180, hqr181⟩ := hO.2.1 28 _ (sg_28 G h0 a _ _ _ _ _)
            refine pc_V0 (G := G) (As := []) (rest := []) hx hb hml hown hq hE hX pX0_al hP hD hS hA hl.1 (Y_goOutward l G h0 a (upd (upd (upd (upd (upd (upd (upd (upd (upd (upd (upd (upd F 5 (nI cs)) 6 (nI rg)) 18 (nI ba2)) 19 (nI tp156)) 20 (nI x9)) 21 nx158) 22 (nI on2)) 23 5) 24 rs2) 26 (nI ht2)) 27 ot2) 28 (nI lm)) (updR (updR (updR (updR R 5 (.ref pq)) 6 (.ref (it j7))) 7 (.ref (a sp2))) 8 (.ref (a op2))) z159 (updA (updA (updA B 30 f2) 32 ou162) 33 ta161) J160 K w y S7 n7 on2 j7 ba2 x9 tp156 sp2 op2 ht2 fl163 pq dr ml nd nm cp it s9 g rk cs rg (mT (B 16) f2 fl2 on2 x9) hsp2 hs6 hs5 hs3 (by omega) hs7 (by omega) hwp hps hrk hpy (by omega) hO) (gV pw_751 pw_752 pw_753 pw_539 pw_731) hV_X5_goOutward qr180 4 hqr181 rfl rfl rfl (Nat.le_of_ble_eq_true rfl) dX5_work_136 ⟨Nat.le_of_ble_eq_true rfl, Nat.le_of_ble_eq_true rfl⟩ ⟨Nat.le_of_ble_eq_true rfl, Nat.le_of_ble_eq_true rfl⟩ (fun v179 u177 H locs hw178 hP hD hS => ?_)
            obtain ⟨w, tp182, en183, nx184, pc185, z186, J187, ba188, on189, mr190⟩ := u177
            obtain ⟨hw178, h191, h192, h193, hO⟩ := hw178
            have h191 : OuG y it ((B 16)) ((B 19)) (f2) S7 n7 J187 sp2 ht2 fl163 (mT (B 16) f2 fl2 on2 x9) tp182 en183 nx184 z186 ba188 on189 mr190 := h191
            have h192 : LoE J187 sp2 op2 := h192
            have h193 : tp182 ≤ 32000 ∧ ba188 ≤ 32000 ∧ on189 ≤ 100 := h193
            obtain rfl : v179 = none := hw178
            have hO : OKP G h0 a (upd (upd (upd (upd (upd (upd (upd (upd (upd (upd (upd (upd F 5 (nI cs)) 6 (nI rg)) 18 (nI ba188)) 19 (nI tp182)) 20 pc185) 21 nx184) 22 (nI on189)) 23 en183) 24 rs2) 26 (nI ht2)) 27 ot2) 28 (nI lm)) (updR (updR (updR (updR R 5 (.ref pq)) 6 (.ref mr190)) 7 (.ref (a sp2))) 8 (.ref (a op2))) z186 (updA (updA (updA B 30 f2) 32 ou162) 33 ta161) J187 K w := hO.to rfl
            refine W.widen (k := 0) (n := 0) (Nat.le_of_ble_eq_true rfl) (Nat.le_of_ble_eq_true rfl) ?_
            refine W.eq (g2 := F0 m 139 ls []) rfl ?_
            refine lv_aload_n hx hb dX5_work_139 rfl (lv_at hl 2 rfl) ?_
            refine lv_aload_n hx hb dX5_work_140 rfl (lv_at hl 2 rfl) ?_
            refine c_get (v := .int nx184) (C := RX5) (Tc := TX5) (N := 19) (ci := 4) hx hb hq pin_wsX50 hown hE hP hO 28 (sg_28 G h0 a _ _ _ _ _) rfl 13 (by decide) (hq _ pw_566) (fun _ h9 => h9) rfl dX5_work_141 ?_
            refine c_put (v := .int nx184) (ty := .int) (C := RX5) (Tc := TX5) (N := 19) (ci := 4) hx hb hq pin_wsX50 tyX5 tyX5_ok nmX5 hown hE hP hD hS hO 28 (sg_28 G h0 a _ _ _ _ _) rfl 12 (by decide) (hq _ pw_506) (fun _ h9 => h9) rfl (by decide +kernel) rfl rfl (Nat.le_of_ble_eq_true rfl) (sf_20 G h0 a _ _ _ _ _ nx184) dX5_work_144 (fun H locs w hP hD hS hO => ?_)
            refine lv_iinc (v := (nI (i2 + 1))) (lv' := [(1, .int (nI (i2 + 1))), (2, .int (nI ko)), (0, .ref (a 5))]) hx hb dX5_work_147 hl (k := 1) rfl (nI_1 i2) (by decide) rfl (fun ls hl => ?_)
            refine lv_goto (tgt := 2) hx hb dX5_work_150 (by decide) ?_
            have hO : OKP G h0 a (upd (upd (upd (upd (upd (upd (upd (upd (upd (upd (upd (upd F 5 (nI cs)) 6 (nI rg)) 18 (nI ba188)) 19 (nI tp182)) 20 nx184) 21 nx184) 22 (nI on189)) 23 en183) 24 rs2) 26 (nI ht2)) 27 ot2) 28 (nI lm)) (updR (updR (updR (updR R 5 (.ref pq)) 6 (va_rf (some mr190))) 7 (.ref (a sp2))) 8 (.ref (a op2))) z186 (updA (updA (updA B 30 f2) 32 ou162) 33 ta161) J187 K w := hO.to rfl
            exact ih_w (i2 + 1) tp182 ba188 on189 sp2 op2 ht2 fl163 ot2 en183 nx184 nx184 rs2 (some mr190) f2 ta161 ou162 z186 J187 _ _ _ _ (by omega) (by omega) (by omega) hsp2 (by rcases h191 with z | ⟨z1, z2, j8, x8, z3, z4, z5, z6⟩; (exact Or.inl (by rw [z]; decide)); (exact Or.inr ⟨z1, z2, h192, S7, n7, j8, x8, by rw [z3], z4, z5, by omega⟩)) h166 h192 hP hD hS hO (lv_sub hl [0, 2] rfl)
  have hO : OKP G h0 a (upd (upd (upd (upd (upd (upd (upd (upd (upd (upd (upd (upd F 5 (nI cs)) 6 (nI rg)) 18 (nI ba)) 19 (nI tp)) 20 pcv) 21 (F 21)) 22 (nI on)) 23 en) 24 (F 24)) 26 (nI ht)) 27 (F 27)) 28 (nI lm)) (updR (updR (updR (updR R 5 (.ref pq)) 6 (va_rf mo)) 7 (.ref (a sp))) 8 (.ref (a op))) Z (updA (updA (updA B 30 (B 30)) 32 (B 32)) 33 (B 33)) J K w := hO.to rfl
  exact loop_w (400000000 + 1) 0 tp ba on sp op ht fl (F 27) en (F 21) pcv (F 24) mo (B 30) (B 33) (B 32) Z J _ _ _ _ (by omega) (by omega) (by omega) hsp hwk hfl hle0 hP hD hS hO (lv_sub hl [0, 1] rfl)
