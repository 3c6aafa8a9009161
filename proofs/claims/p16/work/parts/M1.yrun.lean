set_option maxHeartbeats 30000000 in
set_option maxRecDepth 100000 in
theorem J_runX (l : Launch) (G : pT) (h0 : Nat) (a : Nat → Nat) (F : Nat → Int32) (R : Nat → Value) (Z : Int64) (B : Nat → Nat → Int32) (J : Nat → Nat → Int64) (K : PK) (w : va_W) (x1 : Int32) (x2 : Int32) (y : TY) (sp : Nat) (op : Nat) (m9 : Nat) (k9 : Nat) (pq : Nat) (dr : Nat) (ml : Nat) (nd : Nat) (nm : Nat) (cp : Nat) (it : Nat → Nat) (s9 : Nat) (g : Nat → Nat → Nat) (rk : Nat → Nat) (cs : Nat) (rg : Nat) (hsp : (sp = 34 ∧ op = 35) ∨ (sp = 35 ∧ op = 34)) (hle : LoE J sp op) (hmx : MnX y K dr nd m9 k9) (hrg9 : rg ≤ 625) (hwp : WPr G K g) (hps : PgT G K g (a 1) pq dr ml nd nm cp it s9) (hrk : RkO K rk) (hpy : PrY y K B dr nd nm it cs rg) (hcs9 : cs ≤ 10000) (hO : OKP G h0 a (upd (upd F 5 (nI cs)) 6 (nI rg)) (updR (updR (updR R 0 (.ref pq)) 7 (.ref (a sp))) 8 (.ref (a op))) Z B J K w) (hl0 : l.stackTraces = false) : PY l G pX0 yX11_run cX11_run 3 (some .int) ({ frames := 42, cells := 1, slots := 6, locals := 4045 }) [.ref h0, .int x1, .int x2] w (fun (v : Option Value) (u : va_W × (Int32 × Int32 × Int32 × Int32 × Int32 × Nat × Nat × Nat × Nat × Nat × Nat × Int32 × Int64 × (Nat → Nat → Int64) × Option Nat × (Nat → Int32) × (Nat → Int32) × (Nat → Int32) × Nat)) => v = some (.int u.2.1) ∧ ((u.2.2.2.2.2.2.2.2.2.1 = 34 ∧ u.2.2.2.2.2.2.2.2.2.2.1 = 35) ∨ (u.2.2.2.2.2.2.2.2.2.1 = 35 ∧ u.2.2.2.2.2.2.2.2.2.2.1 = 34)) ∧ (8 ≤ u.2.2.2.2.2.2.2.2.2.2.2.1 ∧ u.2.2.2.2.2.2.2.2.2.2.2.1 ≤ 3008) ∧ (LoE u.2.2.2.2.2.2.2.2.2.2.2.2.2.2.1 u.2.2.2.2.2.2.2.2.2.1 u.2.2.2.2.2.2.2.2.2.2.1) ∧ (OKP G h0 a (upd (upd (upd (upd (upd (upd (upd (upd (upd (upd (upd (upd F 5 (nI cs)) 6 (nI rg)) 18 (nI u.2.2.2.2.2.2.2.1)) 19 (nI u.2.2.2.2.2.2.1)) 20 u.2.2.2.2.1) 21 u.2.2.2.1) 22 (nI u.2.2.2.2.2.2.2.2.1)) 23 u.2.2.1) 24 u.2.2.2.2.2.1) 26 (nI u.2.2.2.2.2.2.2.2.2.2.2.1)) 27 u.2.2.2.2.2.2.2.2.2.2.2.2.1) 28 (nI u.2.2.2.2.2.2.2.2.2.2.2.2.2.2.2.2.2.2.2)) (updR (updR (updR (updR (updR R 0 (.ref pq)) 5 (.ref pq)) 6 (va_rf u.2.2.2.2.2.2.2.2.2.2.2.2.2.2.2.1)) 7 (.ref (a u.2.2.2.2.2.2.2.2.2.1))) 8 (.ref (a u.2.2.2.2.2.2.2.2.2.2.1))) u.2.2.2.2.2.2.2.2.2.2.2.2.2.1 (updA (updA (updA B 30 u.2.2.2.2.2.2.2.2.2.2.2.2.2.2.2.2.2.2.1) 32 u.2.2.2.2.2.2.2.2.2.2.2.2.2.2.2.2.2.1) 33 u.2.2.2.2.2.2.2.2.2.2.2.2.2.2.2.2.1) u.2.2.2.2.2.2.2.2.2.2.2.2.2.2.1 K u.1)) (fun u => u.1) (fun (u : va_W) => u = w) (fun u => u) := by
  intro sz
  refine vx_ofW (cc := cX11_run) (maxL := 3) (ret := (some .int)) (by decide) rfl ?_
  intro p e s m args below meth c s₁ B9 hml hnt hv
  obtain ⟨rfl, hsz, hP, hD0, hE, hX⟩ := hv
  have hx := B9.exec
  have hb := B9.bytes
  have hr := B9.returns
  have hts := atoms_spec (ws := Cond.code yX11_run cX11_run 3 (some .int) :: pw) B9.pre
  have hq : ∀ w ∈ pw, w.before _ s = true := fun w h => hts w (List.mem_cons_of_mem _ h)
  have hown : s.vm.findClass RX11 = some m.cls := findClass_of_methodNamed B9.named
  have hlocks := B9.notSynchronized
  subst hsz
  have hD := hD0.self (sz := s.heap.size)
  have hA : ∀ q : Nat, s.heap.size ≤ q → va_A w s.heap.size q := fun q h => Or.inr h
  generalize va_A w s.heap.size = A at hD hE hA ⊢
  have hS : va_S A s.heap s.heap [] := va_S.rf
  have hl := lv_entry ([.ref h0, .int x1, .int x2]) (n := 3) (Nat.le_of_ble_eq_true rfl)
  rw [lg_entry_eq]
  generalize (lg_sl ([.ref h0, .int x1, .int x2]) ++ List.replicate (3 - (lg_sl ([.ref h0, .int x1, .int x2])).length) Slot.unset).toArray = ls at hl ⊢
  have hl : lv_has ls 3 [(0, .ref h0), (1, .int x1), (2, .int x2)] := hl
  have hpg := hps.1
  have hp1 := hpg.1
  have hp2 := hpg.2.1
  have hp3 := hpg.2.2.1
  have hp4 := hpg.2.2.2.1
  have hp5 := hpg.2.2.2.2.1
  have hp6 := hpg.2.2.2.2.2.1
  have hp8 := hpg.2.2.2.2.2.2.2.1
  have hp9 := hpg.2.2.2.2.2.2.2.2
  refine lv_iload_n hx hb dX11_run_0 rfl (lv_at hl 1 rfl) ?_
  refine lv_if_lt (tgt := 24) hx hb dX11_run_1 (by decide) (fun c1 => ?_) (fun c1 => ?_)
  · exact py_throw (Or.inr rfl) w rfl hx hb hl0 hown hq hE xf_IA pw_1401 pw_1402 (hE.2.2.1 13 (by decide)) xw_2 xb_2 hE.pc.2.1 xg_2 hnt hlocks hml hl.1 hP hD hS dX11_run_24 dX11_run_27 dX11_run_28 dX11_run_30 dX11_run_33 (Nat.le_of_ble_eq_true rfl) (Nat.le_of_ble_eq_true rfl) (by show 0 + 1 ≤ 1; omega) (by show 0 + 6 ≤ 6; omega) (by show 0 + 1 ≤ 1; omega) (by show 0 + 6 ≤ 6; omega)
  · obtain ⟨f9, hf91, hf92⟩ := nI_nn2 c1
    rw [hf91] at hl
    refine lv_iload_n hx hb dX11_run_4 rfl (lv_at hl 1 rfl) ?_
    refine lv_sipush (v := 20000) hx hb dX11_run_5 (by decide) ?_
    refine lv_icmp_gt (tgt := 24) hx hb dX11_run_8 (by decide) (fun c2 => ?_) (fun c2 => ?_)
    · have n3 : 20000 < f9 := (nI_ltI (a := 20000) (b := f9) (by omega) (by omega)).mp c2
      exact py_throw (Or.inr rfl) w rfl hx hb hl0 hown hq hE xf_IA pw_1401 pw_1402 (hE.2.2.1 13 (by decide)) xw_2 xb_2 hE.pc.2.1 xg_2 hnt hlocks hml hl.1 hP hD hS dX11_run_24 dX11_run_27 dX11_run_28 dX11_run_30 dX11_run_33 (Nat.le_of_ble_eq_true rfl) (Nat.le_of_ble_eq_true rfl) (by show 0 + 1 ≤ 1; omega) (by show 0 + 6 ≤ 6; omega) (by show 0 + 1 ≤ 1; omega) (by show 0 + 6 ≤ 6; omega)
    · have n4 : ¬ (20000 < f9) := fun h9 => c2 ((nI_ltI (a := 20000) (b := f9) (by omega) (by omega)).mpr h9)
      refine lv_iload_n hx hb dX11_run_11 rfl (lv_at hl 2 rfl) ?_
      refine lv_bipush (v := 10) hx hb dX11_run_12 (by decide) ?_
      refine lv_icmp_lt (tgt := 24) hx hb dX11_run_14 (by decide) (fun c5 => ?_) (fun c5 => ?_)
      · exact py_throw (Or.inr rfl) w rfl hx hb hl0 hown hq hE xf_IA pw_1401 pw_1402 (hE.2.2.1 13 (by decide)) xw_2 xb_2 hE.pc.2.1 xg_2 hnt hlocks hml hl.1 hP hD hS dX11_run_24 dX11_run_27 dX11_run_28 dX11_run_30 dX11_run_33 (Nat.le_of_ble_eq_true rfl) (Nat.le_of_ble_eq_true rfl) (by show 0 + 1 ≤ 1; omega) (by show 0 + 6 ≤ 6; omega) (by show 0 + 1 ≤ 1; omega) (by show 0 + 6 ≤ 6; omega)
      · obtain ⟨c9, hc91, hc92⟩ := nI_nn2 (lt10_nn c5)
        rw [hc91] at hl
        refine lv_iload_n hx hb dX11_run_17 rfl (lv_at hl 2 rfl) ?_
        refine lv_sipush (v := 3000) hx hb dX11_run_18 (by decide) ?_
        refine lv_icmp_le (tgt := 34) hx hb dX11_run_21 (by decide) (fun c6 => ?_) (fun c6 => ?_)
        · have n7 : c9 ≤ 3000 := (nI_leI (a := c9) (b := 3000) (by omega) (by omega)).mp c6
          refine lv_aload_n hx hb dX11_run_34 rfl (lv_at hl 0 rfl) ?_
          refine c_get (v := .ref pq) (C := RX11) (Tc := TX11) (N := 8) (ci := 8) hx hb hq pin_wsX110 hown hE hP hO 0 (sg_0 G h0 a _ _ _ _ _) rfl 7 (by decide) (hq _ pw_1342) (fun _ h9 => h9) rfl dX11_run_35 ?_
          refine lv_ifnonnull (tgt := 51) hx hb dX11_run_38 (by decide) ?_
          refine lv_aload_n hx hb dX11_run_51 rfl (lv_at hl 0 rfl) ?_
          refine c_get (v := .ref (a 5)) (C := RX11) (Tc := TX11) (N := 8) (ci := 8) hx hb hq pin_wsX110 hown hE hP hO 0 (sg_0 G h0 a _ _ _ _ _) rfl 6 (by decide) (hq _ pw_1321) (fun _ h9 => h9) rfl dX11_run_52 ?_
          refine lv_aload_n hx hb dX11_run_55 rfl (lv_at hl 0 rfl) ?_
          refine c_get (v := .ref pq) (C := RX11) (Tc := TX11) (N := 8) (ci := 8) hx hb hq pin_wsX110 hown hE hP hO 0 (sg_0 G h0 a _ _ _ _ _) rfl 7 (by decide) (hq _ pw_1342) (fun _ h9 => h9) rfl dX11_run_56 ?_
          refine lv_iload_n hx hb dX11_run_59 rfl (lv_at hl 1 rfl) ?_
          refine lv_iload_n hx hb dX11_run_60 rfl (lv_at hl 2 rfl) ?_
          have hO : OKP G h0 a (upd (upd (upd (upd F 5 (nI cs)) 6 (nI rg)) 5 (nI cs)) 6 (nI rg)) (updR (updR (updR (updR (updR R 0 (.ref pq)) 7 (.ref (a sp))) 8 (.ref (a op))) 7 (.ref (a sp))) 8 (.ref (a op))) Z B J K w := hO.to rfl
          obtain ⟨_, qr11, hqr12⟩ := hO.2.1 28 _ (sg_28 G h0 a _ _ _ _ _)
          refine pc_V0 (G := G) (As := [.ref pq, .int (nI f9), .int (nI c9)]) (rest := []) hx hb hml hown hq hE hX pX0_al hP hD hS hA hl.1 (Y_start l G h0 a (upd (upd F 5 (nI cs)) 6 (nI rg)) (updR (updR (updR R 0 (.ref pq)) 7 (.ref (a sp))) 8 (.ref (a op))) Z B J K w y sp op f9 c9 m9 k9 pq dr ml nd nm cp it s9 g rk cs rg hsp (by omega) (by omega) hle hmx hwp hps hrk hpy hcs9 hO) (gV pw_1403 pw_1404 pw_1405 pw_539 pw_593) hV_X5_start qr11 4 hqr12 rfl rfl rfl (Nat.le_of_ble_eq_true rfl) dX11_run_61 ⟨(by show 0 + 0 ≤ 1; omega), (by show 0 + 0 ≤ 6; omega)⟩ ⟨Nat.le_of_ble_eq_true rfl, Nat.le_of_ble_eq_true rfl⟩ (fun v10 u8 H locs hw9 hP hD hS => ?_)
          obtain ⟨w, tp13, ba14, on15, fl16, sp17, op18, ht19, en20, nx21, pc22, ot23, J24, mo25, ta26, fr27⟩ := u8
          obtain ⟨hw9, h28, h29, h30, h31, h32, hO⟩ := hw9
          have h28 : WkI y it ((B 16)) ((B 19)) fr27 J24 0 fl16 tp13 sp17 op18 ht19 en20 pc22 0 ba14 on15 mo25 := h28
          have h29 : tp13 ≤ 32000 ∧ ba14 ≤ 32000 ∧ on15 ≤ 100 ∧ (8 ≤ ht19 ∧ ht19 ≤ 3008) ∧ fl16 ≤ 20000 := h29
          have h30 : ta26 5 = nI fl16 := h30
          have h31 : (sp17 = 34 ∧ op18 = 35) ∨ (sp17 = 35 ∧ op18 = 34) := h31
          have h32 : LoE J24 sp17 op18 := h32
          obtain rfl : v10 = none := hw9
          have hO : OKP G h0 a (upd (upd (upd (upd (upd (upd (upd (upd (upd (upd (upd (upd F 5 (nI cs)) 6 (nI rg)) 18 (nI ba14)) 19 (nI tp13)) 20 pc22) 21 nx21) 22 (nI on15)) 23 en20) 24 0) 26 (nI ht19)) 27 ot23) 28 (nI (8 + c9))) (updR (updR (updR (updR (updR R 0 (.ref pq)) 5 (.ref pq)) 6 (va_rf mo25)) 7 (.ref (a sp17))) 8 (.ref (a op18))) 0 (updA (updA B 30 fr27) 33 ta26) J24 K w := hO.to rfl
          refine W.widen (k := 0) (n := 0) (Nat.le_of_ble_eq_true rfl) (Nat.le_of_ble_eq_true rfl) ?_
          refine W.eq (g2 := F0 m 64 ls []) rfl ?_
          refine lv_aload_n hx hb dX11_run_64 rfl (lv_at hl 0 rfl) ?_
          refine c_get (v := .ref (a 5)) (C := RX11) (Tc := TX11) (N := 8) (ci := 8) hx hb hq pin_wsX110 hown hE hP hO 0 (sg_0 G h0 a _ _ _ _ _) rfl 6 (by decide) (hq _ pw_1321) (fun _ h9 => h9) rfl dX11_run_65 ?_
          have hO : OKP G h0 a (upd (upd (upd (upd (upd (upd (upd (upd (upd (upd (upd (upd (upd (upd (upd (upd (upd (upd (upd (upd (upd F 5 (nI cs)) 6 (nI rg)) 18 (nI ba14)) 19 (nI tp13)) 20 pc22) 21 nx21) 22 (nI on15)) 23 en20) 24 0) 26 (nI ht19)) 27 ot23) 28 (nI (8 + c9))) 5 (nI cs)) 6 (nI rg)) 18 (nI ba14)) 19 (nI tp13)) 20 pc22) 22 (nI on15)) 23 en20) 26 (nI ht19)) 28 (nI (8 + c9))) (updR (updR (updR (updR (updR (updR (updR (updR (updR R 0 (.ref pq)) 5 (.ref pq)) 6 (va_rf mo25)) 7 (.ref (a sp17))) 8 (.ref (a op18))) 5 (.ref pq)) 6 (va_rf mo25)) 7 (.ref (a sp17))) 8 (.ref (a op18))) 0 (updA (updA B 30 fr27) 33 ta26) J24 K w := hO.to rfl
          obtain ⟨_, qr36, hqr37⟩ := hO.2.1 28 _ (sg_28 G h0 a _ _ _ _ _)
          refine pc_V0 (G := G) (As := []) (rest := []) hx hb hml hown hq hE hX pX0_al hP hD hS hA hl.1 (Y_work l G h0 a (upd (upd (upd (upd (upd (upd (upd (upd (upd (upd (upd (upd F 5 (nI cs)) 6 (nI rg)) 18 (nI ba14)) 19 (nI tp13)) 20 pc22) 21 nx21) 22 (nI on15)) 23 en20) 24 0) 26 (nI ht19)) 27 ot23) 28 (nI (8 + c9))) (updR (updR (updR (updR (updR R 0 (.ref pq)) 5 (.ref pq)) 6 (va_rf mo25)) 7 (.ref (a sp17))) 8 (.ref (a op18))) 0 (updA (updA B 30 fr27) 33 ta26) J24 K w y tp13 ba14 on15 sp17 op18 ht19 fl16 (8 + c9) en20 pc22 mo25 pq dr ml nd nm cp it s9 g rk cs rg h31 h28 (by omega) h30 (by omega) h32 hwp hps hrk hpy hcs9 hO) (gV pw_1406 pw_1407 pw_1408 pw_539 pw_754) hV_X5_work qr36 4 hqr37 rfl rfl rfl (Nat.le_of_ble_eq_true rfl) dX11_run_68 ⟨(by show 0 + 0 ≤ 1; omega), (by show 0 + 0 ≤ 6; omega)⟩ ⟨Nat.le_of_ble_eq_true rfl, Nat.le_of_ble_eq_true rfl⟩ (fun v35 u33 H locs hw34 hP hD hS => ?_)
          obtain ⟨w, r38, en39, nx40, pc41, rs42, tp43, ba44, on45, sp46, op47, ht48, ot49, z50, J51, mo52, ta53, ou54, fr55⟩ := u33
          obtain ⟨hw34, h56, h57, h58, hO⟩ := hw34
          have h56 : tp43 ≤ 32000 ∧ ba44 ≤ 32000 ∧ on45 ≤ 100 ∧ (8 ≤ ht48 ∧ ht48 ≤ 3008) := h56
          have h57 : (sp46 = 34 ∧ op47 = 35) ∨ (sp46 = 35 ∧ op47 = 34) := h57
          have h58 : LoE J51 sp46 op47 := h58
          obtain rfl : v35 = some (.int r38) := hw34
          have hO : OKP G h0 a (upd (upd (upd (upd (upd (upd (upd (upd (upd (upd (upd (upd F 5 (nI cs)) 6 (nI rg)) 18 (nI ba44)) 19 (nI tp43)) 20 pc41) 21 nx40) 22 (nI on45)) 23 en39) 24 rs42) 26 (nI ht48)) 27 ot49) 28 (nI (8 + c9))) (updR (updR (updR (updR (updR R 0 (.ref pq)) 5 (.ref pq)) 6 (va_rf mo52)) 7 (.ref (a sp46))) 8 (.ref (a op47))) z50 (updA (updA (updA B 30 fr55) 32 ou54) 33 ta53) J51 K w := hO.to rfl
          refine W.widen (k := 0) (n := 0) (Nat.le_of_ble_eq_true rfl) (Nat.le_of_ble_eq_true rfl) ?_
          refine W.eq (g2 := F0 m 71 ls [.int r38]) rfl ?_
          refine vx_ret ?_
          have hz59 : (sp46 = 34 ∧ op47 = 35) ∨ (sp46 = 35 ∧ op47 = 34) := h57
          have hz60 : 8 ≤ ht48 ∧ ht48 ≤ 3008 := h56.2.2.2
          have hz61 : LoE J51 sp46 op47 := h58
          have hO : OKP G h0 a (upd (upd (upd (upd (upd (upd (upd (upd (upd (upd (upd (upd F 5 (nI cs)) 6 (nI rg)) 18 (nI ba44)) 19 (nI tp43)) 20 pc41) 21 nx40) 22 (nI on45)) 23 en39) 24 rs42) 26 (nI ht48)) 27 ot49) 28 (nI (8 + c9))) (updR (updR (updR (updR (updR R 0 (.ref pq)) 5 (.ref pq)) 6 (va_rf mo52)) 7 (.ref (a sp46))) 8 (.ref (a op47))) z50 (updA (updA (updA B 30 fr55) 32 ou54) 33 ta53) J51 K w := hO.to rfl
          refine W.widen (k := 1) (n := 6) (by omega) (by omega) ?_
          exact W.iret (v := r38) hx hb hr (fun t99 ht99 hW99 => ⟨⟨_, (w, (r38, en39, nx40, pc41, rs42, tp43, ba44, on45, sp46, op47, ht48, ot49, z50, J51, mo52, ta53, ou54, fr55, (8 + c9))), rfl, ⟨rfl, hz59, hz60, hz61, hO⟩, by rw [ht99]; exact hP, hD⟩, hS.F ht99⟩) hS.2.2 dX11_run_71
        · have n62 : ¬ (c9 ≤ 3000) := fun h9 => c6 ((nI_leI (a := c9) (b := 3000) (by omega) (by omega)).mpr h9)
          exact py_throw (Or.inr rfl) w rfl hx hb hl0 hown hq hE xf_IA pw_1401 pw_1402 (hE.2.2.1 13 (by decide)) xw_2 xb_2 hE.pc.2.1 xg_2 hnt hlocks hml hl.1 hP hD hS dX11_run_24 dX11_run_27 dX11_run_28 dX11_run_30 dX11_run_33 (Nat.le_of_ble_eq_true rfl) (Nat.le_of_ble_eq_true rfl) (by show 0 + 1 ≤ 1; omega) (by show 0 + 6 ≤ 6; omega) (by show 0 + 1 ≤ 1; omega) (by show 0 + 6 ≤ 6; omega)
