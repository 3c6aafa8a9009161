set_option maxHeartbeats 20000000 in
set_option maxRecDepth 100000 in
theorem Y_moved (l : Launch) (G : pT) (h0 : Nat) (a : Nat → Nat) (F : Nat → Int32) (R : Nat → Value) (Z : Int64) (B : Nat → Nat → Int32) (J : Nat → Nat → Int64) (T : Nat → Nat) (Pi : Nat → va_E → Prop) (w : va_W) (x : Int64) (sp : Nat) (op : Nat) (ht : Nat) (ot : Nat) (c9 : Nat) (fi : Nat → Nat → Prop) (fdn : Nat → Nat) (fty : Nat → Nat → Nat) (Sh : Nat → Nat) (nn : Nat → Nat) (s0 : Nat → Int64) (ph : Nat → Nat) (hsp : (sp = 34 ∧ op = 35) ∨ (sp = 35 ∧ op = 34)) (hht : 8 ≤ ht ∧ ht ≤ 3008) (hgi : GI Sh nn s0 (J sp) (J op) ot c9 ph) (hgc : GC nn ph ht ot) (hht9 : HT fi fdn fty Sh nn s0 ht) (hvo : VO Sh x) (hc9 : c9 ≤ ot) (hO : OKW G h0 a (upd (upd F 26 (nI ht)) 27 (nI ot)) (updR (updR R 7 (.ref (a sp))) 8 (.ref (a op))) Z B J T Pi w) : PM l G pX0 yX3_moved cX3_moved 5 (some .long) ({ frames := 2, cells := 0, slots := 0, locals := 60 }) [.ref (a 28), .long x] w (fun (v : Option Value) (u : va_W × (Nat × Int64 × (Nat → Nat → Int64) × (Nat → Nat))) => v = some (.long u.2.2.1) ∧ (GI Sh nn s0 (u.2.2.2.1 sp) (u.2.2.2.1 op) u.2.1 c9 u.2.2.2.2) ∧ (GC nn u.2.2.2.2 ht u.2.1) ∧ (∀ q : Nat, ¬ ph q = 0 → u.2.2.2.2 q = ph q) ∧ (u.2.2.2.1 29 = J 29) ∧ (ot ≤ u.2.1 ∧ u.2.1 ≤ 3008) ∧ (MV u.2.2.2.2 x u.2.2.1) ∧ (∀ i : Nat, i < ot → u.2.2.2.1 op i = J op i) ∧ (OKW G h0 a (upd (upd F 26 (nI ht)) 27 (nI u.2.1)) (updR (updR R 7 (.ref (a sp))) 8 (.ref (a op))) Z B u.2.2.2.1 T Pi u.1)) (fun u => u.1) := by
  intro sz
  refine Met.ofW (cc := cX3_moved) (maxL := 5) (ret := (some .long)) (by decide) rfl ?_
  intro p e s m args below meth c s₁ B9 hml hv
  obtain ⟨rfl, hsz, hP, hD0, hE, hX⟩ := hv
  have hx := B9.exec
  have hb := B9.bytes
  have hr := B9.returns
  have hts := atoms_spec (ws := Cond.code yX3_moved cX3_moved 5 (some .long) :: pw) B9.pre
  have hq : ∀ w ∈ pw, w.before _ s = true := fun w h => hts w (List.mem_cons_of_mem _ h)
  have hown : s.vm.findClass RX3 = some m.cls := findClass_of_methodNamed B9.named
  have hlocks := B9.notSynchronized
  subst hsz
  have hD := hD0.self (sz := s.heap.size)
  have hA : ∀ q : Nat, s.heap.size ≤ q → va_A w s.heap.size q := fun q h => Or.inr h
  generalize va_A w s.heap.size = A at hD hE hA ⊢
  have hS : va_S A s.heap s.heap [] := va_S.rf
  have hl := lv_entry ([.ref (a 28), .long x]) (n := 5) (Nat.le_of_ble_eq_true rfl)
  rw [lg_entry_eq]
  generalize (lg_sl ([.ref (a 28), .long x]) ++ List.replicate (5 - (lg_sl ([.ref (a 28), .long x])).length) Slot.unset).toArray = ls at hl ⊢
  have hl : lv_has ls 5 [(0, .ref (a 28)), (1, .long x)] := hl
  have hot := hgi.1
  rcases hsp with ⟨rfl, rfl⟩ | ⟨rfl, rfl⟩
  · skip
    refine lv_lload_n hx hb dX3_moved_0 rfl (lv_at hl 1 rfl) ?_
    refine lv_l2i hx hb dX3_moved_1 rfl ?_
    refine lv_topi (fun x1 e2 => ?_)
    refine lv_istore_n (lv' := [(3, .int x1), (0, .ref (a 28)), (1, .long x)]) hx hb dX3_moved_2 rfl hl (by decide) rfl (fun ls hl => ?_)
    refine lv_lload_n hx hb dX3_moved_3 rfl (lv_at hl 2 rfl) ?_
    refine lv_ldc2 (v := 4294967296) hx hb hown (hq _ pw_424) dX3_moved_4 ?_
    refine lv_land hx hb dX3_moved_7 ?_
    refine lv_topl (fun x3 e4 => ?_)
    refine lv_lconst (v := 0) hx hb dX3_moved_8 (by decide) ?_
    refine W.lcmp hx hb dX3_moved_9 ?_
    refine lv_topi (fun x5 e6 => ?_)
    refine lv_if_eq (tgt := 27) hx hb dX3_moved_10 (by decide) (fun c7 => ?_) (fun c7 => ?_)
    · obtain ⟨y9, hy9⟩ := VO.nu hvo (by rw [← e4]; exact (lg_cmp_eq _ _).mp (e6.symm.trans c7))
      refine lv_lload_n hx hb dX3_moved_27 rfl (lv_at hl 2 rfl) ?_
      have hz8 : GI Sh nn s0 (J 34) (J 35) ot c9 ph := hgi
      have hz9 : GC nn ph ht ot := hgc
      have hz10 : ∀ q : Nat, ¬ ph q = 0 → ph q = ph q := (fun _ _ => rfl)
      have hz11 : J 29 = J 29 := rfl
      have hz12 : ot ≤ ot ∧ ot ≤ 3008 := (by omega)
      have hz13 : MV ph x x := (Or.inl ⟨⟨y9, hy9⟩, rfl⟩)
      have hz14 : ∀ i : Nat, i < ot → J 35 i = J 35 i := (fun _ _ => rfl)
      have hO : OKW G h0 a (upd (upd F 26 (nI ht)) 27 (nI ot)) (updR (updR R 7 (.ref (a 34))) 8 (.ref (a 35))) Z B J T Pi w := hO.to rfl
      exact W.lret (v := x) hx hb hr (fun t99 ht99 hW99 => ⟨⟨_, (w, (ot, x, J, ph)), rfl, ⟨rfl, hz8, hz9, hz10, hz11, hz12, hz13, hz14, hO⟩, by rw [ht99]; exact hP, hD⟩, hS.F ht99⟩) hS.2.2 dX3_moved_28
    · obtain ⟨p9, d9, hp9, hx9, hS9⟩ := VO.rf hvo (fun z => c7 (e6.trans ((lg_cmp_eq _ _).mpr (by rw [e4]; exact z))))
      have h31 : x1 = nI p9 := e2.trans (by rw [hx9]; exact rfV_int)
      rw [h31] at hl
      refine lv_iload_n hx hb dX3_moved_13 rfl (lv_at hl 0 rfl) ?_
      refine lv_bipush (v := 8) hx hb dX3_moved_14 (by decide) ?_
      refine lv_icmp_lt (tgt := 27) hx hb dX3_moved_16 (by decide) (fun c15 => ?_) (fun c15 => ?_)
      · have n16 : p9 < 8 := (nI_ltI (a := p9) (b := 8) (by omega) (by omega)).mp c15
        refine lv_lload_n hx hb dX3_moved_27 rfl (lv_at hl 2 rfl) ?_
        have hz17 : GI Sh nn s0 (J 34) (J 35) ot c9 ph := hgi
        have hz18 : GC nn ph ht ot := hgc
        have hz19 : ∀ q : Nat, ¬ ph q = 0 → ph q = ph q := (fun _ _ => rfl)
        have hz20 : J 29 = J 29 := rfl
        have hz21 : ot ≤ ot ∧ ot ≤ 3008 := (by omega)
        have hz22 : MV ph x x := (Or.inr (Or.inl ⟨p9, by omega, hx9, rfl⟩))
        have hz23 : ∀ i : Nat, i < ot → J 35 i = J 35 i := (fun _ _ => rfl)
        have hO : OKW G h0 a (upd (upd F 26 (nI ht)) 27 (nI ot)) (updR (updR R 7 (.ref (a 34))) 8 (.ref (a 35))) Z B J T Pi w := hO.to rfl
        exact W.lret (v := x) hx hb hr (fun t99 ht99 hW99 => ⟨⟨_, (w, (ot, x, J, ph)), rfl, ⟨rfl, hz17, hz18, hz19, hz20, hz21, hz22, hz23, hO⟩, by rw [ht99]; exact hP, hD⟩, hS.F ht99⟩) hS.2.2 dX3_moved_28
      · have n24 : ¬ (p9 < 8) := fun h9 => c15 ((nI_ltI (a := p9) (b := 8) (by omega) (by omega)).mpr h9)
        obtain ⟨hk1, hk2, hk3, hk4, hk5⟩ := hht9.2.2.2 p9 d9 hS9 (by omega)
        have hd9 : d9 < 128 := by rcases hk4 with w | w <;> omega
        refine lv_iload_n hx hb dX3_moved_19 rfl (lv_at hl 0 rfl) ?_
        refine lv_aload_n hx hb dX3_moved_20 rfl (lv_at hl 1 rfl) ?_
        refine c_get (v := .int (nI ht)) (C := RX3) (Tc := TX3) (N := 5) (ci := 3) hx hb hq pin_wsX30 hown hE hP hO 29 (sg_29 G h0 a _ _ _ _ _) rfl 2 (by decide) (hq _ pw_417) (fun _ h9 => h9) rfl dX3_moved_21 ?_
        refine lv_icmp_lt (tgt := 29) hx hb dX3_moved_24 (by decide) (fun c25 => ?_) (fun c25 => (by have n26 : ¬ (p9 < ht) := fun h9 => c25 ((nI_ltI (a := p9) (b := ht) (by omega) (by omega)).mpr h9); omega))
        by_cases hph : ph p9 = 0
        · skip
          have hsv : J 34 p9 = hdV (nn p9) d9 := (hgi.2.1 p9 hph).trans hk3
          obtain ⟨hrm, hgc1⟩ := GC.copy hgc hgi hht9 hS9 (by omega) hph
          refine lv_aload_n hx hb dX3_moved_29 rfl (lv_at hl 1 rfl) ?_
          refine c_get (v := .ref (a 34)) (C := RX3) (Tc := TX3) (N := 5) (ci := 3) hx hb hq pin_wsX30 hown hE hP hO 29 (sg_29 G h0 a _ _ _ _ _) rfl 0 (by decide) (hq _ pw_415) (fun _ h9 => h9) rfl dX3_moved_30 ?_
          refine lv_iload_n hx hb dX3_moved_33 rfl (lv_at hl 0 rfl) ?_
          refine c_ldl (f := (J 34)) (n := 3008) (t0 := 2) hx hb hE hP hO 30 (sg_30 G h0 a _ _ _ _ _) rfl (vp_in_nI (by omega) (by decide)) dX3_moved_34 ?_
          rw [(nI_clamp (show p9 < 2 ^ 31 by omega))]
          refine lv_topl (fun x27 e28 => ?_)
          rw [show x27 = (hdV (nn p9) d9) from e28.trans hsv]
          refine lv_lconst (v := 0) hx hb dX3_moved_35 (by decide) ?_
          refine W.lcmp hx hb dX3_moved_36 ?_
          refine lv_topi (fun x29 e30 => ?_)
          refine lv_if_ge (tgt := 52) hx hb dX3_moved_37 (by decide) (fun c31 => ?_) (fun c31 => (c31 (by rw [e30]; exact (lg_cmp_ge _ _).mpr (Int64.not_lt.mp (hdV_pos hk1 (by omega) (by omega)).1))).elim)
          refine lv_aload_n hx hb dX3_moved_52 rfl (lv_at hl 1 rfl) ?_
          refine c_get (v := .ref (a 34)) (C := RX3) (Tc := TX3) (N := 5) (ci := 3) hx hb hq pin_wsX30 hown hE hP hO 29 (sg_29 G h0 a _ _ _ _ _) rfl 0 (by decide) (hq _ pw_415) (fun _ h9 => h9) rfl dX3_moved_53 ?_
          refine lv_iload_n hx hb dX3_moved_56 rfl (lv_at hl 0 rfl) ?_
          refine c_ldl (f := (J 34)) (n := 3008) (t0 := 2) hx hb hE hP hO 30 (sg_30 G h0 a _ _ _ _ _) rfl (vp_in_nI (by omega) (by decide)) dX3_moved_57 ?_
          rw [(nI_clamp (show p9 < 2 ^ 31 by omega))]
          refine lv_topl (fun x32 e33 => ?_)
          rw [show x32 = (hdV (nn p9) d9) from e33.trans hsv]
          refine lv_bipush (v := 8) hx hb dX3_moved_58 (by decide) ?_
          refine lv_lshr hx hb dX3_moved_60 rfl ?_
          refine lv_topl (fun x34 e35 => ?_)
          refine lv_l2i hx hb dX3_moved_61 rfl ?_
          refine lv_topi (fun x36 e37 => ?_)
          rw [show x36 = nI (nn p9) from e37.trans (by rw [e35]; exact hdV_cells2 (by omega) (by omega))]
          refine lv_istore (lv' := [(4, .int (nI (nn p9))), (3, .int (nI p9)), (0, .ref (a 28)), (1, .long x)]) hx hb dX3_moved_62 hl (by decide) rfl (fun ls hl => ?_)
          refine lv_iload hx hb dX3_moved_64 (lv_at hl 0 rfl) ?_
          refine lv_if_le (tgt := 95) hx hb dX3_moved_66 (by decide) (fun c38 => (by have n39 : (nn p9) ≤ 0 := (nI_leI (a := (nn p9)) (b := 0) (by omega) (by omega)).mp c38; omega)) (fun c38 => ?_)
          refine lv_iload hx hb dX3_moved_69 (lv_at hl 0 rfl) ?_
          refine lv_aload_n hx hb dX3_moved_71 rfl (lv_at hl 2 rfl) ?_
          refine c_get (v := .int (nI ht)) (C := RX3) (Tc := TX3) (N := 5) (ci := 3) hx hb hq pin_wsX30 hown hE hP hO 29 (sg_29 G h0 a _ _ _ _ _) rfl 2 (by decide) (hq _ pw_417) (fun _ h9 => h9) rfl dX3_moved_72 ?_
          refine lv_iload_n hx hb dX3_moved_75 rfl (lv_at hl 1 rfl) ?_
          refine lv_isub hx hb dX3_moved_76 ?_
          refine lv_topi (fun x40 e41 => ?_)
          obtain rfl : x40 = nI (ht - p9) := e41.trans (nI_subN (a := p9) (b := ht) (by omega))
          refine lv_icmp_gt (tgt := 95) hx hb dX3_moved_77 (by decide) (fun c42 => (by have n43 : (ht - p9) < (nn p9) := (nI_ltI (a := (ht - p9)) (b := (nn p9)) (by omega) (by omega)).mp c42; omega)) (fun c42 => ?_)
          refine lv_iload hx hb dX3_moved_80 (lv_at hl 0 rfl) ?_
          refine lv_aload_n hx hb dX3_moved_82 rfl (lv_at hl 2 rfl) ?_
          refine c_get (v := .ref (a 35)) (C := RX3) (Tc := TX3) (N := 5) (ci := 3) hx hb hq pin_wsX30 hown hE hP hO 29 (sg_29 G h0 a _ _ _ _ _) rfl 1 (by decide) (hq _ pw_416) (fun _ h9 => h9) rfl dX3_moved_83 ?_
          refine c_len (n := 0) (t0 := 2) (v := 3008) hx hb hE hP hO 31 (sg_31 G h0 a _ _ _ _ _) rfl rfl dX3_moved_86 ?_
          refine lv_aload_n hx hb dX3_moved_87 rfl (lv_at hl 2 rfl) ?_
          refine c_get (v := .int (nI ot)) (C := RX3) (Tc := TX3) (N := 5) (ci := 3) hx hb hq pin_wsX30 hown hE hP hO 29 (sg_29 G h0 a _ _ _ _ _) rfl 3 (by decide) (hq _ pw_458) (fun _ h9 => h9) rfl dX3_moved_88 ?_
          refine lv_isub hx hb dX3_moved_91 ?_
          refine lv_topi (fun x44 e45 => ?_)
          obtain rfl : x44 = nI (3008 - ot) := e45.trans (nI_subN (a := ot) (b := 3008) (by omega))
          refine lv_icmp_le (tgt := 97) hx hb dX3_moved_92 (by decide) (fun c46 => ?_) (fun c46 => (by have n47 : ¬ ((nn p9) ≤ (3008 - ot)) := fun h9 => c46 ((nI_leI (a := (nn p9)) (b := (3008 - ot)) (by omega) (by omega)).mpr h9); omega))
          refine lv_aload_n hx hb dX3_moved_97 rfl (lv_at hl 2 rfl) ?_
          refine c_get (v := .ref (a 34)) (C := RX3) (Tc := TX3) (N := 5) (ci := 3) hx hb hq pin_wsX30 hown hE hP hO 29 (sg_29 G h0 a _ _ _ _ _) rfl 0 (by decide) (hq _ pw_415) (fun _ h9 => h9) rfl dX3_moved_98 ?_
          refine lv_iload_n hx hb dX3_moved_101 rfl (lv_at hl 1 rfl) ?_
          refine lv_aload_n hx hb dX3_moved_102 rfl (lv_at hl 2 rfl) ?_
          refine c_get (v := .ref (a 35)) (C := RX3) (Tc := TX3) (N := 5) (ci := 3) hx hb hq pin_wsX30 hown hE hP hO 29 (sg_29 G h0 a _ _ _ _ _) rfl 1 (by decide) (hq _ pw_416) (fun _ h9 => h9) rfl dX3_moved_103 ?_
          refine lv_aload_n hx hb dX3_moved_106 rfl (lv_at hl 2 rfl) ?_
          refine c_get (v := .int (nI ot)) (C := RX3) (Tc := TX3) (N := 5) (ci := 3) hx hb hq pin_wsX30 hown hE hP hO 29 (sg_29 G h0 a _ _ _ _ _) rfl 3 (by decide) (hq _ pw_458) (fun _ h9 => h9) rfl dX3_moved_107 ?_
          refine lv_iload hx hb dX3_moved_110 (lv_at hl 0 rfl) ?_
          refine c_copyl (own := RX3) hx hb (by rw [hml]; exact hl.1.symm) hown (hq _ pw_460) (hq _ pw_461) (hq _ pw_462) (hq _ pw_463) hE hP hD hS hO 30 31 (sg_30 G h0 a _ _ _ _ _) (sg_31 G h0 a _ _ _ _ _) (nI_pos (by omega)) (nI_pos (by omega)) (nI_pos (by omega)) (by rw [nI_clamp (show p9 < 2 ^ 31 by omega), nI_clamp (show (nn p9) < 2 ^ 31 by omega)]; omega) (by rw [nI_clamp (show ot < 2 ^ 31 by omega), nI_clamp (show (nn p9) < 2 ^ 31 by omega)]; omega) (Nat.le_of_ble_eq_true rfl) (by decide) (sj_35 G h0 a _ _ _ _ _ _) dX3_moved_112 (fun H locs w hP hD hS hO => ?_)
          rw [nI_clamp (show p9 < 2 ^ 31 by omega), nI_clamp (show ot < 2 ^ 31 by omega), nI_clamp (show (nn p9) < 2 ^ 31 by omega)] at hO
          have hO : OKW G h0 a (upd (upd F 26 (nI ht)) 27 (nI ot)) (updR (updR R 7 (.ref (a 34))) 8 (.ref (a 35))) Z B (updJ J 35 (va_cpy (J 34) (J 35) p9 ot (nn p9))) T Pi w := hO.to rfl
          refine lv_aload_n hx hb dX3_moved_115 rfl (lv_at hl 2 rfl) ?_
          refine c_get (v := .ref (a 34)) (C := RX3) (Tc := TX3) (N := 5) (ci := 3) hx hb hq pin_wsX30 hown hE hP hO 29 (sg_29 G h0 a _ _ _ _ _) rfl 0 (by decide) (hq _ pw_415) (fun _ h9 => h9) rfl dX3_moved_116 ?_
          refine lv_iload_n hx hb dX3_moved_119 rfl (lv_at hl 1 rfl) ?_
          refine lv_aload_n hx hb dX3_moved_120 rfl (lv_at hl 2 rfl) ?_
          refine c_get (v := .int (nI ot)) (C := RX3) (Tc := TX3) (N := 5) (ci := 3) hx hb hq pin_wsX30 hown hE hP hO 29 (sg_29 G h0 a _ _ _ _ _) rfl 3 (by decide) (hq _ pw_458) (fun _ h9 => h9) rfl dX3_moved_121 ?_
          refine lv_ineg hx hb dX3_moved_124 ?_
          refine lv_topi (fun x48 e49 => ?_)
          refine lv_i2l hx hb dX3_moved_125 rfl ?_
          refine lv_topl (fun x50 e51 => ?_)
          rw [show x50 = fwV ot from e51.trans (by rw [e49]; rfl)]
          refine c_stl (f := (J 34)) (n := 3008) (t0 := 2) hx hb hE hP hD hS hO 30 (sg_30 G h0 a _ _ _ _ _) rfl (vp_in_nI (by omega) (by decide)) (sj_34 G h0 a _ _ _ _ _ _) dX3_moved_126 (fun H locs w hP hD hS hO => ?_)
          rw [(nI_clamp (show p9 < 2 ^ 31 by omega))] at hO
          refine lv_aload_n hx hb dX3_moved_127 rfl (lv_at hl 2 rfl) ?_
          refine lv_dup hx hb dX3_moved_128 rfl ?_
          refine c_get (v := .int (nI ot)) (C := RX3) (Tc := TX3) (N := 5) (ci := 3) hx hb hq pin_wsX30 hown hE hP hO 29 (sg_29 G h0 a _ _ _ _ _) rfl 3 (by decide) (hq _ pw_458) (fun _ h9 => h9) rfl dX3_moved_129 ?_
          refine lv_iload hx hb dX3_moved_132 (lv_at hl 0 rfl) ?_
          refine lv_iadd hx hb dX3_moved_134 ?_
          refine lv_topi (fun x52 e53 => ?_)
          obtain rfl : x52 = nI (ot + (nn p9)) := e53.trans (nI_add (ot) ((nn p9)))
          refine c_put (v := .int (nI (ot + (nn p9)))) (ty := .int) (C := RX3) (Tc := TX3) (N := 5) (ci := 3) hx hb hq pin_wsX30 tyX3 tyX3_ok nmX3 hown hE hP hD hS hO 29 (sg_29 G h0 a _ _ _ _ _) rfl 3 (by decide) (hq _ pw_458) (fun _ h9 => h9) rfl (by decide +kernel) rfl rfl (Nat.le_of_ble_eq_true rfl) (sf_27 G h0 a _ _ _ _ _ (nI (ot + (nn p9)))) dX3_moved_135 (fun H locs w hP hD hS hO => ?_)
          refine lv_ldc2 (v := 4294967296) hx hb hown (hq _ pw_424) dX3_moved_138 ?_
          refine lv_aload_n hx hb dX3_moved_141 rfl (lv_at hl 2 rfl) ?_
          refine c_get (v := .int (nI (ot + (nn p9)))) (C := RX3) (Tc := TX3) (N := 5) (ci := 3) hx hb hq pin_wsX30 hown hE hP hO 29 (sg_29 G h0 a _ _ _ _ _) rfl 3 (by decide) (hq _ pw_458) (fun _ h9 => h9) rfl dX3_moved_142 ?_
          refine lv_iload hx hb dX3_moved_145 (lv_at hl 0 rfl) ?_
          refine lv_isub hx hb dX3_moved_147 ?_
          refine lv_topi (fun x54 e55 => ?_)
          obtain rfl : x54 = nI ((ot + (nn p9)) - (nn p9)) := e55.trans (nI_subN (a := (nn p9)) (b := (ot + (nn p9))) (by omega))
          rw [show ot + nn p9 - nn p9 = ot by omega]
          refine lv_i2l hx hb dX3_moved_148 rfl ?_
          refine lv_topl (fun x56 e57 => ?_)
          refine lv_lor hx hb dX3_moved_149 ?_
          refine lv_topl (fun x58 e59 => ?_)
          rw [show x58 = rfV ot from e59.trans (by rw [e57]; rfl)]
          have hz60 : GI Sh nn s0 ((updJ (updJ J 34 (vp_updL (J 34) p9 (fwV ot))) 35 (va_cpy (J 34) (J 35) p9 ot (nn p9))) 34) ((updJ (updJ J 34 (vp_updL (J 34) p9 (fwV ot))) 35 (va_cpy (J 34) (J 35) p9 ot (nn p9))) 35) (ot + nn p9) c9 (upM ph p9 ot) := (GI.copy hgi hht9 hS9 (by omega) hph hrm hc9 (fun i hi => (pk_cpy_in (by omega) (by omega)).trans (congrArg (J 34) (by omega))) (fun x hx9 => pk_cpy_out (Or.inl hx9)))
          have hz61 : GC nn (upM ph p9 ot) ht (ot + nn p9) := hgc1
          have hz62 : ∀ q : Nat, ¬ ph q = 0 → (upM ph p9 ot) q = ph q := (fun q hq => upM_ne (fun z => hq (by rw [z]; exact hph)))
          have hz63 : (updJ (updJ J 34 (vp_updL (J 34) p9 (fwV ot))) 35 (va_cpy (J 34) (J 35) p9 ot (nn p9))) 29 = J 29 := rfl
          have hz64 : ot ≤ (ot + nn p9) ∧ (ot + nn p9) ≤ 3008 := (by omega)
          have hz65 : MV (upM ph p9 ot) x (rfV ot) := (Or.inr (Or.inr ⟨p9, by omega, hp9, hx9, by rw [upM_eq]; omega, by rw [upM_eq]⟩))
          have hz66 : ∀ i : Nat, i < ot → (updJ (updJ J 34 (vp_updL (J 34) p9 (fwV ot))) 35 (va_cpy (J 34) (J 35) p9 ot (nn p9))) 35 i = J 35 i := (fun i hi => pk_cpy_out (Or.inl hi))
          have hO : OKW G h0 a (upd (upd F 26 (nI ht)) 27 (nI (ot + nn p9))) (updR (updR R 7 (.ref (a 34))) 8 (.ref (a 35))) Z B (updJ (updJ J 34 (vp_updL (J 34) p9 (fwV ot))) 35 (va_cpy (J 34) (J 35) p9 ot (nn p9))) T Pi w := hO.to rfl
          exact W.lret (v := (rfV ot)) hx hb hr (fun t99 ht99 hW99 => ⟨⟨_, (w, ((ot + nn p9), (rfV ot), (updJ (updJ J 34 (vp_updL (J 34) p9 (fwV ot))) 35 (va_cpy (J 34) (J 35) p9 ot (nn p9))), (upM ph p9 ot))), rfl, ⟨rfl, hz60, hz61, hz62, hz63, hz64, hz65, hz66, hO⟩, by rw [ht99]; exact hP, hD⟩, hS.F ht99⟩) hS.2.2 dX3_moved_150
        · skip
          obtain ⟨hz1, hz2, hz3, hz4, hz5, hz6, hz7⟩ := hgi.2.2.1 p9 hph
          have hsv : J 34 p9 = fwV (ph p9) := hz3
          refine lv_aload_n hx hb dX3_moved_29 rfl (lv_at hl 1 rfl) ?_
          refine c_get (v := .ref (a 34)) (C := RX3) (Tc := TX3) (N := 5) (ci := 3) hx hb hq pin_wsX30 hown hE hP hO 29 (sg_29 G h0 a _ _ _ _ _) rfl 0 (by decide) (hq _ pw_415) (fun _ h9 => h9) rfl dX3_moved_30 ?_
          refine lv_iload_n hx hb dX3_moved_33 rfl (lv_at hl 0 rfl) ?_
          refine c_ldl (f := (J 34)) (n := 3008) (t0 := 2) hx hb hE hP hO 30 (sg_30 G h0 a _ _ _ _ _) rfl (vp_in_nI (by omega) (by decide)) dX3_moved_34 ?_
          rw [(nI_clamp (show p9 < 2 ^ 31 by omega))]
          refine lv_topl (fun x67 e68 => ?_)
          rw [show x67 = (fwV (ph p9)) from e68.trans hsv]
          refine lv_lconst (v := 0) hx hb dX3_moved_35 (by decide) ?_
          refine W.lcmp hx hb dX3_moved_36 ?_
          refine lv_topi (fun x69 e70 => ?_)
          refine lv_if_ge (tgt := 52) hx hb dX3_moved_37 (by decide) (fun c71 => (absurd ((lg_cmp_ge _ _).mp (by rw [← e70]; exact c71)) (Int64.not_le.mpr (fwV_neg (by omega) (by omega))))) (fun c71 => ?_)
          refine lv_ldc2 (v := 4294967296) hx hb hown (hq _ pw_424) dX3_moved_40 ?_
          refine lv_aload_n hx hb dX3_moved_43 rfl (lv_at hl 1 rfl) ?_
          refine c_get (v := .ref (a 34)) (C := RX3) (Tc := TX3) (N := 5) (ci := 3) hx hb hq pin_wsX30 hown hE hP hO 29 (sg_29 G h0 a _ _ _ _ _) rfl 0 (by decide) (hq _ pw_415) (fun _ h9 => h9) rfl dX3_moved_44 ?_
          refine lv_iload_n hx hb dX3_moved_47 rfl (lv_at hl 0 rfl) ?_
          refine c_ldl (f := (J 34)) (n := 3008) (t0 := 2) hx hb hE hP hO 30 (sg_30 G h0 a _ _ _ _ _) rfl (vp_in_nI (by omega) (by decide)) dX3_moved_48 ?_
          rw [(nI_clamp (show p9 < 2 ^ 31 by omega))]
          refine lv_topl (fun x72 e73 => ?_)
          rw [show x72 = (fwV (ph p9)) from e73.trans hsv]
          refine lv_lneg hx hb dX3_moved_49 ?_
          refine lv_topl (fun x74 e75 => ?_)
          refine lv_lor hx hb dX3_moved_50 ?_
          refine lv_topl (fun x76 e77 => ?_)
          rw [show x76 = rfV (ph p9) from e77.trans (by rw [e75, fwV_back (by omega)]; rfl)]
          have hz78 : GI Sh nn s0 (J 34) (J 35) ot c9 ph := hgi
          have hz79 : GC nn ph ht ot := hgc
          have hz80 : ∀ q : Nat, ¬ ph q = 0 → ph q = ph q := (fun _ _ => rfl)
          have hz81 : J 29 = J 29 := rfl
          have hz82 : ot ≤ ot ∧ ot ≤ 3008 := (by omega)
          have hz83 : MV ph x (rfV (ph p9)) := (Or.inr (Or.inr ⟨p9, by omega, hp9, hx9, hph, rfl⟩))
          have hz84 : ∀ i : Nat, i < ot → J 35 i = J 35 i := (fun _ _ => rfl)
          have hO : OKW G h0 a (upd (upd F 26 (nI ht)) 27 (nI ot)) (updR (updR R 7 (.ref (a 34))) 8 (.ref (a 35))) Z B J T Pi w := hO.to rfl
          exact W.lret (v := (rfV (ph p9))) hx hb hr (fun t99 ht99 hW99 => ⟨⟨_, (w, (ot, (rfV (ph p9)), J, ph)), rfl, ⟨rfl, hz78, hz79, hz80, hz81, hz82, hz83, hz84, hO⟩, by rw [ht99]; exact hP, hD⟩, hS.F ht99⟩) hS.2.2 dX3_moved_51
  · skip
    refine lv_lload_n hx hb dX3_moved_0 rfl (lv_at hl 1 rfl) ?_
    refine lv_l2i hx hb dX3_moved_1 rfl ?_
    refine lv_topi (fun x85 e86 => ?_)
    refine lv_istore_n (lv' := [(3, .int x85), (0, .ref (a 28)), (1, .long x)]) hx hb dX3_moved_2 rfl hl (by decide) rfl (fun ls hl => ?_)
    refine lv_lload_n hx hb dX3_moved_3 rfl (lv_at hl 2 rfl) ?_
    refine lv_ldc2 (v := 4294967296) hx hb hown (hq _ pw_424) dX3_moved_4 ?_
    refine lv_land hx hb dX3_moved_7 ?_
    refine lv_topl (fun x87 e88 => ?_)
    refine lv_lconst (v := 0) hx hb dX3_moved_8 (by decide) ?_
    refine W.lcmp hx hb dX3_moved_9 ?_
    refine lv_topi (fun x89 e90 => ?_)
    refine lv_if_eq (tgt := 27) hx hb dX3_moved_10 (by decide) (fun c91 => ?_) (fun c91 => ?_)
    · obtain ⟨y9, hy9⟩ := VO.nu hvo (by rw [← e88]; exact (lg_cmp_eq _ _).mp (e90.symm.trans c91))
      refine lv_lload_n hx hb dX3_moved_27 rfl (lv_at hl 2 rfl) ?_
      have hz92 : GI Sh nn s0 (J 35) (J 34) ot c9 ph := hgi
      have hz93 : GC nn ph ht ot := hgc
      have hz94 : ∀ q : Nat, ¬ ph q = 0 → ph q = ph q := (fun _ _ => rfl)
      have hz95 : J 29 = J 29 := rfl
      have hz96 : ot ≤ ot ∧ ot ≤ 3008 := (by omega)
      have hz97 : MV ph x x := (Or.inl ⟨⟨y9, hy9⟩, rfl⟩)
      have hz98 : ∀ i : Nat, i < ot → J 34 i = J 34 i := (fun _ _ => rfl)
      have hO : OKW G h0 a (upd (upd F 26 (nI ht)) 27 (nI ot)) (updR (updR R 7 (.ref (a 35))) 8 (.ref (a 34))) Z B J T Pi w := hO.to rfl
      exact W.lret (v := x) hx hb hr (fun t99 ht99 hW99 => ⟨⟨_, (w, (ot, x, J, ph)), rfl, ⟨rfl, hz92, hz93, hz94, hz95, hz96, hz97, hz98, hO⟩, by rw [ht99]; exact hP, hD⟩, hS.F ht99⟩) hS.2.2 dX3_moved_28
    · obtain ⟨p9, d9, hp9, hx9, hS9⟩ := VO.rf hvo (fun z => c91 (e90.trans ((lg_cmp_eq _ _).mpr (by rw [e88]; exact z))))
      have h31 : x85 = nI p9 := e86.trans (by rw [hx9]; exact rfV_int)
      rw [h31] at hl
      refine lv_iload_n hx hb dX3_moved_13 rfl (lv_at hl 0 rfl) ?_
      refine lv_bipush (v := 8) hx hb dX3_moved_14 (by decide) ?_
      refine lv_icmp_lt (tgt := 27) hx hb dX3_moved_16 (by decide) (fun c99 => ?_) (fun c99 => ?_)
      · have n100 : p9 < 8 := (nI_ltI (a := p9) (b := 8) (by omega) (by omega)).mp c99
        refine lv_lload_n hx hb dX3_moved_27 rfl (lv_at hl 2 rfl) ?_
        have hz101 : GI Sh nn s0 (J 35) (J 34) ot c9 ph := hgi
        have hz102 : GC nn ph ht ot := hgc
        have hz103 : ∀ q : Nat, ¬ ph q = 0 → ph q = ph q := (fun _ _ => rfl)
        have hz104 : J 29 = J 29 := rfl
        have hz105 : ot ≤ ot ∧ ot ≤ 3008 := (by omega)
        have hz106 : MV ph x x := (Or.inr (Or.inl ⟨p9, by omega, hx9, rfl⟩))
        have hz107 : ∀ i : Nat, i < ot → J 34 i = J 34 i := (fun _ _ => rfl)
        have hO : OKW G h0 a (upd (upd F 26 (nI ht)) 27 (nI ot)) (updR (updR R 7 (.ref (a 35))) 8 (.ref (a 34))) Z B J T Pi w := hO.to rfl
        exact W.lret (v := x) hx hb hr (fun t99 ht99 hW99 => ⟨⟨_, (w, (ot, x, J, ph)), rfl, ⟨rfl, hz101, hz102, hz103, hz104, hz105, hz106, hz107, hO⟩, by rw [ht99]; exact hP, hD⟩, hS.F ht99⟩) hS.2.2 dX3_moved_28
      · have n108 : ¬ (p9 < 8) := fun h9 => c99 ((nI_ltI (a := p9) (b := 8) (by omega) (by omega)).mpr h9)
        obtain ⟨hk1, hk2, hk3, hk4, hk5⟩ := hht9.2.2.2 p9 d9 hS9 (by omega)
        have hd9 : d9 < 128 := by rcases hk4 with w | w <;> omega
        refine lv_iload_n hx hb dX3_moved_19 rfl (lv_at hl 0 rfl) ?_
        refine lv_aload_n hx hb dX3_moved_20 rfl (lv_at hl 1 rfl) ?_
        refine c_get (v := .int (nI ht)) (C := RX3) (Tc := TX3) (N := 5) (ci := 3) hx hb hq pin_wsX30 hown hE hP hO 29 (sg_29 G h0 a _ _ _ _ _) rfl 2 (by decide) (hq _ pw_417) (fun _ h9 => h9) rfl dX3_moved_21 ?_
        refine lv_icmp_lt (tgt := 29) hx hb dX3_moved_24 (by decide) (fun c109 => ?_) (fun c109 => (by have n110 : ¬ (p9 < ht) := fun h9 => c109 ((nI_ltI (a := p9) (b := ht) (by omega) (by omega)).mpr h9); omega))
        by_cases hph : ph p9 = 0
        · skip
          have hsv : J 35 p9 = hdV (nn p9) d9 := (hgi.2.1 p9 hph).trans hk3
          obtain ⟨hrm, hgc1⟩ := GC.copy hgc hgi hht9 hS9 (by omega) hph
          refine lv_aload_n hx hb dX3_moved_29 rfl (lv_at hl 1 rfl) ?_
          refine c_get (v := .ref (a 35)) (C := RX3) (Tc := TX3) (N := 5) (ci := 3) hx hb hq pin_wsX30 hown hE hP hO 29 (sg_29 G h0 a _ _ _ _ _) rfl 0 (by decide) (hq _ pw_415) (fun _ h9 => h9) rfl dX3_moved_30 ?_
          refine lv_iload_n hx hb dX3_moved_33 rfl (lv_at hl 0 rfl) ?_
          refine c_ldl (f := (J 35)) (n := 3008) (t0 := 2) hx hb hE hP hO 31 (sg_31 G h0 a _ _ _ _ _) rfl (vp_in_nI (by omega) (by decide)) dX3_moved_34 ?_
          rw [(nI_clamp (show p9 < 2 ^ 31 by omega))]
          refine lv_topl (fun x111 e112 => ?_)
          rw [show x111 = (hdV (nn p9) d9) from e112.trans hsv]
          refine lv_lconst (v := 0) hx hb dX3_moved_35 (by decide) ?_
          refine W.lcmp hx hb dX3_moved_36 ?_
          refine lv_topi (fun x113 e114 => ?_)
          refine lv_if_ge (tgt := 52) hx hb dX3_moved_37 (by decide) (fun c115 => ?_) (fun c115 => (c115 (by rw [e114]; exact (lg_cmp_ge _ _).mpr (Int64.not_lt.mp (hdV_pos hk1 (by omega) (by omega)).1))).elim)
          refine lv_aload_n hx hb dX3_moved_52 rfl (lv_at hl 1 rfl) ?_
          refine c_get (v := .ref (a 35)) (C := RX3) (Tc := TX3) (N := 5) (ci := 3) hx hb hq pin_wsX30 hown hE hP hO 29 (sg_29 G h0 a _ _ _ _ _) rfl 0 (by decide) (hq _ pw_415) (fun _ h9 => h9) rfl dX3_moved_53 ?_
          refine lv_iload_n hx hb dX3_moved_56 rfl (lv_at hl 0 rfl) ?_
          refine c_ldl (f := (J 35)) (n := 3008) (t0 := 2) hx hb hE hP hO 31 (sg_31 G h0 a _ _ _ _ _) rfl (vp_in_nI (by omega) (by decide)) dX3_moved_57 ?_
          rw [(nI_clamp (show p9 < 2 ^ 31 by omega))]
          refine lv_topl (fun x116 e117 => ?_)
          rw [show x116 = (hdV (nn p9) d9) from e117.trans hsv]
          refine lv_bipush (v := 8) hx hb dX3_moved_58 (by decide) ?_
          refine lv_lshr hx hb dX3_moved_60 rfl ?_
          refine lv_topl (fun x118 e119 => ?_)
          refine lv_l2i hx hb dX3_moved_61 rfl ?_
          refine lv_topi (fun x120 e121 => ?_)
          rw [show x120 = nI (nn p9) from e121.trans (by rw [e119]; exact hdV_cells2 (by omega) (by omega))]
          refine lv_istore (lv' := [(4, .int (nI (nn p9))), (3, .int (nI p9)), (0, .ref (a 28)), (1, .long x)]) hx hb dX3_moved_62 hl (by decide) rfl (fun ls hl => ?_)
          refine lv_iload hx hb dX3_moved_64 (lv_at hl 0 rfl) ?_
          refine lv_if_le (tgt := 95) hx hb dX3_moved_66 (by decide) (fun c122 => (by have n123 : (nn p9) ≤ 0 := (nI_leI (a := (nn p9)) (b := 0) (by omega) (by omega)).mp c122; omega)) (fun c122 => ?_)
          refine lv_iload hx hb dX3_moved_69 (lv_at hl 0 rfl) ?_
          refine lv_aload_n hx hb dX3_moved_71 rfl (lv_at hl 2 rfl) ?_
          refine c_get (v := .int (nI ht)) (C := RX3) (Tc := TX3) (N := 5) (ci := 3) hx hb hq pin_wsX30 hown hE hP hO 29 (sg_29 G h0 a _ _ _ _ _) rfl 2 (by decide) (hq _ pw_417) (fun _ h9 => h9) rfl dX3_moved_72 ?_
          refine lv_iload_n hx hb dX3_moved_75 rfl (lv_at hl 1 rfl) ?_
          refine lv_isub hx hb dX3_moved_76 ?_
          refine lv_topi (fun x124 e125 => ?_)
          obtain rfl : x124 = nI (ht - p9) := e125.trans (nI_subN (a := p9) (b := ht) (by omega))
          refine lv_icmp_gt (tgt := 95) hx hb dX3_moved_77 (by decide) (fun c126 => (by have n127 : (ht - p9) < (nn p9) := (nI_ltI (a := (ht - p9)) (b := (nn p9)) (by omega) (by omega)).mp c126; omega)) (fun c126 => ?_)
          refine lv_iload hx hb dX3_moved_80 (lv_at hl 0 rfl) ?_
          refine lv_aload_n hx hb dX3_moved_82 rfl (lv_at hl 2 rfl) ?_
          refine c_get (v := .ref (a 34)) (C := RX3) (Tc := TX3) (N := 5) (ci := 3) hx hb hq pin_wsX30 hown hE hP hO 29 (sg_29 G h0 a _ _ _ _ _) rfl 1 (by decide) (hq _ pw_416) (fun _ h9 => h9) rfl dX3_moved_83 ?_
          refine c_len (n := 0) (t0 := 2) (v := 3008) hx hb hE hP hO 30 (sg_30 G h0 a _ _ _ _ _) rfl rfl dX3_moved_86 ?_
          refine lv_aload_n hx hb dX3_moved_87 rfl (lv_at hl 2 rfl) ?_
          refine c_get (v := .int (nI ot)) (C := RX3) (Tc := TX3) (N := 5) (ci := 3) hx hb hq pin_wsX30 hown hE hP hO 29 (sg_29 G h0 a _ _ _ _ _) rfl 3 (by decide) (hq _ pw_458) (fun _ h9 => h9) rfl dX3_moved_88 ?_
          refine lv_isub hx hb dX3_moved_91 ?_
          refine lv_topi (fun x128 e129 => ?_)
          obtain rfl : x128 = nI (3008 - ot) := e129.trans (nI_subN (a := ot) (b := 3008) (by omega))
          refine lv_icmp_le (tgt := 97) hx hb dX3_moved_92 (by decide) (fun c130 => ?_) (fun c130 => (by have n131 : ¬ ((nn p9) ≤ (3008 - ot)) := fun h9 => c130 ((nI_leI (a := (nn p9)) (b := (3008 - ot)) (by omega) (by omega)).mpr h9); omega))
          refine lv_aload_n hx hb dX3_moved_97 rfl (lv_at hl 2 rfl) ?_
          refine c_get (v := .ref (a 35)) (C := RX3) (Tc := TX3) (N := 5) (ci := 3) hx hb hq pin_wsX30 hown hE hP hO 29 (sg_29 G h0 a _ _ _ _ _) rfl 0 (by decide) (hq _ pw_415) (fun _ h9 => h9) rfl dX3_moved_98 ?_
          refine lv_iload_n hx hb dX3_moved_101 rfl (lv_at hl 1 rfl) ?_
          refine lv_aload_n hx hb dX3_moved_102 rfl (lv_at hl 2 rfl) ?_
          refine c_get (v := .ref (a 34)) (C := RX3) (Tc := TX3) (N := 5) (ci := 3) hx hb hq pin_wsX30 hown hE hP hO 29 (sg_29 G h0 a _ _ _ _ _) rfl 1 (by decide) (hq _ pw_416) (fun _ h9 => h9) rfl dX3_moved_103 ?_
          refine lv_aload_n hx hb dX3_moved_106 rfl (lv_at hl 2 rfl) ?_
          refine c_get (v := .int (nI ot)) (C := RX3) (Tc := TX3) (N := 5) (ci := 3) hx hb hq pin_wsX30 hown hE hP hO 29 (sg_29 G h0 a _ _ _ _ _) rfl 3 (by decide) (hq _ pw_458) (fun _ h9 => h9) rfl dX3_moved_107 ?_
          refine lv_iload hx hb dX3_moved_110 (lv_at hl 0 rfl) ?_
          refine c_copyl (own := RX3) hx hb (by rw [hml]; exact hl.1.symm) hown (hq _ pw_460) (hq _ pw_461) (hq _ pw_462) (hq _ pw_463) hE hP hD hS hO 31 30 (sg_31 G h0 a _ _ _ _ _) (sg_30 G h0 a _ _ _ _ _) (nI_pos (by omega)) (nI_pos (by omega)) (nI_pos (by omega)) (by rw [nI_clamp (show p9 < 2 ^ 31 by omega), nI_clamp (show (nn p9) < 2 ^ 31 by omega)]; omega) (by rw [nI_clamp (show ot < 2 ^ 31 by omega), nI_clamp (show (nn p9) < 2 ^ 31 by omega)]; omega) (Nat.le_of_ble_eq_true rfl) (by decide) (sj_34 G h0 a _ _ _ _ _ _) dX3_moved_112 (fun H locs w hP hD hS hO => ?_)
          rw [nI_clamp (show p9 < 2 ^ 31 by omega), nI_clamp (show ot < 2 ^ 31 by omega), nI_clamp (show (nn p9) < 2 ^ 31 by omega)] at hO
          have hO : OKW G h0 a (upd (upd F 26 (nI ht)) 27 (nI ot)) (updR (updR R 7 (.ref (a 35))) 8 (.ref (a 34))) Z B (updJ J 34 (va_cpy (J 35) (J 34) p9 ot (nn p9))) T Pi w := hO.to rfl
          refine lv_aload_n hx hb dX3_moved_115 rfl (lv_at hl 2 rfl) ?_
          refine c_get (v := .ref (a 35)) (C := RX3) (Tc := TX3) (N := 5) (ci := 3) hx hb hq pin_wsX30 hown hE hP hO 29 (sg_29 G h0 a _ _ _ _ _) rfl 0 (by decide) (hq _ pw_415) (fun _ h9 => h9) rfl dX3_moved_116 ?_
          refine lv_iload_n hx hb dX3_moved_119 rfl (lv_at hl 1 rfl) ?_
          refine lv_aload_n hx hb dX3_moved_120 rfl (lv_at hl 2 rfl) ?_
          refine c_get (v := .int (nI ot)) (C := RX3) (Tc := TX3) (N := 5) (ci := 3) hx hb hq pin_wsX30 hown hE hP hO 29 (sg_29 G h0 a _ _ _ _ _) rfl 3 (by decide) (hq _ pw_458) (fun _ h9 => h9) rfl dX3_moved_121 ?_
          refine lv_ineg hx hb dX3_moved_124 ?_
          refine lv_topi (fun x132 e133 => ?_)
          refine lv_i2l hx hb dX3_moved_125 rfl ?_
          refine lv_topl (fun x134 e135 => ?_)
          rw [show x134 = fwV ot from e135.trans (by rw [e133]; rfl)]
          refine c_stl (f := (J 35)) (n := 3008) (t0 := 2) hx hb hE hP hD hS hO 31 (sg_31 G h0 a _ _ _ _ _) rfl (vp_in_nI (by omega) (by decide)) (sj_35 G h0 a _ _ _ _ _ _) dX3_moved_126 (fun H locs w hP hD hS hO => ?_)
          rw [(nI_clamp (show p9 < 2 ^ 31 by omega))] at hO
          refine lv_aload_n hx hb dX3_moved_127 rfl (lv_at hl 2 rfl) ?_
          refine lv_dup hx hb dX3_moved_128 rfl ?_
          refine c_get (v := .int (nI ot)) (C := RX3) (Tc := TX3) (N := 5) (ci := 3) hx hb hq pin_wsX30 hown hE hP hO 29 (sg_29 G h0 a _ _ _ _ _) rfl 3 (by decide) (hq _ pw_458) (fun _ h9 => h9) rfl dX3_moved_129 ?_
          refine lv_iload hx hb dX3_moved_132 (lv_at hl 0 rfl) ?_
          refine lv_iadd hx hb dX3_moved_134 ?_
          refine lv_topi (fun x136 e137 => ?_)
          obtain rfl : x136 = nI (ot + (nn p9)) := e137.trans (nI_add (ot) ((nn p9)))
          refine c_put (v := .int (nI (ot + (nn p9)))) (ty := .int) (C := RX3) (Tc := TX3) (N := 5) (ci := 3) hx hb hq pin_wsX30 tyX3 tyX3_ok nmX3 hown hE hP hD hS hO 29 (sg_29 G h0 a _ _ _ _ _) rfl 3 (by decide) (hq _ pw_458) (fun _ h9 => h9) rfl (by decide +kernel) rfl rfl (Nat.le_of_ble_eq_true rfl) (sf_27 G h0 a _ _ _ _ _ (nI (ot + (nn p9)))) dX3_moved_135 (fun H locs w hP hD hS hO => ?_)
          refine lv_ldc2 (v := 4294967296) hx hb hown (hq _ pw_424) dX3_moved_138 ?_
          refine lv_aload_n hx hb dX3_moved_141 rfl (lv_at hl 2 rfl) ?_
          refine c_get (v := .int (nI (ot + (nn p9)))) (C := RX3) (Tc := TX3) (N := 5) (ci := 3) hx hb hq pin_wsX30 hown hE hP hO 29 (sg_29 G h0 a _ _ _ _ _) rfl 3 (by decide) (hq _ pw_458) (fun _ h9 => h9) rfl dX3_moved_142 ?_
          refine lv_iload hx hb dX3_moved_145 (lv_at hl 0 rfl) ?_
          refine lv_isub hx hb dX3_moved_147 ?_
          refine lv_topi (fun x138 e139 => ?_)
          obtain rfl : x138 = nI ((ot + (nn p9)) - (nn p9)) := e139.trans (nI_subN (a := (nn p9)) (b := (ot + (nn p9))) (by omega))
          rw [show ot + nn p9 - nn p9 = ot by omega]
          refine lv_i2l hx hb dX3_moved_148 rfl ?_
          refine lv_topl (fun x140 e141 => ?_)
          refine lv_lor hx hb dX3_moved_149 ?_
          refine lv_topl (fun x142 e143 => ?_)
          rw [show x142 = rfV ot from e143.trans (by rw [e141]; rfl)]
          have hz144 : GI Sh nn s0 ((updJ (updJ J 34 (va_cpy (J 35) (J 34) p9 ot (nn p9))) 35 (vp_updL (J 35) p9 (fwV ot))) 35) ((updJ (updJ J 34 (va_cpy (J 35) (J 34) p9 ot (nn p9))) 35 (vp_updL (J 35) p9 (fwV ot))) 34) (ot + nn p9) c9 (upM ph p9 ot) := (GI.copy hgi hht9 hS9 (by omega) hph hrm hc9 (fun i hi => (pk_cpy_in (by omega) (by omega)).trans (congrArg (J 35) (by omega))) (fun x hx9 => pk_cpy_out (Or.inl hx9)))
          have hz145 : GC nn (upM ph p9 ot) ht (ot + nn p9) := hgc1
          have hz146 : ∀ q : Nat, ¬ ph q = 0 → (upM ph p9 ot) q = ph q := (fun q hq => upM_ne (fun z => hq (by rw [z]; exact hph)))
          have hz147 : (updJ (updJ J 34 (va_cpy (J 35) (J 34) p9 ot (nn p9))) 35 (vp_updL (J 35) p9 (fwV ot))) 29 = J 29 := rfl
          have hz148 : ot ≤ (ot + nn p9) ∧ (ot + nn p9) ≤ 3008 := (by omega)
          have hz149 : MV (upM ph p9 ot) x (rfV ot) := (Or.inr (Or.inr ⟨p9, by omega, hp9, hx9, by rw [upM_eq]; omega, by rw [upM_eq]⟩))
          have hz150 : ∀ i : Nat, i < ot → (updJ (updJ J 34 (va_cpy (J 35) (J 34) p9 ot (nn p9))) 35 (vp_updL (J 35) p9 (fwV ot))) 34 i = J 34 i := (fun i hi => pk_cpy_out (Or.inl hi))
          have hO : OKW G h0 a (upd (upd F 26 (nI ht)) 27 (nI (ot + nn p9))) (updR (updR R 7 (.ref (a 35))) 8 (.ref (a 34))) Z B (updJ (updJ J 34 (va_cpy (J 35) (J 34) p9 ot (nn p9))) 35 (vp_updL (J 35) p9 (fwV ot))) T Pi w := hO.to rfl
          exact W.lret (v := (rfV ot)) hx hb hr (fun t99 ht99 hW99 => ⟨⟨_, (w, ((ot + nn p9), (rfV ot), (updJ (updJ J 34 (va_cpy (J 35) (J 34) p9 ot (nn p9))) 35 (vp_updL (J 35) p9 (fwV ot))), (upM ph p9 ot))), rfl, ⟨rfl, hz144, hz145, hz146, hz147, hz148, hz149, hz150, hO⟩, by rw [ht99]; exact hP, hD⟩, hS.F ht99⟩) hS.2.2 dX3_moved_150
        · skip
          obtain ⟨hz1, hz2, hz3, hz4, hz5, hz6, hz7⟩ := hgi.2.2.1 p9 hph
          have hsv : J 35 p9 = fwV (ph p9) := hz3
          refine lv_aload_n hx hb dX3_moved_29 rfl (lv_at hl 1 rfl) ?_
          refine c_get (v := .ref (a 35)) (C := RX3) (Tc := TX3) (N := 5) (ci := 3) hx hb hq pin_wsX30 hown hE hP hO 29 (sg_29 G h0 a _ _ _ _ _) rfl 0 (by decide) (hq _ pw_415) (fun _ h9 => h9) rfl dX3_moved_30 ?_
          refine lv_iload_n hx hb dX3_moved_33 rfl (lv_at hl 0 rfl) ?_
          refine c_ldl (f := (J 35)) (n := 3008) (t0 := 2) hx hb hE hP hO 31 (sg_31 G h0 a _ _ _ _ _) rfl (vp_in_nI (by omega) (by decide)) dX3_moved_34 ?_
          rw [(nI_clamp (show p9 < 2 ^ 31 by omega))]
          refine lv_topl (fun x151 e152 => ?_)
          rw [show x151 = (fwV (ph p9)) from e152.trans hsv]
          refine lv_lconst (v := 0) hx hb dX3_moved_35 (by decide) ?_
          refine W.lcmp hx hb dX3_moved_36 ?_
          refine lv_topi (fun x153 e154 => ?_)
          refine lv_if_ge (tgt := 52) hx hb dX3_moved_37 (by decide) (fun c155 => (absurd ((lg_cmp_ge _ _).mp (by rw [← e154]; exact c155)) (Int64.not_le.mpr (fwV_neg (by omega) (by omega))))) (fun c155 => ?_)
          refine lv_ldc2 (v := 4294967296) hx hb hown (hq _ pw_424) dX3_moved_40 ?_
          refine lv_aload_n hx hb dX3_moved_43 rfl (lv_at hl 1 rfl) ?_
          refine c_get (v := .ref (a 35)) (C := RX3) (Tc := TX3) (N := 5) (ci := 3) hx hb hq pin_wsX30 hown hE hP hO 29 (sg_29 G h0 a _ _ _ _ _) rfl 0 (by decide) (hq _ pw_415) (fun _ h9 => h9) rfl dX3_moved_44 ?_
          refine lv_iload_n hx hb dX3_moved_47 rfl (lv_at hl 0 rfl) ?_
          refine c_ldl (f := (J 35)) (n := 3008) (t0 := 2) hx hb hE hP hO 31 (sg_31 G h0 a _ _ _ _ _) rfl (vp_in_nI (by omega) (by decide)) dX3_moved_48 ?_
          rw [(nI_clamp (show p9 < 2 ^ 31 by omega))]
          refine lv_topl (fun x156 e157 => ?_)
          rw [show x156 = (fwV (ph p9)) from e157.trans hsv]
          refine lv_lneg hx hb dX3_moved_49 ?_
          refine lv_topl (fun x158 e159 => ?_)
          refine lv_lor hx hb dX3_moved_50 ?_
          refine lv_topl (fun x160 e161 => ?_)
          rw [show x160 = rfV (ph p9) from e161.trans (by rw [e159, fwV_back (by omega)]; rfl)]
          have hz162 : GI Sh nn s0 (J 35) (J 34) ot c9 ph := hgi
          have hz163 : GC nn ph ht ot := hgc
          have hz164 : ∀ q : Nat, ¬ ph q = 0 → ph q = ph q := (fun _ _ => rfl)
          have hz165 : J 29 = J 29 := rfl
          have hz166 : ot ≤ ot ∧ ot ≤ 3008 := (by omega)
          have hz167 : MV ph x (rfV (ph p9)) := (Or.inr (Or.inr ⟨p9, by omega, hp9, hx9, hph, rfl⟩))
          have hz168 : ∀ i : Nat, i < ot → J 34 i = J 34 i := (fun _ _ => rfl)
          have hO : OKW G h0 a (upd (upd F 26 (nI ht)) 27 (nI ot)) (updR (updR R 7 (.ref (a 35))) 8 (.ref (a 34))) Z B J T Pi w := hO.to rfl
          exact W.lret (v := (rfV (ph p9))) hx hb hr (fun t99 ht99 hW99 => ⟨⟨_, (w, (ot, (rfV (ph p9)), J, ph)), rfl, ⟨rfl, hz162, hz163, hz164, hz165, hz166, hz167, hz168, hO⟩, by rw [ht99]; exact hP, hD⟩, hS.F ht99⟩) hS.2.2 dX3_moved_51
set_option maxHeartbeats 20000000 in
set_option maxRecDepth 100000 in
theorem Y_endCollecting (l : Launch) (G : pT) (h0 : Nat) (a : Nat → Nat) (F : Nat → Int32) (R : Nat → Value) (Z : Int64) (B : Nat → Nat → Int32) (J : Nat → Nat → Int64) (T : Nat → Nat) (Pi : Nat → va_E → Prop) (w : va_W) (sp : Nat) (op : Nat) (ht : Nat) (ot : Nat) (fi : Nat → Nat → Prop) (fdn : Nat → Nat) (fty : Nat → Nat → Nat) (Sh : Nat → Nat) (nn : Nat → Nat) (s0 : Nat → Int64) (ph : Nat → Nat) (hsp : (sp = 34 ∧ op = 35) ∨ (sp = 35 ∧ op = 34)) (hht : 8 ≤ ht ∧ ht ≤ 3008) (hgi : GI Sh nn s0 (J sp) (J op) ot 8 ph) (hgc : GC nn ph ht ot) (hht9 : HT fi fdn fty Sh nn s0 ht) (hO : OKW G h0 a (upd (upd F 26 (nI ht)) 27 (nI ot)) (updR (updR R 7 (.ref (a sp))) 8 (.ref (a op))) Z B J T Pi w) : PM l G pX0 yX3_endCollecting cX3_endCollecting 2 none ({ frames := 3, cells := 0, slots := 0, locals := 84 }) [.ref (a 28)] w (fun (v : Option Value) (u : va_W × (Nat × (Nat → Nat → Int64) × (Nat → Nat))) => v = none ∧ (GI Sh nn s0 (u.2.2.1 sp) (u.2.2.1 op) u.2.1 u.2.1 u.2.2.2) ∧ (GC nn u.2.2.2 ht u.2.1) ∧ (∀ q : Nat, ¬ ph q = 0 → u.2.2.2 q = ph q) ∧ (u.2.2.1 29 = J 29) ∧ (ot ≤ u.2.1 ∧ u.2.1 ≤ 3008) ∧ (OKW G h0 a (upd (upd F 26 (nI u.2.1)) 27 (nI u.2.1)) (updR (updR R 7 (.ref (a op))) 8 (.ref (a sp))) Z B u.2.2.1 T Pi u.1)) (fun u => u.1) := by
  intro sz
  refine Met.ofW (cc := cX3_endCollecting) (maxL := 2) (ret := none) (by decide) rfl ?_
  intro p e s m args below meth c s₁ B9 hml hv
  obtain ⟨rfl, hsz, hP, hD0, hE, hX⟩ := hv
  have hx := B9.exec
  have hb := B9.bytes
  have hr := B9.returns
  have hts := atoms_spec (ws := Cond.code yX3_endCollecting cX3_endCollecting 2 none :: pw) B9.pre
  have hq : ∀ w ∈ pw, w.before _ s = true := fun w h => hts w (List.mem_cons_of_mem _ h)
  have hown : s.vm.findClass RX3 = some m.cls := findClass_of_methodNamed B9.named
  have hlocks := B9.notSynchronized
  subst hsz
  have hD := hD0.self (sz := s.heap.size)
  have hA : ∀ q : Nat, s.heap.size ≤ q → va_A w s.heap.size q := fun q h => Or.inr h
  generalize va_A w s.heap.size = A at hD hE hA ⊢
  have hS : va_S A s.heap s.heap [] := va_S.rf
  have hl := lv_entry ([.ref (a 28)]) (n := 2) (Nat.le_of_ble_eq_true rfl)
  rw [lg_entry_eq]
  generalize (lg_sl ([.ref (a 28)]) ++ List.replicate (2 - (lg_sl ([.ref (a 28)])).length) Slot.unset).toArray = ls at hl ⊢
  have hl : lv_has ls 2 [(0, .ref (a 28))] := hl
  have hot := hgi.1
  rcases hsp with ⟨rfl, rfl⟩ | ⟨rfl, rfl⟩
  · skip
    refine lv_bipush (v := 8) hx hb dX3_endCollecting_0 (by decide) ?_
    refine lv_istore_n (lv' := [(1, .int 8), (0, .ref (a 28))]) hx hb dX3_endCollecting_2 rfl hl (by decide) rfl (fun ls hl => ?_)
    have loop_c : ∀ (n_c : Nat) (c2 : Nat) (ot2 : Nat) (J2 : Nat → Nat → Int64) (ph2 : Nat → Nat) (H : Heap) (locs : List Loc) (ls : Array Slot) (w : va_W), c2 ≤ 3008 → 3008 + 1 ≤ c2 + n_c → (8 ≤ c2 ∧ c2 ≤ ot2 ∧ ot ≤ ot2 ∧ ot2 ≤ 3008) → (GI Sh nn s0 (J2 34) (J2 35) ot2 c2 ph2) → (GC nn ph2 ht ot2) → (∀ q : Nat, ¬ ph q = 0 → ph2 q = ph q) → (J2 29 = J 29) → va_P G.1 pCl w H → va_D A w → va_S A s.heap H locs → OKW G h0 a (upd (upd F 26 (nI ht)) 27 (nI ot2)) (updR (updR R 7 (.ref (a 34))) 8 (.ref (a 35))) Z B J2 T Pi w → lv_has ls 2 [(1, .int (nI c2)), (0, .ref (a 28))] → W p l e (headSpec (Cond.code yX3_endCollecting cX3_endCollecting 2 none :: pw) ({ frames := 3, cells := 0, slots := 0, locals := 84 } : Room)).room s m ([.ref (a 28)] : List Value).toArray below meth c H locs 0 0 (MQ below (pQ G A (fun (v : Option Value) (u : va_W × (Nat × (Nat → Nat → Int64) × (Nat → Nat))) => v = none ∧ (GI Sh nn s0 (u.2.2.1 34) (u.2.2.1 35) u.2.1 u.2.1 u.2.2.2) ∧ (GC nn u.2.2.2 ht u.2.1) ∧ (∀ q : Nat, ¬ ph q = 0 → u.2.2.2 q = ph q) ∧ (u.2.2.1 29 = J 29) ∧ (ot ≤ u.2.1 ∧ u.2.1 ≤ 3008) ∧ (OKW G h0 a (upd (upd F 26 (nI u.2.1)) 27 (nI u.2.1)) (updR (updR R 7 (.ref (a 35))) 8 (.ref (a 34))) Z B u.2.2.1 T Pi u.1)) (fun u => u.1)) ([.ref (a 28)] : List Value).toArray s ({ frames := 3, cells := 0, slots := 0, locals := 84 } : Room).cells ({ frames := 3, cells := 0, slots := 0, locals := 84 } : Room).slots A) (F0 m 3 ls []) := by
      intro n_c
      induction n_c with
      | zero => intro c2 ot2 J2 ph2 H locs ls w hk_c hn_c; omega
      | succ n_c ih_c =>
        intro c2 ot2 J2 ph2 H locs ls w hk_c hn_c hc2 hgi2 hgc2 hgr2 hj2 hP hD hS hO hl
        refine lv_iload_n hx hb dX3_endCollecting_3 rfl (lv_at hl 0 rfl) ?_
        refine lv_aload_n hx hb dX3_endCollecting_4 rfl (lv_at hl 1 rfl) ?_
        refine c_get (v := .int (nI ot2)) (C := RX3) (Tc := TX3) (N := 5) (ci := 3) hx hb hq pin_wsX30 hown hE hP hO 29 (sg_29 G h0 a _ _ _ _ _) rfl 3 (by decide) (hq _ pw_458) (fun _ h9 => h9) rfl dX3_endCollecting_5 ?_
        refine lv_icmp_ge (tgt := 42) hx hb dX3_endCollecting_8 (by decide) (fun c1 => ?_) (fun c1 => ?_)
        · have n2 : ot2 ≤ c2 := (nI_leI (a := ot2) (b := c2) (by omega) (by omega)).mp c1
          refine lv_aload_n hx hb dX3_endCollecting_42 rfl (lv_at hl 1 rfl) ?_
          refine c_get (v := .ref (a 34)) (C := RX3) (Tc := TX3) (N := 5) (ci := 3) hx hb hq pin_wsX30 hown hE hP hO 29 (sg_29 G h0 a _ _ _ _ _) rfl 0 (by decide) (hq _ pw_415) (fun _ h9 => h9) rfl dX3_endCollecting_43 ?_
          refine lv_astore_n (lv' := [(1, .ref (a 34)), (0, .ref (a 28))]) hx hb dX3_endCollecting_46 rfl hl (by decide) rfl (fun ls hl => ?_)
          refine lv_aload_n hx hb dX3_endCollecting_47 rfl (lv_at hl 1 rfl) ?_
          refine lv_aload_n hx hb dX3_endCollecting_48 rfl (lv_at hl 1 rfl) ?_
          refine c_get (v := .ref (a 35)) (C := RX3) (Tc := TX3) (N := 5) (ci := 3) hx hb hq pin_wsX30 hown hE hP hO 29 (sg_29 G h0 a _ _ _ _ _) rfl 1 (by decide) (hq _ pw_416) (fun _ h9 => h9) rfl dX3_endCollecting_49 ?_
          refine c_put (v := .ref (a 35)) (ty := (.array .long)) (C := RX3) (Tc := TX3) (N := 5) (ci := 3) hx hb hq pin_wsX30 tyX3 tyX3_ok nmX3 hown hE hP hD hS hO 29 (sg_29 G h0 a _ _ _ _ _) rfl 0 (by decide) (hq _ pw_415) (fun _ h9 => h9) rfl (by decide +kernel) rfl rfl (Nat.le_of_ble_eq_true rfl) (sr_7 G h0 a _ _ _ _ _ (.ref (a 35))) dX3_endCollecting_52 (fun H locs w hP hD hS hO => ?_)
          refine lv_aload_n hx hb dX3_endCollecting_55 rfl (lv_at hl 1 rfl) ?_
          refine lv_aload_n hx hb dX3_endCollecting_56 rfl (lv_at hl 0 rfl) ?_
          refine c_put (v := .ref (a 34)) (ty := (.array .long)) (C := RX3) (Tc := TX3) (N := 5) (ci := 3) hx hb hq pin_wsX30 tyX3 tyX3_ok nmX3 hown hE hP hD hS hO 29 (sg_29 G h0 a _ _ _ _ _) rfl 1 (by decide) (hq _ pw_416) (fun _ h9 => h9) rfl (by decide +kernel) rfl rfl (Nat.le_of_ble_eq_true rfl) (sr_8 G h0 a _ _ _ _ _ (.ref (a 34))) dX3_endCollecting_57 (fun H locs w hP hD hS hO => ?_)
          refine lv_aload_n hx hb dX3_endCollecting_60 rfl (lv_at hl 1 rfl) ?_
          refine lv_aload_n hx hb dX3_endCollecting_61 rfl (lv_at hl 1 rfl) ?_
          refine c_get (v := .int (nI ot2)) (C := RX3) (Tc := TX3) (N := 5) (ci := 3) hx hb hq pin_wsX30 hown hE hP hO 29 (sg_29 G h0 a _ _ _ _ _) rfl 3 (by decide) (hq _ pw_458) (fun _ h9 => h9) rfl dX3_endCollecting_62 ?_
          refine c_put (v := .int (nI ot2)) (ty := .int) (C := RX3) (Tc := TX3) (N := 5) (ci := 3) hx hb hq pin_wsX30 tyX3 tyX3_ok nmX3 hown hE hP hD hS hO 29 (sg_29 G h0 a _ _ _ _ _) rfl 2 (by decide) (hq _ pw_417) (fun _ h9 => h9) rfl (by decide +kernel) rfl rfl (Nat.le_of_ble_eq_true rfl) (sf_26 G h0 a _ _ _ _ _ (nI ot2)) dX3_endCollecting_65 (fun H locs w hP hD hS hO => ?_)
          have hz3 : GI Sh nn s0 (J2 34) (J2 35) ot2 ot2 ph2 := (by rw [show c2 = ot2 by omega] at hgi2; exact hgi2)
          have hz4 : GC nn ph2 ht ot2 := hgc2
          have hz5 : ∀ q : Nat, ¬ ph q = 0 → ph2 q = ph q := hgr2
          have hz6 : J2 29 = J 29 := hj2
          have hz7 : ot ≤ ot2 ∧ ot2 ≤ 3008 := (by omega)
          have hO : OKW G h0 a (upd (upd F 26 (nI ot2)) 27 (nI ot2)) (updR (updR R 7 (.ref (a 35))) 8 (.ref (a 34))) Z B J2 T Pi w := hO.to rfl
          exact W.vret hx hb hr (fun t99 ht99 hW99 => ⟨⟨_, (w, (ot2, J2, ph2)), rfl, ⟨rfl, hz3, hz4, hz5, hz6, hz7, hO⟩, by rw [ht99]; exact hP, hD⟩, hS.F ht99⟩) hS.2.2 dX3_endCollecting_68
        · have n8 : ¬ (ot2 ≤ c2) := fun h9 => c1 ((nI_leI (a := ot2) (b := c2) (by omega) (by omega)).mpr h9)
          refine lv_iload_n hx hb dX3_endCollecting_11 rfl (lv_at hl 0 rfl) ?_
          refine lv_aload_n hx hb dX3_endCollecting_12 rfl (lv_at hl 1 rfl) ?_
          refine c_get (v := .ref (a 35)) (C := RX3) (Tc := TX3) (N := 5) (ci := 3) hx hb hq pin_wsX30 hown hE hP hO 29 (sg_29 G h0 a _ _ _ _ _) rfl 1 (by decide) (hq _ pw_416) (fun _ h9 => h9) rfl dX3_endCollecting_13 ?_
          refine c_len (n := 0) (t0 := 2) (v := 3008) hx hb hE hP hO 31 (sg_31 G h0 a _ _ _ _ _) rfl rfl dX3_endCollecting_16 ?_
          refine lv_icmp_ge (tgt := 42) hx hb dX3_endCollecting_17 (by decide) (fun c9 => (by have n10 : 3008 ≤ c2 := (nI_leI (a := 3008) (b := c2) (by omega) (by omega)).mp c9; omega)) (fun c9 => ?_)
          refine lv_aload_n hx hb dX3_endCollecting_20 rfl (lv_at hl 1 rfl) ?_
          refine c_get (v := .ref (a 35)) (C := RX3) (Tc := TX3) (N := 5) (ci := 3) hx hb hq pin_wsX30 hown hE hP hO 29 (sg_29 G h0 a _ _ _ _ _) rfl 1 (by decide) (hq _ pw_416) (fun _ h9 => h9) rfl dX3_endCollecting_21 ?_
          refine lv_iload_n hx hb dX3_endCollecting_24 rfl (lv_at hl 0 rfl) ?_
          refine lv_aload_n hx hb dX3_endCollecting_25 rfl (lv_at hl 1 rfl) ?_
          refine lv_aload_n hx hb dX3_endCollecting_26 rfl (lv_at hl 1 rfl) ?_
          refine c_get (v := .ref (a 35)) (C := RX3) (Tc := TX3) (N := 5) (ci := 3) hx hb hq pin_wsX30 hown hE hP hO 29 (sg_29 G h0 a _ _ _ _ _) rfl 1 (by decide) (hq _ pw_416) (fun _ h9 => h9) rfl dX3_endCollecting_27 ?_
          refine lv_iload_n hx hb dX3_endCollecting_30 rfl (lv_at hl 0 rfl) ?_
          refine c_ldl (f := (J2 35)) (n := 3008) (t0 := 2) hx hb hE hP hO 31 (sg_31 G h0 a _ _ _ _ _) rfl (vp_in_nI (by omega) (by decide)) dX3_endCollecting_31 ?_
          rw [(nI_clamp (show c2 < 2 ^ 31 by omega))]
          have hO : OKW G h0 a (upd (upd (upd (upd F 26 (nI ht)) 27 (nI ot2)) 26 (nI ht)) 27 (nI ot2)) (updR (updR (updR (updR R 7 (.ref (a 34))) 8 (.ref (a 35))) 7 (.ref (a 34))) 8 (.ref (a 35))) Z B J2 T Pi w := hO.to rfl
          obtain ⟨_, qr14, hqr15⟩ := hO.2.1 29 _ (sg_29 G h0 a _ _ _ _ _)
          refine pc_V0 (G := G) (As := [.long ((J2 35) c2)]) (rest := [.int (nI c2), .ref (a 35)]) hx hb hml hown hq hE hX pX0_al hP hD hS hA hl.1 (Y_moved l G h0 a (upd (upd F 26 (nI ht)) 27 (nI ot2)) (updR (updR R 7 (.ref (a 34))) 8 (.ref (a 35))) Z B J2 T Pi w ((J2 35) c2) 34 35 ht ot2 c2 fi fdn fty Sh nn s0 ph2 (by omega) (by omega) hgi2 hgc2 hht9 (GI.vo hgi2 hht9 (by omega) (by omega)) (by omega) hO) (gV pw_465 pw_466 pw_467 pw_440 pw_459) hV_X3_moved qr14 3 hqr15 rfl rfl rfl (Nat.le_of_ble_eq_true rfl) dX3_endCollecting_32 ⟨Nat.le_of_ble_eq_true rfl, Nat.le_of_ble_eq_true rfl⟩ ⟨Nat.le_of_ble_eq_true rfl, Nat.le_of_ble_eq_true rfl⟩ (fun v13 u11 H locs hw12 hP hD hS => ?_)
          obtain ⟨w, ot16, r17, J18, ph19⟩ := u11
          obtain ⟨hw12, h20, h21, h22, h23, h24, h25, h26, hO⟩ := hw12
          have h20 : GI Sh nn s0 (J18 34) (J18 35) ot16 c2 ph19 := h20
          have h21 : GC nn ph19 ht ot16 := h21
          have h22 : ∀ q : Nat, ¬ ph2 q = 0 → ph19 q = ph2 q := h22
          have h23 : J18 29 = (J2 29) := h23
          have h24 : ot2 ≤ ot16 ∧ ot16 ≤ 3008 := h24
          have h25 : MV ph19 ((J2 35) c2) r17 := h25
          have h26 : ∀ i : Nat, i < ot2 → J18 35 i = J2 35 i := h26
          obtain rfl : v13 = some (.long r17) := hw12
          have hO : OKW G h0 a (upd (upd F 26 (nI ht)) 27 (nI ot16)) (updR (updR R 7 (.ref (a 34))) 8 (.ref (a 35))) Z B J18 T Pi w := hO.to rfl
          refine W.widen (k := 0) (n := 0) (Nat.le_of_ble_eq_true rfl) (Nat.le_of_ble_eq_true rfl) ?_
          refine W.eq (g2 := F0 m 35 ls [.long r17, .int (nI c2), .ref (a 35)]) rfl ?_
          refine c_stl (f := (J18 35)) (n := 3008) (t0 := 2) hx hb hE hP hD hS hO 31 (sg_31 G h0 a _ _ _ _ _) rfl (vp_in_nI (by omega) (by decide)) (sj_35 G h0 a _ _ _ _ _ _) dX3_endCollecting_35 (fun H locs w hP hD hS hO => ?_)
          rw [(nI_clamp (show c2 < 2 ^ 31 by omega))] at hO
          refine lv_iinc (v := (nI (c2 + 1))) (lv' := [(1, .int (nI (c2 + 1))), (0, .ref (a 28))]) hx hb dX3_endCollecting_36 hl (k := 0) rfl (nI_1 c2) (by decide) rfl (fun ls hl => ?_)
          refine lv_goto (tgt := 3) hx hb dX3_endCollecting_39 (by decide) ?_
          have hO : OKW G h0 a (upd (upd F 26 (nI ht)) 27 (nI ot16)) (updR (updR R 7 (.ref (a 34))) 8 (.ref (a 35))) Z B (updJ J18 35 (vp_updL (J18 35) c2 r17)) T Pi w := hO.to rfl
          exact ih_c (c2 + 1) ot16 (updJ J18 35 (vp_updL (J18 35) c2 r17)) ph19 _ _ _ _ (by omega) (by omega) (by omega) (GI.scan h20 (by omega) (by omega) (by rw [h26 c2 (by omega)]; exact h25)) h21 (fun q hq => (h22 q (by rw [hgr2 q hq]; exact hq)).trans (hgr2 q hq)) (h23.trans hj2) hP hD hS hO (lv_sub hl [0, 1] rfl)
    have hO : OKW G h0 a (upd (upd F 26 (nI ht)) 27 (nI ot)) (updR (updR R 7 (.ref (a 34))) 8 (.ref (a 35))) Z B J T Pi w := hO.to rfl
    exact loop_c (3008 + 1) 8 ot J ph _ _ _ _ (by omega) (by omega) (by omega) hgi hgc (fun _ _ => rfl) rfl hP hD hS hO (lv_sub hl [0, 1] rfl)
  · skip
    refine lv_bipush (v := 8) hx hb dX3_endCollecting_0 (by decide) ?_
    refine lv_istore_n (lv' := [(1, .int 8), (0, .ref (a 28))]) hx hb dX3_endCollecting_2 rfl hl (by decide) rfl (fun ls hl => ?_)
    have loop_c : ∀ (n_c : Nat) (c2 : Nat) (ot2 : Nat) (J2 : Nat → Nat → Int64) (ph2 : Nat → Nat) (H : Heap) (locs : List Loc) (ls : Array Slot) (w : va_W), c2 ≤ 3008 → 3008 + 1 ≤ c2 + n_c → (8 ≤ c2 ∧ c2 ≤ ot2 ∧ ot ≤ ot2 ∧ ot2 ≤ 3008) → (GI Sh nn s0 (J2 35) (J2 34) ot2 c2 ph2) → (GC nn ph2 ht ot2) → (∀ q : Nat, ¬ ph q = 0 → ph2 q = ph q) → (J2 29 = J 29) → va_P G.1 pCl w H → va_D A w → va_S A s.heap H locs → OKW G h0 a (upd (upd F 26 (nI ht)) 27 (nI ot2)) (updR (updR R 7 (.ref (a 35))) 8 (.ref (a 34))) Z B J2 T Pi w → lv_has ls 2 [(1, .int (nI c2)), (0, .ref (a 28))] → W p l e (headSpec (Cond.code yX3_endCollecting cX3_endCollecting 2 none :: pw) ({ frames := 3, cells := 0, slots := 0, locals := 84 } : Room)).room s m ([.ref (a 28)] : List Value).toArray below meth c H locs 0 0 (MQ below (pQ G A (fun (v : Option Value) (u : va_W × (Nat × (Nat → Nat → Int64) × (Nat → Nat))) => v = none ∧ (GI Sh nn s0 (u.2.2.1 35) (u.2.2.1 34) u.2.1 u.2.1 u.2.2.2) ∧ (GC nn u.2.2.2 ht u.2.1) ∧ (∀ q : Nat, ¬ ph q = 0 → u.2.2.2 q = ph q) ∧ (u.2.2.1 29 = J 29) ∧ (ot ≤ u.2.1 ∧ u.2.1 ≤ 3008) ∧ (OKW G h0 a (upd (upd F 26 (nI u.2.1)) 27 (nI u.2.1)) (updR (updR R 7 (.ref (a 34))) 8 (.ref (a 35))) Z B u.2.2.1 T Pi u.1)) (fun u => u.1)) ([.ref (a 28)] : List Value).toArray s ({ frames := 3, cells := 0, slots := 0, locals := 84 } : Room).cells ({ frames := 3, cells := 0, slots := 0, locals := 84 } : Room).slots A) (F0 m 3 ls []) := by
      intro n_c
      induction n_c with
      | zero => intro c2 ot2 J2 ph2 H locs ls w hk_c hn_c; omega
      | succ n_c ih_c =>
        intro c2 ot2 J2 ph2 H locs ls w hk_c hn_c hc2 hgi2 hgc2 hgr2 hj2 hP hD hS hO hl
        refine lv_iload_n hx hb dX3_endCollecting_3 rfl (lv_at hl 0 rfl) ?_
        refine lv_aload_n hx hb dX3_endCollecting_4 rfl (lv_at hl 1 rfl) ?_
        refine c_get (v := .int (nI ot2)) (C := RX3) (Tc := TX3) (N := 5) (ci := 3) hx hb hq pin_wsX30 hown hE hP hO 29 (sg_29 G h0 a _ _ _ _ _) rfl 3 (by decide) (hq _ pw_458) (fun _ h9 => h9) rfl dX3_endCollecting_5 ?_
        refine lv_icmp_ge (tgt := 42) hx hb dX3_endCollecting_8 (by decide) (fun c27 => ?_) (fun c27 => ?_)
        · have n28 : ot2 ≤ c2 := (nI_leI (a := ot2) (b := c2) (by omega) (by omega)).mp c27
          refine lv_aload_n hx hb dX3_endCollecting_42 rfl (lv_at hl 1 rfl) ?_
          refine c_get (v := .ref (a 35)) (C := RX3) (Tc := TX3) (N := 5) (ci := 3) hx hb hq pin_wsX30 hown hE hP hO 29 (sg_29 G h0 a _ _ _ _ _) rfl 0 (by decide) (hq _ pw_415) (fun _ h9 => h9) rfl dX3_endCollecting_43 ?_
          refine lv_astore_n (lv' := [(1, .ref (a 35)), (0, .ref (a 28))]) hx hb dX3_endCollecting_46 rfl hl (by decide) rfl (fun ls hl => ?_)
          refine lv_aload_n hx hb dX3_endCollecting_47 rfl (lv_at hl 1 rfl) ?_
          refine lv_aload_n hx hb dX3_endCollecting_48 rfl (lv_at hl 1 rfl) ?_
          refine c_get (v := .ref (a 34)) (C := RX3) (Tc := TX3) (N := 5) (ci := 3) hx hb hq pin_wsX30 hown hE hP hO 29 (sg_29 G h0 a _ _ _ _ _) rfl 1 (by decide) (hq _ pw_416) (fun _ h9 => h9) rfl dX3_endCollecting_49 ?_
          refine c_put (v := .ref (a 34)) (ty := (.array .long)) (C := RX3) (Tc := TX3) (N := 5) (ci := 3) hx hb hq pin_wsX30 tyX3 tyX3_ok nmX3 hown hE hP hD hS hO 29 (sg_29 G h0 a _ _ _ _ _) rfl 0 (by decide) (hq _ pw_415) (fun _ h9 => h9) rfl (by decide +kernel) rfl rfl (Nat.le_of_ble_eq_true rfl) (sr_7 G h0 a _ _ _ _ _ (.ref (a 34))) dX3_endCollecting_52 (fun H locs w hP hD hS hO => ?_)
          refine lv_aload_n hx hb dX3_endCollecting_55 rfl (lv_at hl 1 rfl) ?_
          refine lv_aload_n hx hb dX3_endCollecting_56 rfl (lv_at hl 0 rfl) ?_
          refine c_put (v := .ref (a 35)) (ty := (.array .long)) (C := RX3) (Tc := TX3) (N := 5) (ci := 3) hx hb hq pin_wsX30 tyX3 tyX3_ok nmX3 hown hE hP hD hS hO 29 (sg_29 G h0 a _ _ _ _ _) rfl 1 (by decide) (hq _ pw_416) (fun _ h9 => h9) rfl (by decide +kernel) rfl rfl (Nat.le_of_ble_eq_true rfl) (sr_8 G h0 a _ _ _ _ _ (.ref (a 35))) dX3_endCollecting_57 (fun H locs w hP hD hS hO => ?_)
          refine lv_aload_n hx hb dX3_endCollecting_60 rfl (lv_at hl 1 rfl) ?_
          refine lv_aload_n hx hb dX3_endCollecting_61 rfl (lv_at hl 1 rfl) ?_
          refine c_get (v := .int (nI ot2)) (C := RX3) (Tc := TX3) (N := 5) (ci := 3) hx hb hq pin_wsX30 hown hE hP hO 29 (sg_29 G h0 a _ _ _ _ _) rfl 3 (by decide) (hq _ pw_458) (fun _ h9 => h9) rfl dX3_endCollecting_62 ?_
          refine c_put (v := .int (nI ot2)) (ty := .int) (C := RX3) (Tc := TX3) (N := 5) (ci := 3) hx hb hq pin_wsX30 tyX3 tyX3_ok nmX3 hown hE hP hD hS hO 29 (sg_29 G h0 a _ _ _ _ _) rfl 2 (by decide) (hq _ pw_417) (fun _ h9 => h9) rfl (by decide +kernel) rfl rfl (Nat.le_of_ble_eq_true rfl) (sf_26 G h0 a _ _ _ _ _ (nI ot2)) dX3_endCollecting_65 (fun H locs w hP hD hS hO => ?_)
          have hz29 : GI Sh nn s0 (J2 35) (J2 34) ot2 ot2 ph2 := (by rw [show c2 = ot2 by omega] at hgi2; exact hgi2)
          have hz30 : GC nn ph2 ht ot2 := hgc2
          have hz31 : ∀ q : Nat, ¬ ph q = 0 → ph2 q = ph q := hgr2
          have hz32 : J2 29 = J 29 := hj2
          have hz33 : ot ≤ ot2 ∧ ot2 ≤ 3008 := (by omega)
          have hO : OKW G h0 a (upd (upd F 26 (nI ot2)) 27 (nI ot2)) (updR (updR R 7 (.ref (a 34))) 8 (.ref (a 35))) Z B J2 T Pi w := hO.to rfl
          exact W.vret hx hb hr (fun t99 ht99 hW99 => ⟨⟨_, (w, (ot2, J2, ph2)), rfl, ⟨rfl, hz29, hz30, hz31, hz32, hz33, hO⟩, by rw [ht99]; exact hP, hD⟩, hS.F ht99⟩) hS.2.2 dX3_endCollecting_68
        · have n34 : ¬ (ot2 ≤ c2) := fun h9 => c27 ((nI_leI (a := ot2) (b := c2) (by omega) (by omega)).mpr h9)
          refine lv_iload_n hx hb dX3_endCollecting_11 rfl (lv_at hl 0 rfl) ?_
          refine lv_aload_n hx hb dX3_endCollecting_12 rfl (lv_at hl 1 rfl) ?_
          refine c_get (v := .ref (a 34)) (C := RX3) (Tc := TX3) (N := 5) (ci := 3) hx hb hq pin_wsX30 hown hE hP hO 29 (sg_29 G h0 a _ _ _ _ _) rfl 1 (by decide) (hq _ pw_416) (fun _ h9 => h9) rfl dX3_endCollecting_13 ?_
          refine c_len (n := 0) (t0 := 2) (v := 3008) hx hb hE hP hO 30 (sg_30 G h0 a _ _ _ _ _) rfl rfl dX3_endCollecting_16 ?_
          refine lv_icmp_ge (tgt := 42) hx hb dX3_endCollecting_17 (by decide) (fun c35 => (by have n36 : 3008 ≤ c2 := (nI_leI (a := 3008) (b := c2) (by omega) (by omega)).mp c35; omega)) (fun c35 => ?_)
          refine lv_aload_n hx hb dX3_endCollecting_20 rfl (lv_at hl 1 rfl) ?_
          refine c_get (v := .ref (a 34)) (C := RX3) (Tc := TX3) (N := 5) (ci := 3) hx hb hq pin_wsX30 hown hE hP hO 29 (sg_29 G h0 a _ _ _ _ _) rfl 1 (by decide) (hq _ pw_416) (fun _ h9 => h9) rfl dX3_endCollecting_21 ?_
          refine lv_iload_n hx hb dX3_endCollecting_24 rfl (lv_at hl 0 rfl) ?_
          refine lv_aload_n hx hb dX3_endCollecting_25 rfl (lv_at hl 1 rfl) ?_
          refine lv_aload_n hx hb dX3_endCollecting_26 rfl (lv_at hl 1 rfl) ?_
          refine c_get (v := .ref (a 34)) (C := RX3) (Tc := TX3) (N := 5) (ci := 3) hx hb hq pin_wsX30 hown hE hP hO 29 (sg_29 G h0 a _ _ _ _ _) rfl 1 (by decide) (hq _ pw_416) (fun _ h9 => h9) rfl dX3_endCollecting_27 ?_
          refine lv_iload_n hx hb dX3_endCollecting_30 rfl (lv_at hl 0 rfl) ?_
          refine c_ldl (f := (J2 34)) (n := 3008) (t0 := 2) hx hb hE hP hO 30 (sg_30 G h0 a _ _ _ _ _) rfl (vp_in_nI (by omega) (by decide)) dX3_endCollecting_31 ?_
          rw [(nI_clamp (show c2 < 2 ^ 31 by omega))]
          have hO : OKW G h0 a (upd (upd (upd (upd F 26 (nI ht)) 27 (nI ot2)) 26 (nI ht)) 27 (nI ot2)) (updR (updR (updR (updR R 7 (.ref (a 35))) 8 (.ref (a 34))) 7 (.ref (a 35))) 8 (.ref (a 34))) Z B J2 T Pi w := hO.to rfl
          obtain ⟨_, qr40, hqr41⟩ := hO.2.1 29 _ (sg_29 G h0 a _ _ _ _ _)
          refine pc_V0 (G := G) (As := [.long ((J2 34) c2)]) (rest := [.int (nI c2), .ref (a 34)]) hx hb hml hown hq hE hX pX0_al hP hD hS hA hl.1 (Y_moved l G h0 a (upd (upd F 26 (nI ht)) 27 (nI ot2)) (updR (updR R 7 (.ref (a 35))) 8 (.ref (a 34))) Z B J2 T Pi w ((J2 34) c2) 35 34 ht ot2 c2 fi fdn fty Sh nn s0 ph2 (by omega) (by omega) hgi2 hgc2 hht9 (GI.vo hgi2 hht9 (by omega) (by omega)) (by omega) hO) (gV pw_465 pw_466 pw_467 pw_440 pw_459) hV_X3_moved qr40 3 hqr41 rfl rfl rfl (Nat.le_of_ble_eq_true rfl) dX3_endCollecting_32 ⟨Nat.le_of_ble_eq_true rfl, Nat.le_of_ble_eq_true rfl⟩ ⟨Nat.le_of_ble_eq_true rfl, Nat.le_of_ble_eq_true rfl⟩ (fun v39 u37 H locs hw38 hP hD hS => ?_)
          obtain ⟨w, ot42, r43, J44, ph45⟩ := u37
          obtain ⟨hw38, h46, h47, h48, h49, h50, h51, h52, hO⟩ := hw38
          have h46 : GI Sh nn s0 (J44 35) (J44 34) ot42 c2 ph45 := h46
          have h47 : GC nn ph45 ht ot42 := h47
          have h48 : ∀ q : Nat, ¬ ph2 q = 0 → ph45 q = ph2 q := h48
          have h49 : J44 29 = (J2 29) := h49
          have h50 : ot2 ≤ ot42 ∧ ot42 ≤ 3008 := h50
          have h51 : MV ph45 ((J2 34) c2) r43 := h51
          have h52 : ∀ i : Nat, i < ot2 → J44 34 i = J2 34 i := h52
          obtain rfl : v39 = some (.long r43) := hw38
          have hO : OKW G h0 a (upd (upd F 26 (nI ht)) 27 (nI ot42)) (updR (updR R 7 (.ref (a 35))) 8 (.ref (a 34))) Z B J44 T Pi w := hO.to rfl
          refine W.widen (k := 0) (n := 0) (Nat.le_of_ble_eq_true rfl) (Nat.le_of_ble_eq_true rfl) ?_
          refine W.eq (g2 := F0 m 35 ls [.long r43, .int (nI c2), .ref (a 34)]) rfl ?_
          refine c_stl (f := (J44 34)) (n := 3008) (t0 := 2) hx hb hE hP hD hS hO 30 (sg_30 G h0 a _ _ _ _ _) rfl (vp_in_nI (by omega) (by decide)) (sj_34 G h0 a _ _ _ _ _ _) dX3_endCollecting_35 (fun H locs w hP hD hS hO => ?_)
          rw [(nI_clamp (show c2 < 2 ^ 31 by omega))] at hO
          refine lv_iinc (v := (nI (c2 + 1))) (lv' := [(1, .int (nI (c2 + 1))), (0, .ref (a 28))]) hx hb dX3_endCollecting_36 hl (k := 0) rfl (nI_1 c2) (by decide) rfl (fun ls hl => ?_)
          refine lv_goto (tgt := 3) hx hb dX3_endCollecting_39 (by decide) ?_
          have hO : OKW G h0 a (upd (upd F 26 (nI ht)) 27 (nI ot42)) (updR (updR R 7 (.ref (a 35))) 8 (.ref (a 34))) Z B (updJ J44 34 (vp_updL (J44 34) c2 r43)) T Pi w := hO.to rfl
          exact ih_c (c2 + 1) ot42 (updJ J44 34 (vp_updL (J44 34) c2 r43)) ph45 _ _ _ _ (by omega) (by omega) (by omega) (GI.scan h46 (by omega) (by omega) (by rw [h52 c2 (by omega)]; exact h51)) h47 (fun q hq => (h48 q (by rw [hgr2 q hq]; exact hq)).trans (hgr2 q hq)) (h49.trans hj2) hP hD hS hO (lv_sub hl [0, 1] rfl)
    have hO : OKW G h0 a (upd (upd F 26 (nI ht)) 27 (nI ot)) (updR (updR R 7 (.ref (a 35))) 8 (.ref (a 34))) Z B J T Pi w := hO.to rfl
    exact loop_c (3008 + 1) 8 ot J ph _ _ _ _ (by omega) (by omega) (by omega) hgi hgc (fun _ _ => rfl) rfl hP hD hS hO (lv_sub hl [0, 1] rfl)
