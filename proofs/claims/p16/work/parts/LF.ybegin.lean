def BgQ (on rc sl lo m : Nat) (pc ba nu : Int32) (f : Nat → Int32) (tp tp1 : Nat) (en1 nx nx1 : Int32) (ba1 on1 mr1 : Nat) (fr1 : Nat → Int32) : Prop := (100 ≤ on ∧ en1 = 4) ∨ (on < 100 ∧ en1 = 5 ∧ tp1 = rc + sl ∧ nx1 = nI lo ∧ ba1 = rc ∧ on1 = on + 1 ∧ mr1 = m ∧ fr1 = frU f on pc ba nu)
set_option maxHeartbeats 30000000 in
set_option maxRecDepth 100000 in
theorem Y_begin (l : Launch) (G : pT) (h0 : Nat) (a : Nat → Nat) (F : Nat → Int32) (R : Nat → Value) (Z : Int64) (B : Nat → Nat → Int32) (J : Nat → Nat → Int64) (K : PK) (w : va_W) (y : TY) (on : Nat) (j9 : Nat) (k9 : Nat) (ba : Nat) (pc : Nat) (tp : Nat) (rc : Nat) (fl : Nat) (pq : Nat) (dr : Nat) (ml : Nat) (nd : Nat) (nm : Nat) (cp : Nat) (it : Nat → Nat) (s9 : Nat) (g : Nat → Nat → Nat) (rk : Nat → Nat) (cs : Nat) (rg : Nat) (hwp : WPr G K g) (hps : PgT G K g (a 1) pq dr ml nd nm cp it s9) (hrk : RkO K rk) (hpy : PrY y K B dr nd nm it cs rg) (hcs9 : cs ≤ 10000) (hk9 : k9 < nm ∧ on ≤ 100 ∧ tp ≤ 32000 ∧ ba ≤ 32000) (hj9 : j9 < nm) (hrc : rc + ysl y k9 ≤ 320 * on + 319) (hfl : B 33 5 = nI fl) (hO : OKP G h0 a (upd (upd (upd (upd (upd F 18 (nI ba)) 19 (nI tp)) 20 (nI pc)) 22 (nI on)) 23 5) (updR (updR R 5 (.ref pq)) 6 (.ref (it j9))) Z B J K w) : PM l G pX0 yX5_begin cX5_begin 3 none ({ frames := 2, cells := 0, slots := 0, locals := 60 }) [.ref (a 5), .ref (it k9), .int (nI rc)] w (fun (v : Option Value) (u : va_W × (Nat × Int32 × Int32 × Nat × Nat × Nat × (Nat → Int32) × (Nat → Int32))) => v = none ∧ (BgQ on rc (ysl y k9) (ylo y k9) (it k9) (nI pc) (nI ba) (nI j9) (B 30) tp u.2.1 u.2.2.1 (F 21) u.2.2.2.1 u.2.2.2.2.1 u.2.2.2.2.2.1 u.2.2.2.2.2.2.1 u.2.2.2.2.2.2.2.2) ∧ (u.2.2.2.2.2.2.2.1 5 = nI fl) ∧ (u.2.1 ≤ 32000 ∧ u.2.2.2.2.1 ≤ 32000 ∧ u.2.2.2.2.2.1 ≤ 100) ∧ (OKP G h0 a (upd (upd (upd (upd (upd (upd F 18 (nI u.2.2.2.2.1)) 19 (nI u.2.1)) 20 (nI pc)) 21 u.2.2.2.1) 22 (nI u.2.2.2.2.2.1)) 23 u.2.2.1) (updR (updR R 5 (.ref pq)) 6 (.ref u.2.2.2.2.2.2.1)) Z (updA (updA B 30 u.2.2.2.2.2.2.2.2) 33 u.2.2.2.2.2.2.2.1) J K u.1)) (fun u => u.1) := by
  intro sz
  refine Met.ofW (cc := cX5_begin) (maxL := 3) (ret := none) (by decide) rfl ?_
  intro p e s m args below meth c s₁ B9 hml hv
  obtain ⟨rfl, hsz, hP, hD0, hE, hX⟩ := hv
  have hx := B9.exec
  have hb := B9.bytes
  have hr := B9.returns
  have hts := atoms_spec (ws := Cond.code yX5_begin cX5_begin 3 none :: pw) B9.pre
  have hq : ∀ w ∈ pw, w.before _ s = true := fun w h => hts w (List.mem_cons_of_mem _ h)
  have hown : s.vm.findClass RX5 = some m.cls := findClass_of_methodNamed B9.named
  have hlocks := B9.notSynchronized
  subst hsz
  have hD := hD0.self (sz := s.heap.size)
  have hA : ∀ q : Nat, s.heap.size ≤ q → va_A w s.heap.size q := fun q h => Or.inr h
  generalize va_A w s.heap.size = A at hD hE hA ⊢
  have hS : va_S A s.heap s.heap [] := va_S.rf
  have hl := lv_entry ([.ref (a 5), .ref (it k9), .int (nI rc)]) (n := 3) (Nat.le_of_ble_eq_true rfl)
  rw [lg_entry_eq]
  generalize (lg_sl ([.ref (a 5), .ref (it k9), .int (nI rc)]) ++ List.replicate (3 - (lg_sl ([.ref (a 5), .ref (it k9), .int (nI rc)])).length) Slot.unset).toArray = ls at hl ⊢
  have hl : lv_has ls 3 [(0, .ref (a 5)), (1, .ref (it k9)), (2, .int (nI rc))] := hl
  have hpg := hps.1
  have hp1 := hpg.1
  have hp2 := hpg.2.1
  have hp3 := hpg.2.2.1
  have hp4 := hpg.2.2.2.1
  have hp5 := hpg.2.2.2.2.1
  have hp6 := hpg.2.2.2.2.2.1
  have hp8 := hpg.2.2.2.2.2.2.2.1
  have hp9 := hpg.2.2.2.2.2.2.2.2
  have hmk := hpy.2.1 k9 (by omega)
  have hlk := hmk.1.2.1
  refine lv_aload_n hx hb dX5_begin_0 rfl (lv_at hl 0 rfl) ?_
  refine c_get (v := .int (nI on)) (C := RX5) (Tc := TX5) (N := 19) (ci := 4) hx hb hq pin_wsX50 hown hE hP hO 28 (sg_28 G h0 a _ _ _ _ _) rfl 15 (by decide) (hq _ pw_502) (fun _ h9 => h9) rfl dX5_begin_1 ?_
  refine lv_bipush (v := 100) hx hb dX5_begin_4 (by decide) ?_
  refine lv_icmp_lt (tgt := 15) hx hb dX5_begin_6 (by decide) (fun c1 => ?_) (fun c1 => ?_)
  · have n2 : on < 100 := (nI_ltI (a := on) (b := 100) (by omega) (by omega)).mp c1
    refine lv_aload_n hx hb dX5_begin_15 rfl (lv_at hl 1 rfl) ?_
    refine lv_ifnull hx hb dX5_begin_16 ?_
    refine lv_iload_n hx hb dX5_begin_19 rfl (lv_at hl 2 rfl) ?_
    refine lv_if_lt (tgt := 37) hx hb dX5_begin_20 (by decide) (fun c3 => (by have n4 : rc < 0 := (nI_ltI (a := rc) (b := 0) (by omega) (by omega)).mp c3; omega)) (fun c3 => ?_)
    refine lv_iload_n hx hb dX5_begin_23 rfl (lv_at hl 2 rfl) ?_
    refine lv_aload_n hx hb dX5_begin_24 rfl (lv_at hl 1 rfl) ?_
    refine p_get (v := .int (nI (ysl y k9))) (C := RX6) (Tc := TX6) (N := 12) (ci := 12) hx hb hq pin_wsX60 hown hE hP hO (by rw [(hps.2.2.1.T (show k9 < nm by omega))]; decide) (rep_3 (hps.2.2.1.T (show k9 < nm by omega))) rfl 9 (by decide) (hq _ pw_519) (fun _ h9 => h9) (congrArg (fun z => some (Value.int z)) hmk.2.2.2.2.2.1) dX5_begin_25 ?_
    refine lv_iadd hx hb dX5_begin_28 ?_
    refine lv_topi (fun x5 e6 => ?_)
    obtain rfl : x5 = nI (rc + (ysl y k9)) := e6.trans (nI_add (rc) ((ysl y k9)))
    refine lv_aload_n hx hb dX5_begin_29 rfl (lv_at hl 0 rfl) ?_
    refine c_get (v := .ref (a 29)) (C := RX5) (Tc := TX5) (N := 19) (ci := 4) hx hb hq pin_wsX50 hown hE hP hO 28 (sg_28 G h0 a _ _ _ _ _) rfl 2 (by decide) (hq _ pw_474) (fun _ h9 => h9) rfl dX5_begin_30 ?_
    refine c_len (n := 0) (t0 := 2) (v := 32000) hx hb hE hP hO 32 (sg_32 G h0 a _ _ _ _ _) rfl rfl dX5_begin_33 ?_
    refine lv_icmp_le (tgt := 42) hx hb dX5_begin_34 (by decide) (fun c7 => ?_) (fun c7 => (by have n8 : ¬ ((rc + (ysl y k9)) ≤ 32000) := fun h9 => c7 ((nI_leI (a := (rc + (ysl y k9))) (b := 32000) (by omega) (by omega)).mpr h9); omega))
    refine lv_aload_n hx hb dX5_begin_42 rfl (lv_at hl 0 rfl) ?_
    refine c_get (v := .ref (a 30)) (C := RX5) (Tc := TX5) (N := 19) (ci := 4) hx hb hq pin_wsX50 hown hE hP hO 28 (sg_28 G h0 a _ _ _ _ _) rfl 3 (by decide) (hq _ pw_475) (fun _ h9 => h9) rfl dX5_begin_43 ?_
    refine lv_iconst (v := 3) hx hb dX5_begin_46 (by decide) ?_
    refine lv_aload_n hx hb dX5_begin_47 rfl (lv_at hl 0 rfl) ?_
    refine c_get (v := .int (nI on)) (C := RX5) (Tc := TX5) (N := 19) (ci := 4) hx hb hq pin_wsX50 hown hE hP hO 28 (sg_28 G h0 a _ _ _ _ _) rfl 15 (by decide) (hq _ pw_502) (fun _ h9 => h9) rfl dX5_begin_48 ?_
    refine lv_imul hx hb dX5_begin_51 ?_
    refine lv_topi (fun x9 e10 => ?_)
    obtain rfl : x9 = nI (3 * on) := e10.trans (nI_mulN (3) (on))
    refine lv_aload_n hx hb dX5_begin_52 rfl (lv_at hl 0 rfl) ?_
    refine c_get (v := .int (nI pc)) (C := RX5) (Tc := TX5) (N := 19) (ci := 4) hx hb hq pin_wsX50 hown hE hP hO 28 (sg_28 G h0 a _ _ _ _ _) rfl 12 (by decide) (hq _ pw_506) (fun _ h9 => h9) rfl dX5_begin_53 ?_
    refine c_sti (f := (B 30)) (n := 300) (t0 := 0) hx hb hE hP hD hS hO 33 (sg_33 G h0 a _ _ _ _ _) rfl (vp_in_nI (by omega) (by decide)) (sb_30 G h0 a _ _ _ _ _ _) dX5_begin_56 (fun H locs w hP hD hS hO => ?_)
    rw [(nI_clamp (show (3 * on) < 2 ^ 31 by omega))] at hO
    refine lv_aload_n hx hb dX5_begin_57 rfl (lv_at hl 0 rfl) ?_
    refine c_get (v := .ref (a 30)) (C := RX5) (Tc := TX5) (N := 19) (ci := 4) hx hb hq pin_wsX50 hown hE hP hO 28 (sg_28 G h0 a _ _ _ _ _) rfl 3 (by decide) (hq _ pw_475) (fun _ h9 => h9) rfl dX5_begin_58 ?_
    refine lv_iconst (v := 3) hx hb dX5_begin_61 (by decide) ?_
    refine lv_aload_n hx hb dX5_begin_62 rfl (lv_at hl 0 rfl) ?_
    refine c_get (v := .int (nI on)) (C := RX5) (Tc := TX5) (N := 19) (ci := 4) hx hb hq pin_wsX50 hown hE hP hO 28 (sg_28 G h0 a _ _ _ _ _) rfl 15 (by decide) (hq _ pw_502) (fun _ h9 => h9) rfl dX5_begin_63 ?_
    refine lv_imul hx hb dX5_begin_66 ?_
    refine lv_topi (fun x11 e12 => ?_)
    obtain rfl : x11 = nI (3 * on) := e12.trans (nI_mulN (3) (on))
    refine lv_iconst (v := 1) hx hb dX5_begin_67 (by decide) ?_
    refine lv_iadd hx hb dX5_begin_68 ?_
    refine lv_topi (fun x13 e14 => ?_)
    obtain rfl : x13 = nI ((3 * on) + 1) := e14.trans (nI_add ((3 * on)) (1))
    refine lv_aload_n hx hb dX5_begin_69 rfl (lv_at hl 0 rfl) ?_
    refine c_get (v := .int (nI ba)) (C := RX5) (Tc := TX5) (N := 19) (ci := 4) hx hb hq pin_wsX50 hown hE hP hO 28 (sg_28 G h0 a _ _ _ _ _) rfl 10 (by decide) (hq _ pw_504) (fun _ h9 => h9) rfl dX5_begin_70 ?_
    refine c_sti (f := (upd (B 30) (3 * on) (nI pc))) (n := 300) (t0 := 0) hx hb hE hP hD hS hO 33 (sg_33 G h0 a _ _ _ _ _) rfl (vp_in_nI (by omega) (by decide)) (sb_30 G h0 a _ _ _ _ _ _) dX5_begin_73 (fun H locs w hP hD hS hO => ?_)
    rw [(nI_clamp (show ((3 * on) + 1) < 2 ^ 31 by omega))] at hO
    refine lv_aload_n hx hb dX5_begin_74 rfl (lv_at hl 0 rfl) ?_
    refine c_get (v := .ref (a 30)) (C := RX5) (Tc := TX5) (N := 19) (ci := 4) hx hb hq pin_wsX50 hown hE hP hO 28 (sg_28 G h0 a _ _ _ _ _) rfl 3 (by decide) (hq _ pw_475) (fun _ h9 => h9) rfl dX5_begin_75 ?_
    refine lv_iconst (v := 3) hx hb dX5_begin_78 (by decide) ?_
    refine lv_aload_n hx hb dX5_begin_79 rfl (lv_at hl 0 rfl) ?_
    refine c_get (v := .int (nI on)) (C := RX5) (Tc := TX5) (N := 19) (ci := 4) hx hb hq pin_wsX50 hown hE hP hO 28 (sg_28 G h0 a _ _ _ _ _) rfl 15 (by decide) (hq _ pw_502) (fun _ h9 => h9) rfl dX5_begin_80 ?_
    refine lv_imul hx hb dX5_begin_83 ?_
    refine lv_topi (fun x15 e16 => ?_)
    obtain rfl : x15 = nI (3 * on) := e16.trans (nI_mulN (3) (on))
    refine lv_iconst (v := 2) hx hb dX5_begin_84 (by decide) ?_
    refine lv_iadd hx hb dX5_begin_85 ?_
    refine lv_topi (fun x17 e18 => ?_)
    obtain rfl : x17 = nI ((3 * on) + 2) := e18.trans (nI_add ((3 * on)) (2))
    refine lv_aload_n hx hb dX5_begin_86 rfl (lv_at hl 0 rfl) ?_
    refine c_get (v := .ref (it j9)) (C := RX5) (Tc := TX5) (N := 19) (ci := 4) hx hb hq pin_wsX50 hown hE hP hO 28 (sg_28 G h0 a _ _ _ _ _) rfl 9 (by decide) (hq _ pw_503) (fun _ h9 => h9) rfl dX5_begin_87 ?_
    refine lv_ifnonnull (tgt := 97) hx hb dX5_begin_90 (by decide) ?_
    refine lv_aload_n hx hb dX5_begin_97 rfl (lv_at hl 0 rfl) ?_
    refine c_get (v := .ref (it j9)) (C := RX5) (Tc := TX5) (N := 19) (ci := 4) hx hb hq pin_wsX50 hown hE hP hO 28 (sg_28 G h0 a _ _ _ _ _) rfl 9 (by decide) (hq _ pw_503) (fun _ h9 => h9) rfl dX5_begin_98 ?_
    refine p_get (v := .int (nI j9)) (C := RX6) (Tc := TX6) (N := 12) (ci := 12) hx hb hq pin_wsX60 hown hE hP hO (by rw [(hps.2.2.1.T hj9)]; decide) (rep_3 (hps.2.2.1.T hj9)) rfl 6 (by decide) (hq _ pw_564) (fun _ h9 => h9) (congrArg (fun z => some (Value.int z)) (hpy.2.1 j9 hj9).2.2.1) dX5_begin_101 ?_
    refine c_sti (f := (upd (upd (B 30) (3 * on) (nI pc)) ((3 * on) + 1) (nI ba))) (n := 300) (t0 := 0) hx hb hE hP hD hS hO 33 (sg_33 G h0 a _ _ _ _ _) rfl (vp_in_nI (by omega) (by decide)) (sb_30 G h0 a _ _ _ _ _ _) dX5_begin_104 (fun H locs w hP hD hS hO => ?_)
    rw [(nI_clamp (show ((3 * on) + 2) < 2 ^ 31 by omega))] at hO
    refine lv_aload_n hx hb dX5_begin_105 rfl (lv_at hl 0 rfl) ?_
    refine lv_dup hx hb dX5_begin_106 rfl ?_
    refine c_get (v := .int (nI on)) (C := RX5) (Tc := TX5) (N := 19) (ci := 4) hx hb hq pin_wsX50 hown hE hP hO 28 (sg_28 G h0 a _ _ _ _ _) rfl 15 (by decide) (hq _ pw_502) (fun _ h9 => h9) rfl dX5_begin_107 ?_
    refine lv_iconst (v := 1) hx hb dX5_begin_110 (by decide) ?_
    refine lv_iadd hx hb dX5_begin_111 ?_
    refine lv_topi (fun x19 e20 => ?_)
    obtain rfl : x19 = nI (on + 1) := e20.trans (nI_add (on) (1))
    refine c_put (v := .int (nI (on + 1))) (ty := .int) (C := RX5) (Tc := TX5) (N := 19) (ci := 4) hx hb hq pin_wsX50 tyX5 tyX5_ok nmX5 hown hE hP hD hS hO 28 (sg_28 G h0 a _ _ _ _ _) rfl 15 (by decide) (hq _ pw_502) (fun _ h9 => h9) rfl (by decide +kernel) rfl rfl (Nat.le_of_ble_eq_true rfl) (sf_22 G h0 a _ _ _ _ _ (nI (on + 1))) dX5_begin_112 (fun H locs w hP hD hS hO => ?_)
    refine lv_aload_n hx hb dX5_begin_115 rfl (lv_at hl 0 rfl) ?_
    refine c_get (v := .ref (a 33)) (C := RX5) (Tc := TX5) (N := 19) (ci := 4) hx hb hq pin_wsX50 hown hE hP hO 28 (sg_28 G h0 a _ _ _ _ _) rfl 7 (by decide) (hq _ pw_478) (fun _ h9 => h9) rfl dX5_begin_116 ?_
    refine lv_bipush (v := 10) hx hb dX5_begin_119 (by decide) ?_
    refine lv_dup2_11 hx hb dX5_begin_121 rfl rfl ?_
    refine c_ldi (f := (B 33)) (n := 12) (t0 := 0) hx hb hE hP hO 36 (sg_36 G h0 a _ _ _ _ _) rfl (by unfold vp_in; decide) dX5_begin_122 ?_
    refine W.eq (g2 := F0 m 123 ls [.int ((B 33) 10), .int 10, .ref (a 33)]) rfl ?_
    refine lv_topi (fun x21 e22 => ?_)
    refine lv_iconst (v := 1) hx hb dX5_begin_123 (by decide) ?_
    refine lv_iadd hx hb dX5_begin_124 ?_
    refine lv_topi (fun x23 e24 => ?_)
    refine c_sti (f := (B 33)) (n := 12) (t0 := 0) hx hb hE hP hD hS hO 36 (sg_36 G h0 a _ _ _ _ _) rfl (by unfold vp_in; decide) (sb_33 G h0 a _ _ _ _ _ _) dX5_begin_125 (fun H locs w hP hD hS hO => ?_)
    refine lv_aload_n hx hb dX5_begin_126 rfl (lv_at hl 0 rfl) ?_
    refine c_get (v := .ref (a 33)) (C := RX5) (Tc := TX5) (N := 19) (ci := 4) hx hb hq pin_wsX50 hown hE hP hO 28 (sg_28 G h0 a _ _ _ _ _) rfl 7 (by decide) (hq _ pw_478) (fun _ h9 => h9) rfl dX5_begin_127 ?_
    refine lv_bipush (v := 11) hx hb dX5_begin_130 (by decide) ?_
    refine lv_aload_n hx hb dX5_begin_132 rfl (lv_at hl 0 rfl) ?_
    refine c_get (v := .ref (a 33)) (C := RX5) (Tc := TX5) (N := 19) (ci := 4) hx hb hq pin_wsX50 hown hE hP hO 28 (sg_28 G h0 a _ _ _ _ _) rfl 7 (by decide) (hq _ pw_478) (fun _ h9 => h9) rfl dX5_begin_133 ?_
    refine lv_bipush (v := 11) hx hb dX5_begin_136 (by decide) ?_
    refine c_ldi (f := (upd (B 33) 10 x23)) (n := 12) (t0 := 0) hx hb hE hP hO 36 (sg_36 G h0 a _ _ _ _ _) rfl (by unfold vp_in; decide) dX5_begin_138 ?_
    refine W.eq (g2 := F0 m 139 ls [.int ((upd (B 33) 10 x23) 11), .int 11, .ref (a 33)]) rfl ?_
    refine lv_topi (fun x25 e26 => ?_)
    refine lv_aload_n hx hb dX5_begin_139 rfl (lv_at hl 0 rfl) ?_
    refine c_get (v := .int (nI (on + 1))) (C := RX5) (Tc := TX5) (N := 19) (ci := 4) hx hb hq pin_wsX50 hown hE hP hO 28 (sg_28 G h0 a _ _ _ _ _) rfl 15 (by decide) (hq _ pw_502) (fun _ h9 => h9) rfl dX5_begin_140 ?_
    refine va_mmax (own := RX5) hx hb (by rw [hml]; exact hl.1.symm) hown (hq _ pw_520) (hq _ pw_51) (hq _ pw_52) (hq _ pw_53) (Nat.le_of_ble_eq_true rfl) (Nat.le_of_ble_eq_true rfl) (Nat.le_of_ble_eq_true rfl) (Nat.le_of_ble_eq_true rfl) dX5_begin_143 ?_
    refine lv_topi (fun x27 e28 => ?_)
    refine c_sti (f := (upd (B 33) 10 x23)) (n := 12) (t0 := 0) hx hb hE hP hD hS hO 36 (sg_36 G h0 a _ _ _ _ _) rfl (by unfold vp_in; decide) (sb_33 G h0 a _ _ _ _ _ _) dX5_begin_146 (fun H locs w hP hD hS hO => ?_)
    refine lv_aload_n hx hb dX5_begin_147 rfl (lv_at hl 0 rfl) ?_
    refine lv_aload_n hx hb dX5_begin_148 rfl (lv_at hl 1 rfl) ?_
    refine c_put (v := .ref (it k9)) (ty := (.object "JinjaTongue$Method")) (C := RX5) (Tc := TX5) (N := 19) (ci := 4) hx hb hq pin_wsX50 tyX5 tyX5_ok nmX5 hown hE hP hD hS hO 28 (sg_28 G h0 a _ _ _ _ _) rfl 9 (by decide) (hq _ pw_503) (fun _ h9 => h9) rfl (by decide +kernel) rfl rfl (Nat.le_of_ble_eq_true rfl) (sr_6 G h0 a _ _ _ _ _ (.ref (it k9))) dX5_begin_149 (fun H locs w hP hD hS hO => ?_)
    refine lv_aload_n hx hb dX5_begin_152 rfl (lv_at hl 0 rfl) ?_
    refine lv_iload_n hx hb dX5_begin_153 rfl (lv_at hl 2 rfl) ?_
    refine c_put (v := .int (nI rc)) (ty := .int) (C := RX5) (Tc := TX5) (N := 19) (ci := 4) hx hb hq pin_wsX50 tyX5 tyX5_ok nmX5 hown hE hP hD hS hO 28 (sg_28 G h0 a _ _ _ _ _) rfl 10 (by decide) (hq _ pw_504) (fun _ h9 => h9) rfl (by decide +kernel) rfl rfl (Nat.le_of_ble_eq_true rfl) (sf_18 G h0 a _ _ _ _ _ (nI rc)) dX5_begin_154 (fun H locs w hP hD hS hO => ?_)
    refine lv_aload_n hx hb dX5_begin_157 rfl (lv_at hl 0 rfl) ?_
    refine lv_aload_n hx hb dX5_begin_158 rfl (lv_at hl 0 rfl) ?_
    refine c_get (v := .int (nI rc)) (C := RX5) (Tc := TX5) (N := 19) (ci := 4) hx hb hq pin_wsX50 hown hE hP hO 28 (sg_28 G h0 a _ _ _ _ _) rfl 10 (by decide) (hq _ pw_504) (fun _ h9 => h9) rfl dX5_begin_159 ?_
    refine lv_aload_n hx hb dX5_begin_162 rfl (lv_at hl 1 rfl) ?_
    refine p_get (v := .int (nI (ysl y k9))) (C := RX6) (Tc := TX6) (N := 12) (ci := 12) hx hb hq pin_wsX60 hown hE hP hO (by rw [(hps.2.2.1.T (show k9 < nm by omega))]; decide) (rep_3 (hps.2.2.1.T (show k9 < nm by omega))) rfl 9 (by decide) (hq _ pw_519) (fun _ h9 => h9) (congrArg (fun z => some (Value.int z)) hmk.2.2.2.2.2.1) dX5_begin_163 ?_
    refine lv_iadd hx hb dX5_begin_166 ?_
    refine lv_topi (fun x29 e30 => ?_)
    obtain rfl : x29 = nI (rc + (ysl y k9)) := e30.trans (nI_add (rc) ((ysl y k9)))
    refine c_put (v := .int (nI (rc + (ysl y k9)))) (ty := .int) (C := RX5) (Tc := TX5) (N := 19) (ci := 4) hx hb hq pin_wsX50 tyX5 tyX5_ok nmX5 hown hE hP hD hS hO 28 (sg_28 G h0 a _ _ _ _ _) rfl 11 (by decide) (hq _ pw_505) (fun _ h9 => h9) rfl (by decide +kernel) rfl rfl (Nat.le_of_ble_eq_true rfl) (sf_19 G h0 a _ _ _ _ _ (nI (rc + (ysl y k9)))) dX5_begin_167 (fun H locs w hP hD hS hO => ?_)
    refine lv_aload_n hx hb dX5_begin_170 rfl (lv_at hl 0 rfl) ?_
    refine lv_aload_n hx hb dX5_begin_171 rfl (lv_at hl 1 rfl) ?_
    refine p_get (v := .int (nI (ylo y k9))) (C := RX6) (Tc := TX6) (N := 12) (ci := 12) hx hb hq pin_wsX60 hown hE hP hO (by rw [(hps.2.2.1.T (show k9 < nm by omega))]; decide) (rep_3 (hps.2.2.1.T (show k9 < nm by omega))) rfl 8 (by decide) (hq _ pw_565) (fun _ h9 => h9) (congrArg (fun z => some (Value.int z)) hmk.2.2.2.2.1) dX5_begin_172 ?_
    refine c_put (v := .int (nI (ylo y k9))) (ty := .int) (C := RX5) (Tc := TX5) (N := 19) (ci := 4) hx hb hq pin_wsX50 tyX5 tyX5_ok nmX5 hown hE hP hD hS hO 28 (sg_28 G h0 a _ _ _ _ _) rfl 13 (by decide) (hq _ pw_566) (fun _ h9 => h9) rfl (by decide +kernel) rfl rfl (Nat.le_of_ble_eq_true rfl) (sf_21 G h0 a _ _ _ _ _ (nI (ylo y k9))) dX5_begin_175 (fun H locs w hP hD hS hO => ?_)
    have hz31 : BgQ on rc (ysl y k9) (ylo y k9) (it k9) (nI pc) (nI ba) (nI j9) (B 30) tp (rc + (ysl y k9)) (5 : Int32) (F 21) (nI (ylo y k9)) rc (on + 1) (it k9) (upd (upd (upd (B 30) (3 * on) (nI pc)) ((3 * on) + 1) (nI ba)) ((3 * on) + 2) (nI j9)) := (Or.inr ⟨by omega, rfl, rfl, rfl, rfl, rfl, rfl, rfl⟩)
    have hz32 : (upd (upd (B 33) 10 x23) 11 x27) 5 = nI fl := ((if_neg (by decide)).trans ((if_neg (by decide)).trans hfl))
    have hz33 : (rc + (ysl y k9)) ≤ 32000 ∧ rc ≤ 32000 ∧ (on + 1) ≤ 100 := (by omega)
    have hO : OKP G h0 a (upd (upd (upd (upd (upd (upd F 18 (nI rc)) 19 (nI (rc + (ysl y k9)))) 20 (nI pc)) 21 (nI (ylo y k9))) 22 (nI (on + 1))) 23 (5 : Int32)) (updR (updR R 5 (.ref pq)) 6 (.ref (it k9))) Z (updA (updA B 30 (upd (upd (upd (B 30) (3 * on) (nI pc)) ((3 * on) + 1) (nI ba)) ((3 * on) + 2) (nI j9))) 33 (upd (upd (B 33) 10 x23) 11 x27)) J K w := hO.to rfl
    exact W.vret hx hb hr (fun t99 ht99 hW99 => ⟨⟨_, (w, ((rc + (ysl y k9)), (5 : Int32), (nI (ylo y k9)), rc, (on + 1), (it k9), (upd (upd (B 33) 10 x23) 11 x27), (upd (upd (upd (B 30) (3 * on) (nI pc)) ((3 * on) + 1) (nI ba)) ((3 * on) + 2) (nI j9)))), rfl, ⟨rfl, hz31, hz32, hz33, hO⟩, by rw [ht99]; exact hP, hD⟩, hS.F ht99⟩) hS.2.2 dX5_begin_178
  · have n34 : ¬ (on < 100) := fun h9 => c1 ((nI_ltI (a := on) (b := 100) (by omega) (by omega)).mpr h9)
    refine lv_aload_n hx hb dX5_begin_9 rfl (lv_at hl 0 rfl) ?_
    refine lv_iconst (v := 4) hx hb dX5_begin_10 (by decide) ?_
    refine c_put (v := .int 4) (ty := .int) (C := RX5) (Tc := TX5) (N := 19) (ci := 4) hx hb hq pin_wsX50 tyX5 tyX5_ok nmX5 hown hE hP hD hS hO 28 (sg_28 G h0 a _ _ _ _ _) rfl 16 (by decide) (hq _ pw_513) (fun _ h9 => h9) rfl (by decide +kernel) rfl rfl (Nat.le_of_ble_eq_true rfl) (sf_23 G h0 a _ _ _ _ _ 4) dX5_begin_11 (fun H locs w hP hD hS hO => ?_)
    have hz35 : BgQ on rc (ysl y k9) (ylo y k9) (it k9) (nI pc) (nI ba) (nI j9) (B 30) tp tp (4 : Int32) (F 21) (F 21) ba on (it j9) (B 30) := (Or.inl ⟨by omega, rfl⟩)
    have hz36 : (B 33) 5 = nI fl := hfl
    have hz37 : tp ≤ 32000 ∧ ba ≤ 32000 ∧ on ≤ 100 := (by omega)
    have hO : OKP G h0 a (upd (upd (upd (upd (upd (upd F 18 (nI ba)) 19 (nI tp)) 20 (nI pc)) 21 (F 21)) 22 (nI on)) 23 (4 : Int32)) (updR (updR R 5 (.ref pq)) 6 (.ref (it j9))) Z (updA (updA B 30 (B 30)) 33 (B 33)) J K w := hO.to rfl
    exact W.vret hx hb hr (fun t99 ht99 hW99 => ⟨⟨_, (w, (tp, (4 : Int32), (F 21), ba, on, (it j9), (B 33), (B 30))), rfl, ⟨rfl, hz35, hz36, hz37, hO⟩, by rw [ht99]; exact hP, hD⟩, hS.F ht99⟩) hS.2.2 dX5_begin_14
set_option maxHeartbeats 30000000 in
set_option maxRecDepth 100000 in
theorem Y_begin0 (l : Launch) (G : pT) (h0 : Nat) (a : Nat → Nat) (F : Nat → Int32) (R : Nat → Value) (Z : Int64) (B : Nat → Nat → Int32) (J : Nat → Nat → Int64) (K : PK) (w : va_W) (y : TY) (on : Nat) (j9 : Nat) (k9 : Nat) (ba : Nat) (pc : Nat) (tp : Nat) (rc : Nat) (fl : Nat) (pq : Nat) (dr : Nat) (ml : Nat) (nd : Nat) (nm : Nat) (cp : Nat) (it : Nat → Nat) (s9 : Nat) (g : Nat → Nat → Nat) (rk : Nat → Nat) (cs : Nat) (rg : Nat) (hwp : WPr G K g) (hps : PgT G K g (a 1) pq dr ml nd nm cp it s9) (hrk : RkO K rk) (hpy : PrY y K B dr nd nm it cs rg) (hcs9 : cs ≤ 10000) (hk9 : k9 < nm ∧ on ≤ 99 ∧ tp ≤ 32000 ∧ ba ≤ 32000) (hj9 : j9 < nm) (hrc : rc + ysl y k9 ≤ 320 * on + 319) (hfl : B 33 5 = nI fl) (hO : OKP G h0 a (upd (upd (upd (upd (upd F 18 (nI ba)) 19 (nI tp)) 20 (nI pc)) 22 (nI on)) 23 5) (updR (updR R 5 (.ref pq)) 6 (.null)) Z B J K w) : PM l G pX0 yX5_begin cX5_begin 3 none ({ frames := 2, cells := 0, slots := 0, locals := 60 }) [.ref (a 5), .ref (it k9), .int (nI rc)] w (fun (v : Option Value) (u : va_W × (Nat × Int32 × Int32 × Nat × Nat × Nat × (Nat → Int32) × (Nat → Int32))) => v = none ∧ (BgQ on rc (ysl y k9) (ylo y k9) (it k9) (nI pc) (nI ba) (-1) (B 30) tp u.2.1 u.2.2.1 (F 21) u.2.2.2.1 u.2.2.2.2.1 u.2.2.2.2.2.1 u.2.2.2.2.2.2.1 u.2.2.2.2.2.2.2.2) ∧ (u.2.2.2.2.2.2.2.1 5 = nI fl) ∧ (u.2.1 ≤ 32000 ∧ u.2.2.2.2.1 ≤ 32000 ∧ u.2.2.2.2.2.1 ≤ 100) ∧ (OKP G h0 a (upd (upd (upd (upd (upd (upd F 18 (nI u.2.2.2.2.1)) 19 (nI u.2.1)) 20 (nI pc)) 21 u.2.2.2.1) 22 (nI u.2.2.2.2.2.1)) 23 u.2.2.1) (updR (updR R 5 (.ref pq)) 6 (.ref u.2.2.2.2.2.2.1)) Z (updA (updA B 30 u.2.2.2.2.2.2.2.2) 33 u.2.2.2.2.2.2.2.1) J K u.1)) (fun u => u.1) := by
  intro sz
  refine Met.ofW (cc := cX5_begin) (maxL := 3) (ret := none) (by decide) rfl ?_
  intro p e s m args below meth c s₁ B9 hml hv
  obtain ⟨rfl, hsz, hP, hD0, hE, hX⟩ := hv
  have hx := B9.exec
  have hb := B9.bytes
  have hr := B9.returns
  have hts := atoms_spec (ws := Cond.code yX5_begin cX5_begin 3 none :: pw) B9.pre
  have hq : ∀ w ∈ pw, w.before _ s = true := fun w h => hts w (List.mem_cons_of_mem _ h)
  have hown : s.vm.findClass RX5 = some m.cls := findClass_of_methodNamed B9.named
  have hlocks := B9.notSynchronized
  subst hsz
  have hD := hD0.self (sz := s.heap.size)
  have hA : ∀ q : Nat, s.heap.size ≤ q → va_A w s.heap.size q := fun q h => Or.inr h
  generalize va_A w s.heap.size = A at hD hE hA ⊢
  have hS : va_S A s.heap s.heap [] := va_S.rf
  have hl := lv_entry ([.ref (a 5), .ref (it k9), .int (nI rc)]) (n := 3) (Nat.le_of_ble_eq_true rfl)
  rw [lg_entry_eq]
  generalize (lg_sl ([.ref (a 5), .ref (it k9), .int (nI rc)]) ++ List.replicate (3 - (lg_sl ([.ref (a 5), .ref (it k9), .int (nI rc)])).length) Slot.unset).toArray = ls at hl ⊢
  have hl : lv_has ls 3 [(0, .ref (a 5)), (1, .ref (it k9)), (2, .int (nI rc))] := hl
  have hpg := hps.1
  have hp1 := hpg.1
  have hp2 := hpg.2.1
  have hp3 := hpg.2.2.1
  have hp4 := hpg.2.2.2.1
  have hp5 := hpg.2.2.2.2.1
  have hp6 := hpg.2.2.2.2.2.1
  have hp8 := hpg.2.2.2.2.2.2.2.1
  have hp9 := hpg.2.2.2.2.2.2.2.2
  have hmk := hpy.2.1 k9 (by omega)
  have hlk := hmk.1.2.1
  refine lv_aload_n hx hb dX5_begin_0 rfl (lv_at hl 0 rfl) ?_
  refine c_get (v := .int (nI on)) (C := RX5) (Tc := TX5) (N := 19) (ci := 4) hx hb hq pin_wsX50 hown hE hP hO 28 (sg_28 G h0 a _ _ _ _ _) rfl 15 (by decide) (hq _ pw_502) (fun _ h9 => h9) rfl dX5_begin_1 ?_
  refine lv_bipush (v := 100) hx hb dX5_begin_4 (by decide) ?_
  refine lv_icmp_lt (tgt := 15) hx hb dX5_begin_6 (by decide) (fun c1 => ?_) (fun c1 => (by have n2 : ¬ (on < 100) := fun h9 => c1 ((nI_ltI (a := on) (b := 100) (by omega) (by omega)).mpr h9); omega))
  refine lv_aload_n hx hb dX5_begin_15 rfl (lv_at hl 1 rfl) ?_
  refine lv_ifnull hx hb dX5_begin_16 ?_
  refine lv_iload_n hx hb dX5_begin_19 rfl (lv_at hl 2 rfl) ?_
  refine lv_if_lt (tgt := 37) hx hb dX5_begin_20 (by decide) (fun c3 => (by have n4 : rc < 0 := (nI_ltI (a := rc) (b := 0) (by omega) (by omega)).mp c3; omega)) (fun c3 => ?_)
  refine lv_iload_n hx hb dX5_begin_23 rfl (lv_at hl 2 rfl) ?_
  refine lv_aload_n hx hb dX5_begin_24 rfl (lv_at hl 1 rfl) ?_
  refine p_get (v := .int (nI (ysl y k9))) (C := RX6) (Tc := TX6) (N := 12) (ci := 12) hx hb hq pin_wsX60 hown hE hP hO (by rw [(hps.2.2.1.T (show k9 < nm by omega))]; decide) (rep_3 (hps.2.2.1.T (show k9 < nm by omega))) rfl 9 (by decide) (hq _ pw_519) (fun _ h9 => h9) (congrArg (fun z => some (Value.int z)) hmk.2.2.2.2.2.1) dX5_begin_25 ?_
  refine lv_iadd hx hb dX5_begin_28 ?_
  refine lv_topi (fun x5 e6 => ?_)
  obtain rfl : x5 = nI (rc + (ysl y k9)) := e6.trans (nI_add (rc) ((ysl y k9)))
  refine lv_aload_n hx hb dX5_begin_29 rfl (lv_at hl 0 rfl) ?_
  refine c_get (v := .ref (a 29)) (C := RX5) (Tc := TX5) (N := 19) (ci := 4) hx hb hq pin_wsX50 hown hE hP hO 28 (sg_28 G h0 a _ _ _ _ _) rfl 2 (by decide) (hq _ pw_474) (fun _ h9 => h9) rfl dX5_begin_30 ?_
  refine c_len (n := 0) (t0 := 2) (v := 32000) hx hb hE hP hO 32 (sg_32 G h0 a _ _ _ _ _) rfl rfl dX5_begin_33 ?_
  refine lv_icmp_le (tgt := 42) hx hb dX5_begin_34 (by decide) (fun c7 => ?_) (fun c7 => (by have n8 : ¬ ((rc + (ysl y k9)) ≤ 32000) := fun h9 => c7 ((nI_leI (a := (rc + (ysl y k9))) (b := 32000) (by omega) (by omega)).mpr h9); omega))
  refine lv_aload_n hx hb dX5_begin_42 rfl (lv_at hl 0 rfl) ?_
  refine c_get (v := .ref (a 30)) (C := RX5) (Tc := TX5) (N := 19) (ci := 4) hx hb hq pin_wsX50 hown hE hP hO 28 (sg_28 G h0 a _ _ _ _ _) rfl 3 (by decide) (hq _ pw_475) (fun _ h9 => h9) rfl dX5_begin_43 ?_
  refine lv_iconst (v := 3) hx hb dX5_begin_46 (by decide) ?_
  refine lv_aload_n hx hb dX5_begin_47 rfl (lv_at hl 0 rfl) ?_
  refine c_get (v := .int (nI on)) (C := RX5) (Tc := TX5) (N := 19) (ci := 4) hx hb hq pin_wsX50 hown hE hP hO 28 (sg_28 G h0 a _ _ _ _ _) rfl 15 (by decide) (hq _ pw_502) (fun _ h9 => h9) rfl dX5_begin_48 ?_
  refine lv_imul hx hb dX5_begin_51 ?_
  refine lv_topi (fun x9 e10 => ?_)
  obtain rfl : x9 = nI (3 * on) := e10.trans (nI_mulN (3) (on))
  refine lv_aload_n hx hb dX5_begin_52 rfl (lv_at hl 0 rfl) ?_
  refine c_get (v := .int (nI pc)) (C := RX5) (Tc := TX5) (N := 19) (ci := 4) hx hb hq pin_wsX50 hown hE hP hO 28 (sg_28 G h0 a _ _ _ _ _) rfl 12 (by decide) (hq _ pw_506) (fun _ h9 => h9) rfl dX5_begin_53 ?_
  refine c_sti (f := (B 30)) (n := 300) (t0 := 0) hx hb hE hP hD hS hO 33 (sg_33 G h0 a _ _ _ _ _) rfl (vp_in_nI (by omega) (by decide)) (sb_30 G h0 a _ _ _ _ _ _) dX5_begin_56 (fun H locs w hP hD hS hO => ?_)
  rw [(nI_clamp (show (3 * on) < 2 ^ 31 by omega))] at hO
  refine lv_aload_n hx hb dX5_begin_57 rfl (lv_at hl 0 rfl) ?_
  refine c_get (v := .ref (a 30)) (C := RX5) (Tc := TX5) (N := 19) (ci := 4) hx hb hq pin_wsX50 hown hE hP hO 28 (sg_28 G h0 a _ _ _ _ _) rfl 3 (by decide) (hq _ pw_475) (fun _ h9 => h9) rfl dX5_begin_58 ?_
  refine lv_iconst (v := 3) hx hb dX5_begin_61 (by decide) ?_
  refine lv_aload_n hx hb dX5_begin_62 rfl (lv_at hl 0 rfl) ?_
  refine c_get (v := .int (nI on)) (C := RX5) (Tc := TX5) (N := 19) (ci := 4) hx hb hq pin_wsX50 hown hE hP hO 28 (sg_28 G h0 a _ _ _ _ _) rfl 15 (by decide) (hq _ pw_502) (fun _ h9 => h9) rfl dX5_begin_63 ?_
  refine lv_imul hx hb dX5_begin_66 ?_
  refine lv_topi (fun x11 e12 => ?_)
  obtain rfl : x11 = nI (3 * on) := e12.trans (nI_mulN (3) (on))
  refine lv_iconst (v := 1) hx hb dX5_begin_67 (by decide) ?_
  refine lv_iadd hx hb dX5_begin_68 ?_
  refine lv_topi (fun x13 e14 => ?_)
  obtain rfl : x13 = nI ((3 * on) + 1) := e14.trans (nI_add ((3 * on)) (1))
  refine lv_aload_n hx hb dX5_begin_69 rfl (lv_at hl 0 rfl) ?_
  refine c_get (v := .int (nI ba)) (C := RX5) (Tc := TX5) (N := 19) (ci := 4) hx hb hq pin_wsX50 hown hE hP hO 28 (sg_28 G h0 a _ _ _ _ _) rfl 10 (by decide) (hq _ pw_504) (fun _ h9 => h9) rfl dX5_begin_70 ?_
  refine c_sti (f := (upd (B 30) (3 * on) (nI pc))) (n := 300) (t0 := 0) hx hb hE hP hD hS hO 33 (sg_33 G h0 a _ _ _ _ _) rfl (vp_in_nI (by omega) (by decide)) (sb_30 G h0 a _ _ _ _ _ _) dX5_begin_73 (fun H locs w hP hD hS hO => ?_)
  rw [(nI_clamp (show ((3 * on) + 1) < 2 ^ 31 by omega))] at hO
  refine lv_aload_n hx hb dX5_begin_74 rfl (lv_at hl 0 rfl) ?_
  refine c_get (v := .ref (a 30)) (C := RX5) (Tc := TX5) (N := 19) (ci := 4) hx hb hq pin_wsX50 hown hE hP hO 28 (sg_28 G h0 a _ _ _ _ _) rfl 3 (by decide) (hq _ pw_475) (fun _ h9 => h9) rfl dX5_begin_75 ?_
  refine lv_iconst (v := 3) hx hb dX5_begin_78 (by decide) ?_
  refine lv_aload_n hx hb dX5_begin_79 rfl (lv_at hl 0 rfl) ?_
  refine c_get (v := .int (nI on)) (C := RX5) (Tc := TX5) (N := 19) (ci := 4) hx hb hq pin_wsX50 hown hE hP hO 28 (sg_28 G h0 a _ _ _ _ _) rfl 15 (by decide) (hq _ pw_502) (fun _ h9 => h9) rfl dX5_begin_80 ?_
  refine lv_imul hx hb dX5_begin_83 ?_
  refine lv_topi (fun x15 e16 => ?_)
  obtain rfl : x15 = nI (3 * on) := e16.trans (nI_mulN (3) (on))
  refine lv_iconst (v := 2) hx hb dX5_begin_84 (by decide) ?_
  refine lv_iadd hx hb dX5_begin_85 ?_
  refine lv_topi (fun x17 e18 => ?_)
  obtain rfl : x17 = nI ((3 * on) + 2) := e18.trans (nI_add ((3 * on)) (2))
  refine lv_aload_n hx hb dX5_begin_86 rfl (lv_at hl 0 rfl) ?_
  refine c_get (v := .null) (C := RX5) (Tc := TX5) (N := 19) (ci := 4) hx hb hq pin_wsX50 hown hE hP hO 28 (sg_28 G h0 a _ _ _ _ _) rfl 9 (by decide) (hq _ pw_503) (fun _ h9 => h9) rfl dX5_begin_87 ?_
  refine lv_ifnonnullN hx hb dX5_begin_90 ?_
  refine lv_iconst (v := (-1)) hx hb dX5_begin_93 (by decide) ?_
  refine lv_goto (tgt := 104) hx hb dX5_begin_94 (by decide) ?_
  refine c_sti (f := (upd (upd (B 30) (3 * on) (nI pc)) ((3 * on) + 1) (nI ba))) (n := 300) (t0 := 0) hx hb hE hP hD hS hO 33 (sg_33 G h0 a _ _ _ _ _) rfl (vp_in_nI (by omega) (by decide)) (sb_30 G h0 a _ _ _ _ _ _) dX5_begin_104 (fun H locs w hP hD hS hO => ?_)
  rw [(nI_clamp (show ((3 * on) + 2) < 2 ^ 31 by omega))] at hO
  refine lv_aload_n hx hb dX5_begin_105 rfl (lv_at hl 0 rfl) ?_
  refine lv_dup hx hb dX5_begin_106 rfl ?_
  refine c_get (v := .int (nI on)) (C := RX5) (Tc := TX5) (N := 19) (ci := 4) hx hb hq pin_wsX50 hown hE hP hO 28 (sg_28 G h0 a _ _ _ _ _) rfl 15 (by decide) (hq _ pw_502) (fun _ h9 => h9) rfl dX5_begin_107 ?_
  refine lv_iconst (v := 1) hx hb dX5_begin_110 (by decide) ?_
  refine lv_iadd hx hb dX5_begin_111 ?_
  refine lv_topi (fun x19 e20 => ?_)
  obtain rfl : x19 = nI (on + 1) := e20.trans (nI_add (on) (1))
  refine c_put (v := .int (nI (on + 1))) (ty := .int) (C := RX5) (Tc := TX5) (N := 19) (ci := 4) hx hb hq pin_wsX50 tyX5 tyX5_ok nmX5 hown hE hP hD hS hO 28 (sg_28 G h0 a _ _ _ _ _) rfl 15 (by decide) (hq _ pw_502) (fun _ h9 => h9) rfl (by decide +kernel) rfl rfl (Nat.le_of_ble_eq_true rfl) (sf_22 G h0 a _ _ _ _ _ (nI (on + 1))) dX5_begin_112 (fun H locs w hP hD hS hO => ?_)
  refine lv_aload_n hx hb dX5_begin_115 rfl (lv_at hl 0 rfl) ?_
  refine c_get (v := .ref (a 33)) (C := RX5) (Tc := TX5) (N := 19) (ci := 4) hx hb hq pin_wsX50 hown hE hP hO 28 (sg_28 G h0 a _ _ _ _ _) rfl 7 (by decide) (hq _ pw_478) (fun _ h9 => h9) rfl dX5_begin_116 ?_
  refine lv_bipush (v := 10) hx hb dX5_begin_119 (by decide) ?_
  refine lv_dup2_11 hx hb dX5_begin_121 rfl rfl ?_
  refine c_ldi (f := (B 33)) (n := 12) (t0 := 0) hx hb hE hP hO 36 (sg_36 G h0 a _ _ _ _ _) rfl (by unfold vp_in; decide) dX5_begin_122 ?_
  refine W.eq (g2 := F0 m 123 ls [.int ((B 33) 10), .int 10, .ref (a 33)]) rfl ?_
  refine lv_topi (fun x21 e22 => ?_)
  refine lv_iconst (v := 1) hx hb dX5_begin_123 (by decide) ?_
  refine lv_iadd hx hb dX5_begin_124 ?_
  refine lv_topi (fun x23 e24 => ?_)
  refine c_sti (f := (B 33)) (n := 12) (t0 := 0) hx hb hE hP hD hS hO 36 (sg_36 G h0 a _ _ _ _ _) rfl (by unfold vp_in; decide) (sb_33 G h0 a _ _ _ _ _ _) dX5_begin_125 (fun H locs w hP hD hS hO => ?_)
  refine lv_aload_n hx hb dX5_begin_126 rfl (lv_at hl 0 rfl) ?_
  refine c_get (v := .ref (a 33)) (C := RX5) (Tc := TX5) (N := 19) (ci := 4) hx hb hq pin_wsX50 hown hE hP hO 28 (sg_28 G h0 a _ _ _ _ _) rfl 7 (by decide) (hq _ pw_478) (fun _ h9 => h9) rfl dX5_begin_127 ?_
  refine lv_bipush (v := 11) hx hb dX5_begin_130 (by decide) ?_
  refine lv_aload_n hx hb dX5_begin_132 rfl (lv_at hl 0 rfl) ?_
  refine c_get (v := .ref (a 33)) (C := RX5) (Tc := TX5) (N := 19) (ci := 4) hx hb hq pin_wsX50 hown hE hP hO 28 (sg_28 G h0 a _ _ _ _ _) rfl 7 (by decide) (hq _ pw_478) (fun _ h9 => h9) rfl dX5_begin_133 ?_
  refine lv_bipush (v := 11) hx hb dX5_begin_136 (by decide) ?_
  refine c_ldi (f := (upd (B 33) 10 x23)) (n := 12) (t0 := 0) hx hb hE hP hO 36 (sg_36 G h0 a _ _ _ _ _) rfl (by unfold vp_in; decide) dX5_begin_138 ?_
  refine W.eq (g2 := F0 m 139 ls [.int ((upd (B 33) 10 x23) 11), .int 11, .ref (a 33)]) rfl ?_
  refine lv_topi (fun x25 e26 => ?_)
  refine lv_aload_n hx hb dX5_begin_139 rfl (lv_at hl 0 rfl) ?_
  refine c_get (v := .int (nI (on + 1))) (C := RX5) (Tc := TX5) (N := 19) (ci := 4) hx hb hq pin_wsX50 hown hE hP hO 28 (sg_28 G h0 a _ _ _ _ _) rfl 15 (by decide) (hq _ pw_502) (fun _ h9 => h9) rfl dX5_begin_140 ?_
  refine va_mmax (own := RX5) hx hb (by rw [hml]; exact hl.1.symm) hown (hq _ pw_520) (hq _ pw_51) (hq _ pw_52) (hq _ pw_53) (Nat.le_of_ble_eq_true rfl) (Nat.le_of_ble_eq_true rfl) (Nat.le_of_ble_eq_true rfl) (Nat.le_of_ble_eq_true rfl) dX5_begin_143 ?_
  refine lv_topi (fun x27 e28 => ?_)
  refine c_sti (f := (upd (B 33) 10 x23)) (n := 12) (t0 := 0) hx hb hE hP hD hS hO 36 (sg_36 G h0 a _ _ _ _ _) rfl (by unfold vp_in; decide) (sb_33 G h0 a _ _ _ _ _ _) dX5_begin_146 (fun H locs w hP hD hS hO => ?_)
  refine lv_aload_n hx hb dX5_begin_147 rfl (lv_at hl 0 rfl) ?_
  refine lv_aload_n hx hb dX5_begin_148 rfl (lv_at hl 1 rfl) ?_
  refine c_put (v := .ref (it k9)) (ty := (.object "JinjaTongue$Method")) (C := RX5) (Tc := TX5) (N := 19) (ci := 4) hx hb hq pin_wsX50 tyX5 tyX5_ok nmX5 hown hE hP hD hS hO 28 (sg_28 G h0 a _ _ _ _ _) rfl 9 (by decide) (hq _ pw_503) (fun _ h9 => h9) rfl (by decide +kernel) rfl rfl (Nat.le_of_ble_eq_true rfl) (sr_6 G h0 a _ _ _ _ _ (.ref (it k9))) dX5_begin_149 (fun H locs w hP hD hS hO => ?_)
  refine lv_aload_n hx hb dX5_begin_152 rfl (lv_at hl 0 rfl) ?_
  refine lv_iload_n hx hb dX5_begin_153 rfl (lv_at hl 2 rfl) ?_
  refine c_put (v := .int (nI rc)) (ty := .int) (C := RX5) (Tc := TX5) (N := 19) (ci := 4) hx hb hq pin_wsX50 tyX5 tyX5_ok nmX5 hown hE hP hD hS hO 28 (sg_28 G h0 a _ _ _ _ _) rfl 10 (by decide) (hq _ pw_504) (fun _ h9 => h9) rfl (by decide +kernel) rfl rfl (Nat.le_of_ble_eq_true rfl) (sf_18 G h0 a _ _ _ _ _ (nI rc)) dX5_begin_154 (fun H locs w hP hD hS hO => ?_)
  refine lv_aload_n hx hb dX5_begin_157 rfl (lv_at hl 0 rfl) ?_
  refine lv_aload_n hx hb dX5_begin_158 rfl (lv_at hl 0 rfl) ?_
  refine c_get (v := .int (nI rc)) (C := RX5) (Tc := TX5) (N := 19) (ci := 4) hx hb hq pin_wsX50 hown hE hP hO 28 (sg_28 G h0 a _ _ _ _ _) rfl 10 (by decide) (hq _ pw_504) (fun _ h9 => h9) rfl dX5_begin_159 ?_
  refine lv_aload_n hx hb dX5_begin_162 rfl (lv_at hl 1 rfl) ?_
  refine p_get (v := .int (nI (ysl y k9))) (C := RX6) (Tc := TX6) (N := 12) (ci := 12) hx hb hq pin_wsX60 hown hE hP hO (by rw [(hps.2.2.1.T (show k9 < nm by omega))]; decide) (rep_3 (hps.2.2.1.T (show k9 < nm by omega))) rfl 9 (by decide) (hq _ pw_519) (fun _ h9 => h9) (congrArg (fun z => some (Value.int z)) hmk.2.2.2.2.2.1) dX5_begin_163 ?_
  refine lv_iadd hx hb dX5_begin_166 ?_
  refine lv_topi (fun x29 e30 => ?_)
  obtain rfl : x29 = nI (rc + (ysl y k9)) := e30.trans (nI_add (rc) ((ysl y k9)))
  refine c_put (v := .int (nI (rc + (ysl y k9)))) (ty := .int) (C := RX5) (Tc := TX5) (N := 19) (ci := 4) hx hb hq pin_wsX50 tyX5 tyX5_ok nmX5 hown hE hP hD hS hO 28 (sg_28 G h0 a _ _ _ _ _) rfl 11 (by decide) (hq _ pw_505) (fun _ h9 => h9) rfl (by decide +kernel) rfl rfl (Nat.le_of_ble_eq_true rfl) (sf_19 G h0 a _ _ _ _ _ (nI (rc + (ysl y k9)))) dX5_begin_167 (fun H locs w hP hD hS hO => ?_)
  refine lv_aload_n hx hb dX5_begin_170 rfl (lv_at hl 0 rfl) ?_
  refine lv_aload_n hx hb dX5_begin_171 rfl (lv_at hl 1 rfl) ?_
  refine p_get (v := .int (nI (ylo y k9))) (C := RX6) (Tc := TX6) (N := 12) (ci := 12) hx hb hq pin_wsX60 hown hE hP hO (by rw [(hps.2.2.1.T (show k9 < nm by omega))]; decide) (rep_3 (hps.2.2.1.T (show k9 < nm by omega))) rfl 8 (by decide) (hq _ pw_565) (fun _ h9 => h9) (congrArg (fun z => some (Value.int z)) hmk.2.2.2.2.1) dX5_begin_172 ?_
  refine c_put (v := .int (nI (ylo y k9))) (ty := .int) (C := RX5) (Tc := TX5) (N := 19) (ci := 4) hx hb hq pin_wsX50 tyX5 tyX5_ok nmX5 hown hE hP hD hS hO 28 (sg_28 G h0 a _ _ _ _ _) rfl 13 (by decide) (hq _ pw_566) (fun _ h9 => h9) rfl (by decide +kernel) rfl rfl (Nat.le_of_ble_eq_true rfl) (sf_21 G h0 a _ _ _ _ _ (nI (ylo y k9))) dX5_begin_175 (fun H locs w hP hD hS hO => ?_)
  have hz31 : BgQ on rc (ysl y k9) (ylo y k9) (it k9) (nI pc) (nI ba) (-1) (B 30) tp (rc + (ysl y k9)) (5 : Int32) (F 21) (nI (ylo y k9)) rc (on + 1) (it k9) (upd (upd (upd (B 30) (3 * on) (nI pc)) ((3 * on) + 1) (nI ba)) ((3 * on) + 2) (-1)) := (Or.inr ⟨by omega, rfl, rfl, rfl, rfl, rfl, rfl, rfl⟩)
  have hz32 : (upd (upd (B 33) 10 x23) 11 x27) 5 = nI fl := ((if_neg (by decide)).trans ((if_neg (by decide)).trans hfl))
  have hz33 : (rc + (ysl y k9)) ≤ 32000 ∧ rc ≤ 32000 ∧ (on + 1) ≤ 100 := (by omega)
  have hO : OKP G h0 a (upd (upd (upd (upd (upd (upd F 18 (nI rc)) 19 (nI (rc + (ysl y k9)))) 20 (nI pc)) 21 (nI (ylo y k9))) 22 (nI (on + 1))) 23 (5 : Int32)) (updR (updR R 5 (.ref pq)) 6 (.ref (it k9))) Z (updA (updA B 30 (upd (upd (upd (B 30) (3 * on) (nI pc)) ((3 * on) + 1) (nI ba)) ((3 * on) + 2) (-1))) 33 (upd (upd (B 33) 10 x23) 11 x27)) J K w := hO.to rfl
  exact W.vret hx hb hr (fun t99 ht99 hW99 => ⟨⟨_, (w, ((rc + (ysl y k9)), (5 : Int32), (nI (ylo y k9)), rc, (on + 1), (it k9), (upd (upd (B 33) 10 x23) 11 x27), (upd (upd (upd (B 30) (3 * on) (nI pc)) ((3 * on) + 1) (nI ba)) ((3 * on) + 2) (-1)))), rfl, ⟨rfl, hz31, hz32, hz33, hO⟩, by rw [ht99]; exact hP, hD⟩, hS.F ht99⟩) hS.2.2 dX5_begin_178
