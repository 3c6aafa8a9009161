theorem dX9_settle_0 : decode cX9_settle 0 = .ok (.aload_n 0, 1) := by decide +kernel
theorem dX9_settle_1 : decode cX9_settle 1 = .ok (.getfield 38, 3) := by decide +kernel
theorem dX9_settle_4 : decode cX9_settle 4 = .ok (.ldc 37, 2) := by decide +kernel
theorem dX9_settle_6 : decode cX9_settle 6 = .ok (.if_icmp .eq 24, 3) := by decide +kernel
theorem dX9_settle_30 : decode cX9_settle 30 = .ok (.return_, 1) := by decide +kernel
theorem dX9_settle_9 : decode cX9_settle 9 = .ok (.aload_n 0, 1) := by decide +kernel
theorem dX9_settle_10 : decode cX9_settle 10 = .ok (.getfield 9, 3) := by decide +kernel
theorem dX9_settle_13 : decode cX9_settle 13 = .ok (.aload_n 0, 1) := by decide +kernel
theorem dX9_settle_14 : decode cX9_settle 14 = .ok (.getfield 38, 3) := by decide +kernel
theorem dX9_settle_17 : decode cX9_settle 17 = .ok (.putfield 106, 3) := by decide +kernel
theorem dX9_settle_20 : decode cX9_settle 20 = .ok (.new 109, 3) := by decide +kernel
theorem dX9_settle_23 : decode cX9_settle 23 = .ok (.dup, 1) := by decide +kernel
theorem dX9_settle_24 : decode cX9_settle 24 = .ok (.ldc 111, 2) := by decide +kernel
theorem dX9_settle_26 : decode cX9_settle 26 = .ok (.invokespecial 113, 3) := by decide +kernel
theorem dX9_settle_29 : decode cX9_settle 29 = .ok (.athrow, 1) := by decide +kernel
set_option maxHeartbeats 6000000 in
set_option maxRecDepth 100000 in
theorem G_settle (l : Launch) (G : pT) (h0 : Nat) (a : Nat → Nat) (F : Nat → Int32) (R : Nat → Value) (Z : Int64) (B : Nat → Nat → Int32) (J : Nat → Nat → Int64) (K : PK) (w : va_W) (pq : Nat) (dr : Nat) (ml : Nat) (nd : Nat) (sz : Nat) (g : Nat → Nat → Nat) (hsz : sz ≤ 5000) (hpb : PgB K g (a 1) pq dr ml nd) (hO : OKP G h0 a (upd F 2 (nI sz)) R Z B J K w) (hl0 : l.stackTraces = false) : PBn l G pX0 yX9_settle cX9_settle 1 none ({ frames := 6, cells := 1, slots := 6, locals := 100 }) [.ref pq] w (fun (v : Option Value) (u : va_W × (Unit)) => v = none ∧ (K.2.1 25 pq = 2147483647) ∧ (OKP G h0 a (upd F 2 (nI sz)) R Z B J K u.1)) (fun u => u.1) (fun (u : va_W × (Unit)) => 0) (fun (u : va_W × (Unit)) => 0) (fun (u : va_W × (Nat → Int32) × (Nat → Value) × (Nat → Nat → Int32)) => ThQ G h0 a (upd F 2 (nI sz)) R Z B J u) (fun u => u.1) := by
  intro sz
  refine vx_ofW (cc := cX9_settle) (maxL := 1) (ret := none) (by decide) rfl ?_
  intro p e s m args below meth c s₁ B9 hml hnt hv
  obtain ⟨rfl, hsz, hP, hD0, hE, hX⟩ := hv
  have hx := B9.exec
  have hb := B9.bytes
  have hr := B9.returns
  have hts := atoms_spec (ws := Cond.code yX9_settle cX9_settle 1 none :: pw) B9.pre
  have hq : ∀ w ∈ pw, w.before _ s = true := fun w h => hts w (List.mem_cons_of_mem _ h)
  have hown : s.vm.findClass RX9 = some m.cls := findClass_of_methodNamed B9.named
  have hlocks := B9.notSynchronized
  subst hsz
  have hD := hD0.self (sz := s.heap.size)
  have hA : ∀ q : Nat, s.heap.size ≤ q → va_A w s.heap.size q := fun q h => Or.inr h
  generalize va_A w s.heap.size = A at hD hE hA ⊢
  have hS : va_S A s.heap s.heap [] := va_S.rf
  have hl := lv_entry ([.ref pq]) (n := 1) (Nat.le_of_ble_eq_true rfl)
  rw [lg_entry_eq]
  generalize (lg_sl ([.ref pq]) ++ List.replicate (1 - (lg_sl ([.ref pq])).length) Slot.unset).toArray = ls at hl ⊢
  have hl : lv_has ls 1 [(0, .ref pq)] := hl
  have hp1 := hpb.1
  have hp2 := hpb.2.1
  have hp3 := hpb.2.2.1
  have hp4 := hpb.2.2.2.1
  have hp5 := hpb.2.2.2.2.1
  have hp6 := hpb.2.2.2.2.2.1
  have hp8 := hpb.2.2.2.2.2.2.2.1
  have hp9 := hpb.2.2.2.2.2.2.2.2
  refine lv_aload_n hx hb dX9_settle_0 rfl (lv_at hl 0 rfl) ?_
  refine p_get (v := .int (K.2.1 25 pq)) (C := RX9) (Tc := TX9) (N := 5) (ci := 6) hx hb hq pin_wsX90 hown hE hP hO (by rw [hp1]; decide) (rep_7 hp1) rfl 4 (by decide) (hq _ pw_1080) (fun _ h9 => h9) rfl dX9_settle_1 ?_
  refine lv_ldc (v := 2147483647) hx hb hown (hq _ pw_1079) dX9_settle_4 ?_
  refine lv_icmp_eq (tgt := 30) hx hb dX9_settle_6 (by decide) (fun c1 => ?_) (fun c1 => ?_)
  · refine W_size (fun hz1 hz2 => ?_)
    refine vx_ret ?_
    have hz2 : K.2.1 25 pq = 2147483647 := c1
    have hO : OKP G h0 a (upd F 2 (nI sz)) R Z B J K w := hO.to rfl
    refine W.widen (k := 1) (n := 6) (by omega) (by omega) ?_
    have hzz1 : s.heap.size ≤ s.heap.size + (0) := (by have z : 0 ≤ 0 := (by omega); omega)
    have hzz2 : hSl s.heap ≤ hSl s.heap + (0) := (by have z : 0 ≤ 0 := (by omega); omega)
    exact W.vret hx hb hr (fun t99 ht99 hW99 => ⟨⟨_, (w, ()), rfl, ⟨rfl, hz2, hO⟩, by rw [ht99]; exact hP, hD, by rw [ht99]; exact hzz1, by rw [ht99]; exact hzz2⟩, hS.F ht99⟩) hS.2.2 dX9_settle_30
  · refine lv_aload_n hx hb dX9_settle_9 rfl (lv_at hl 0 rfl) ?_
    refine p_get (v := .ref (a 1)) (C := RX9) (Tc := TX9) (N := 5) (ci := 6) hx hb hq pin_wsX90 hown hE hP hO (by rw [hp1]; decide) (rep_7 hp1) rfl 0 (by decide) (hq _ pw_784) (fun _ h9 => h9) (congrArg (fun z => some (va_rf z)) hp2) dX9_settle_10 ?_
    refine lv_aload_n hx hb dX9_settle_13 rfl (lv_at hl 0 rfl) ?_
    refine p_get (v := .int (K.2.1 25 pq)) (C := RX9) (Tc := TX9) (N := 5) (ci := 6) hx hb hq pin_wsX90 hown hE hP hO (by rw [hp1]; decide) (rep_7 hp1) rfl 4 (by decide) (hq _ pw_1080) (fun _ h9 => h9) rfl dX9_settle_14 ?_
    refine c_put (v := .int (K.2.1 25 pq)) (ty := .int) (C := RX10) (Tc := TX10) (N := 15) (ci := 7) hx hb hq pin_wsX100 tyX10 tyX10_ok nmX10 hown hE hP hD hS hO 2 (sg_2 G h0 a _ _ _ _ _) rfl 14 (by decide) (hq _ pw_1131) (fun _ h9 => h9) rfl (by decide +kernel) rfl rfl (Nat.le_of_ble_eq_true rfl) (sf_4 G h0 a _ _ _ _ _ (K.2.1 25 pq)) dX9_settle_17 (fun H locs w hP hD hS hO => ?_)
    have hO9 : OKP G h0 a (upd (upd F 2 (nI sz)) 4 (K.2.1 25 pq)) R Z B J K w := hO.to rfl
    exact pb_throw (w, (upd (upd F 2 (nI sz)) 4 (K.2.1 25 pq)), R, B) (ThQ.of (Thx.f Thx.rfl (by omega)) RhX.rfl hO9) hx hb hl0 hown hq hE xf_IS pw_1130 pw_45 (hE.2.2.1 12 (by decide)) xw_1 xb_1 hE.pc.1 xg_1 hnt hlocks hml hl.1 hP hD hS dX9_settle_20 dX9_settle_23 dX9_settle_24 dX9_settle_26 dX9_settle_29 (Nat.le_of_ble_eq_true rfl) (Nat.le_of_ble_eq_true rfl) (by show 0 + 1 ≤ 1; omega) (by show 0 + 6 ≤ 6; omega) (by show 0 + 1 ≤ 1; omega) (by show 0 + 6 ≤ 6; omega)
theorem dX9_resolveTypes_0 : decode cX9_resolveTypes 0 = .ok (.iconst 0, 1) := by decide +kernel
theorem dX9_resolveTypes_1 : decode cX9_resolveTypes 1 = .ok (.istore_n 1, 1) := by decide +kernel
theorem dX9_resolveTypes_2 : decode cX9_resolveTypes 2 = .ok (.iload_n 1, 1) := by decide +kernel
theorem dX9_resolveTypes_3 : decode cX9_resolveTypes 3 = .ok (.aload_n 0, 1) := by decide +kernel
theorem dX9_resolveTypes_4 : decode cX9_resolveTypes 4 = .ok (.getfield 9, 3) := by decide +kernel
theorem dX9_resolveTypes_7 : decode cX9_resolveTypes 7 = .ok (.getfield 126, 3) := by decide +kernel
theorem dX9_resolveTypes_10 : decode cX9_resolveTypes 10 = .ok (.if_icmp .ge 147, 3) := by decide +kernel
theorem dX9_resolveTypes_157 : decode cX9_resolveTypes 157 = .ok (.return_, 1) := by decide +kernel
theorem dX9_resolveTypes_13 : decode cX9_resolveTypes 13 = .ok (.bipush 63, 2) := by decide +kernel
theorem dX9_resolveTypes_15 : decode cX9_resolveTypes 15 = .ok (.istore_n 2, 1) := by decide +kernel
theorem dX9_resolveTypes_16 : decode cX9_resolveTypes 16 = .ok (.aload_n 0, 1) := by decide +kernel
theorem dX9_resolveTypes_17 : decode cX9_resolveTypes 17 = .ok (.getfield 9, 3) := by decide +kernel
theorem dX9_resolveTypes_20 : decode cX9_resolveTypes 20 = .ok (.iload_n 1, 1) := by decide +kernel
theorem dX9_resolveTypes_21 : decode cX9_resolveTypes 21 = .ok (.invokevirtual 127, 3) := by decide +kernel
theorem dX9_resolveTypes_24 : decode cX9_resolveTypes 24 = .ok (.ifCond .eq 19, 3) := by decide +kernel
theorem dX9_resolveTypes_43 : decode cX9_resolveTypes 43 = .ok (.aload_n 0, 1) := by decide +kernel
theorem dX9_resolveTypes_44 : decode cX9_resolveTypes 44 = .ok (.getfield 9, 3) := by decide +kernel
theorem dX9_resolveTypes_47 : decode cX9_resolveTypes 47 = .ok (.iload_n 1, 1) := by decide +kernel
theorem dX9_resolveTypes_48 : decode cX9_resolveTypes 48 = .ok (.invokevirtual 168, 3) := by decide +kernel
theorem dX9_resolveTypes_51 : decode cX9_resolveTypes 51 = .ok (.bipush 13, 2) := by decide +kernel
theorem dX9_resolveTypes_53 : decode cX9_resolveTypes 53 = .ok (.if_icmp .eq 15, 3) := by decide +kernel
theorem dX9_resolveTypes_68 : decode cX9_resolveTypes 68 = .ok (.aload_n 0, 1) := by decide +kernel
theorem dX9_resolveTypes_69 : decode cX9_resolveTypes 69 = .ok (.getfield 9, 3) := by decide +kernel
theorem dX9_resolveTypes_72 : decode cX9_resolveTypes 72 = .ok (.iload_n 1, 1) := by decide +kernel
theorem dX9_resolveTypes_73 : decode cX9_resolveTypes 73 = .ok (.invokevirtual 168, 3) := by decide +kernel
theorem dX9_resolveTypes_76 : decode cX9_resolveTypes 76 = .ok (.bipush 13, 2) := by decide +kernel
theorem dX9_resolveTypes_78 : decode cX9_resolveTypes 78 = .ok (.if_icmp .ne 8, 3) := by decide +kernel
theorem dX9_resolveTypes_86 : decode cX9_resolveTypes 86 = .ok (.bipush 61, 2) := by decide +kernel
theorem dX9_resolveTypes_88 : decode cX9_resolveTypes 88 = .ok (.istore_n 2, 1) := by decide +kernel
theorem dX9_resolveTypes_89 : decode cX9_resolveTypes 89 = .ok (.aload_n 0, 1) := by decide +kernel
theorem dX9_resolveTypes_90 : decode cX9_resolveTypes 90 = .ok (.getfield 9, 3) := by decide +kernel
theorem dX9_resolveTypes_93 : decode cX9_resolveTypes 93 = .ok (.iload_n 1, 1) := by decide +kernel
theorem dX9_resolveTypes_94 : decode cX9_resolveTypes 94 = .ok (.iconst 1, 1) := by decide +kernel
theorem dX9_resolveTypes_95 : decode cX9_resolveTypes 95 = .ok (.iadd, 1) := by decide +kernel
theorem dX9_resolveTypes_96 : decode cX9_resolveTypes 96 = .ok (.invokevirtual 168, 3) := by decide +kernel
theorem dX9_resolveTypes_99 : decode cX9_resolveTypes 99 = .ok (.bipush 36, 2) := by decide +kernel
theorem dX9_resolveTypes_101 : decode cX9_resolveTypes 101 = .ok (.if_icmp .ne 22, 3) := by decide +kernel
theorem dX9_resolveTypes_123 : decode cX9_resolveTypes 123 = .ok (.iconst 0, 1) := by decide +kernel
theorem dX9_resolveTypes_124 : decode cX9_resolveTypes 124 = .ok (.istore_n 3, 1) := by decide +kernel
theorem dX9_resolveTypes_125 : decode cX9_resolveTypes 125 = .ok (.aload_n 0, 1) := by decide +kernel
theorem dX9_resolveTypes_126 : decode cX9_resolveTypes 126 = .ok (.getfield 9, 3) := by decide +kernel
theorem dX9_resolveTypes_129 : decode cX9_resolveTypes 129 = .ok (.iload_n 1, 1) := by decide +kernel
theorem dX9_resolveTypes_130 : decode cX9_resolveTypes 130 = .ok (.iload_n 3, 1) := by decide +kernel
theorem dX9_resolveTypes_131 : decode cX9_resolveTypes 131 = .ok (.ifCond .eq 16, 3) := by decide +kernel
theorem dX9_resolveTypes_147 : decode cX9_resolveTypes 147 = .ok (.iload_n 2, 1) := by decide +kernel
theorem dX9_resolveTypes_148 : decode cX9_resolveTypes 148 = .ok (.invokevirtual 171, 3) := by decide +kernel
theorem dX9_resolveTypes_151 : decode cX9_resolveTypes 151 = .ok (.iinc 1 1, 3) := by decide +kernel
theorem dX9_resolveTypes_154 : decode cX9_resolveTypes 154 = .ok (.goto (-152), 3) := by decide +kernel
theorem dX9_resolveTypes_104 : decode cX9_resolveTypes 104 = .ok (.aload_n 0, 1) := by decide +kernel
theorem dX9_resolveTypes_105 : decode cX9_resolveTypes 105 = .ok (.getfield 9, 3) := by decide +kernel
theorem dX9_resolveTypes_108 : decode cX9_resolveTypes 108 = .ok (.iload_n 1, 1) := by decide +kernel
theorem dX9_resolveTypes_109 : decode cX9_resolveTypes 109 = .ok (.iconst 2, 1) := by decide +kernel
theorem dX9_resolveTypes_110 : decode cX9_resolveTypes 110 = .ok (.iadd, 1) := by decide +kernel
theorem dX9_resolveTypes_111 : decode cX9_resolveTypes 111 = .ok (.invokevirtual 168, 3) := by decide +kernel
theorem dX9_resolveTypes_114 : decode cX9_resolveTypes 114 = .ok (.bipush 37, 2) := by decide +kernel
theorem dX9_resolveTypes_116 : decode cX9_resolveTypes 116 = .ok (.if_icmp .ne 7, 3) := by decide +kernel
theorem dX9_resolveTypes_119 : decode cX9_resolveTypes 119 = .ok (.iconst 1, 1) := by decide +kernel
theorem dX9_resolveTypes_120 : decode cX9_resolveTypes 120 = .ok (.goto 4, 3) := by decide +kernel
theorem dX9_resolveTypes_134 : decode cX9_resolveTypes 134 = .ok (.iload_n 2, 1) := by decide +kernel
theorem dX9_resolveTypes_135 : decode cX9_resolveTypes 135 = .ok (.bipush 63, 2) := by decide +kernel
theorem dX9_resolveTypes_137 : decode cX9_resolveTypes 137 = .ok (.if_icmp .eq 10, 3) := by decide +kernel
theorem dX9_resolveTypes_140 : decode cX9_resolveTypes 140 = .ok (.bipush 64, 2) := by decide +kernel
theorem dX9_resolveTypes_142 : decode cX9_resolveTypes 142 = .ok (.iload_n 2, 1) := by decide +kernel
theorem dX9_resolveTypes_143 : decode cX9_resolveTypes 143 = .ok (.iadd, 1) := by decide +kernel
theorem dX9_resolveTypes_144 : decode cX9_resolveTypes 144 = .ok (.goto 4, 3) := by decide +kernel
theorem dX9_resolveTypes_81 : decode cX9_resolveTypes 81 = .ok (.bipush 60, 2) := by decide +kernel
theorem dX9_resolveTypes_83 : decode cX9_resolveTypes 83 = .ok (.goto 5, 3) := by decide +kernel
theorem dX9_resolveTypes_56 : decode cX9_resolveTypes 56 = .ok (.aload_n 0, 1) := by decide +kernel
theorem dX9_resolveTypes_57 : decode cX9_resolveTypes 57 = .ok (.getfield 9, 3) := by decide +kernel
theorem dX9_resolveTypes_60 : decode cX9_resolveTypes 60 = .ok (.iload_n 1, 1) := by decide +kernel
theorem dX9_resolveTypes_61 : decode cX9_resolveTypes 61 = .ok (.invokevirtual 168, 3) := by decide +kernel
theorem dX9_resolveTypes_64 : decode cX9_resolveTypes 64 = .ok (.iconst 1, 1) := by decide +kernel
theorem dX9_resolveTypes_65 : decode cX9_resolveTypes 65 = .ok (.if_icmp .ne 24, 3) := by decide +kernel
theorem dX9_resolveTypes_27 : decode cX9_resolveTypes 27 = .ok (.aload_n 0, 1) := by decide +kernel
theorem dX9_resolveTypes_28 : decode cX9_resolveTypes 28 = .ok (.aload_n 0, 1) := by decide +kernel
theorem dX9_resolveTypes_29 : decode cX9_resolveTypes 29 = .ok (.getfield 9, 3) := by decide +kernel
theorem dX9_resolveTypes_32 : decode cX9_resolveTypes 32 = .ok (.iload_n 1, 1) := by decide +kernel
theorem dX9_resolveTypes_33 : decode cX9_resolveTypes 33 = .ok (.invokevirtual 41, 3) := by decide +kernel
theorem dX9_resolveTypes_36 : decode cX9_resolveTypes 36 = .ok (.invokevirtual 116, 3) := by decide +kernel
theorem dX9_resolveTypes_39 : decode cX9_resolveTypes 39 = .ok (.istore_n 2, 1) := by decide +kernel
theorem dX9_resolveTypes_40 : decode cX9_resolveTypes 40 = .ok (.goto 49, 3) := by decide +kernel
theorem hV_X10_giveType : yX10_giveType.cls = RX10 ∧ yX10_giveType.cls ≠ "java/lang/invoke/MethodHandle" ∧ yX10_giveType.cls ≠ "java/lang/invoke/VarHandle" ∧ (parseMethodDescriptor yX10_giveType.desc).map (fun d => d.parameters.length) = some 2 := by decide +kernel
set_option maxHeartbeats 30000000 in
set_option maxRecDepth 100000 in
theorem G_resolveTypes (l : Launch) (G : pT) (h0 : Nat) (a : Nat → Nat) (F : Nat → Int32) (R : Nat → Value) (Z : Int64) (B : Nat → Nat → Int32) (J : Nat → Nat → Int64) (K : PK) (w : va_W) (pq : Nat) (dr : Nat) (ml : Nat) (nd : Nat) (sz : Nat) (g : Nat → Nat → Nat) (hpb : PgB K g (a 1) pq dr ml nd) (hsz : sz ≤ 5000) (hdc : DcR K g dr nd) (hO : OKP G h0 a (upd F 2 (nI sz)) R Z B J K w) : PM l G pX0 yX9_resolveTypes cX9_resolveTypes 4 none ({ frames := 3, cells := 0, slots := 0, locals := 82 }) [.ref pq] w (fun (v : Option Value) (u : va_W × ((Nat → Int32))) => v = none ∧ (OKP G h0 a (upd F 2 (nI sz)) R Z (updA B 11 u.2) J K u.1)) (fun u => u.1) := by
  intro sz
  refine Met.ofW (cc := cX9_resolveTypes) (maxL := 4) (ret := none) (by decide) rfl ?_
  intro p e s m args below meth c s₁ B9 hml hv
  obtain ⟨rfl, hsz, hP, hD0, hE, hX⟩ := hv
  have hx := B9.exec
  have hb := B9.bytes
  have hr := B9.returns
  have hts := atoms_spec (ws := Cond.code yX9_resolveTypes cX9_resolveTypes 4 none :: pw) B9.pre
  have hq : ∀ w ∈ pw, w.before _ s = true := fun w h => hts w (List.mem_cons_of_mem _ h)
  have hown : s.vm.findClass RX9 = some m.cls := findClass_of_methodNamed B9.named
  have hlocks := B9.notSynchronized
  subst hsz
  have hD := hD0.self (sz := s.heap.size)
  have hA : ∀ q : Nat, s.heap.size ≤ q → va_A w s.heap.size q := fun q h => Or.inr h
  generalize va_A w s.heap.size = A at hD hE hA ⊢
  have hS : va_S A s.heap s.heap [] := va_S.rf
  have hl := lv_entry ([.ref pq]) (n := 4) (Nat.le_of_ble_eq_true rfl)
  rw [lg_entry_eq]
  generalize (lg_sl ([.ref pq]) ++ List.replicate (4 - (lg_sl ([.ref pq])).length) Slot.unset).toArray = ls at hl ⊢
  have hl : lv_has ls 4 [(0, .ref pq)] := hl
  have hp1 := hpb.1
  have hp2 := hpb.2.1
  have hp3 := hpb.2.2.1
  have hp4 := hpb.2.2.2.1
  have hp5 := hpb.2.2.2.2.1
  have hp6 := hpb.2.2.2.2.2.1
  have hp8 := hpb.2.2.2.2.2.2.2.1
  have hp9 := hpb.2.2.2.2.2.2.2.2
  refine lv_iconst (v := 0) hx hb dX9_resolveTypes_0 (by decide) ?_
  refine lv_istore_n (lv' := [(1, .int 0), (0, .ref pq)]) hx hb dX9_resolveTypes_1 rfl hl (by decide) rfl (fun ls hl => ?_)
  have loop_i : ∀ (n_i : Nat) (i2 : Nat) (f2 : Nat → Int32) (H : Heap) (locs : List Loc) (ls : Array Slot) (w : va_W), i2 ≤ sz → sz + 1 ≤ i2 + n_i → va_P G.1 pCl w H → va_D A w → va_S A s.heap H locs → OKP G h0 a (upd F 2 (nI sz)) R Z (updA B 11 f2) J K w → lv_has ls 4 [(1, .int (nI i2)), (0, .ref pq)] → W p l e (headSpec (Cond.code yX9_resolveTypes cX9_resolveTypes 4 none :: pw) ({ frames := 3, cells := 0, slots := 0, locals := 82 } : Room)).room s m ([.ref pq] : List Value).toArray below meth c H locs 0 0 (MQ below (pQ G A (fun (v : Option Value) (u : va_W × ((Nat → Int32))) => v = none ∧ (OKP G h0 a (upd F 2 (nI sz)) R Z (updA B 11 u.2) J K u.1)) (fun u => u.1)) ([.ref pq] : List Value).toArray s ({ frames := 3, cells := 0, slots := 0, locals := 82 } : Room).cells ({ frames := 3, cells := 0, slots := 0, locals := 82 } : Room).slots A) (F0 m 2 ls []) := by
    intro n_i
    induction n_i with
    | zero => intro i2 f2 H locs ls w hk_i hn_i; omega
    | succ n_i ih_i =>
      intro i2 f2 H locs ls w hk_i hn_i hP hD hS hO hl
      refine lv_iload_n hx hb dX9_resolveTypes_2 rfl (lv_at hl 0 rfl) ?_
      refine lv_aload_n hx hb dX9_resolveTypes_3 rfl (lv_at hl 1 rfl) ?_
      refine p_get (v := .ref (a 1)) (C := RX9) (Tc := TX9) (N := 5) (ci := 6) hx hb hq pin_wsX90 hown hE hP hO (by rw [hp1]; decide) (rep_7 hp1) rfl 0 (by decide) (hq _ pw_784) (fun _ h9 => h9) (congrArg (fun z => some (va_rf z)) hp2) dX9_resolveTypes_4 ?_
      refine c_get (v := .int (nI sz)) (C := RX10) (Tc := TX10) (N := 15) (ci := 7) hx hb hq pin_wsX100 hown hE hP hO 2 (sg_2 G h0 a _ _ _ _ _) rfl 8 (by decide) (hq _ pw_1115) (fun _ h9 => h9) rfl dX9_resolveTypes_7 ?_
      refine lv_icmp_ge (tgt := 157) hx hb dX9_resolveTypes_10 (by decide) (fun c1 => ?_) (fun c1 => ?_)
      · have n2 : sz ≤ i2 := (nI_leI (a := sz) (b := i2) (by omega) (by omega)).mp c1
        have hO : OKP G h0 a (upd F 2 (nI sz)) R Z (updA B 11 f2) J K w := hO.to rfl
        exact W.vret hx hb hr (fun t99 ht99 hW99 => ⟨⟨_, (w, f2), rfl, ⟨rfl, hO⟩, by rw [ht99]; exact hP, hD⟩, hS.F ht99⟩) hS.2.2 dX9_resolveTypes_157
      · have n3 : ¬ (sz ≤ i2) := fun h9 => c1 ((nI_leI (a := sz) (b := i2) (by omega) (by omega)).mpr h9)
        refine lv_bipush (v := 63) hx hb dX9_resolveTypes_13 (by decide) ?_
        refine lv_istore_n (lv' := [(2, .int 63), (1, .int (nI i2)), (0, .ref pq)]) hx hb dX9_resolveTypes_15 rfl hl (by decide) rfl (fun ls hl => ?_)
        refine lv_aload_n hx hb dX9_resolveTypes_16 rfl (lv_at hl 2 rfl) ?_
        refine p_get (v := .ref (a 1)) (C := RX9) (Tc := TX9) (N := 5) (ci := 6) hx hb hq pin_wsX90 hown hE hP hO (by rw [hp1]; decide) (rep_7 hp1) rfl 0 (by decide) (hq _ pw_784) (fun _ h9 => h9) (congrArg (fun z => some (va_rf z)) hp2) dX9_resolveTypes_17 ?_
        refine lv_iload_n hx hb dX9_resolveTypes_20 rfl (lv_at hl 1 rfl) ?_
        have hO : OKW G h0 a (upd (upd F 2 (nI sz)) 2 (nI sz)) R Z (updA B 11 f2) J K.1 (fun q99 x99 => x99 = rep G a K q99) w := hO.to rfl
        obtain ⟨_, qr7, hqr8⟩ := hO.2.1 2 _ (sg_2 G h0 a _ _ _ _ _)
        refine pc_V0 (G := G) (As := [.int (nI i2)]) (rest := []) hx hb hml hown hq hE hX pX0_al hP hD hS hA hl.1 (K_roleAt l G h0 a (upd F 2 (nI sz)) R Z (updA B 11 f2) J K.1 (fun q99 x99 => x99 = rep G a K q99) w (nI i2) sz (by omega) hO) (gV pw_1122 pw_1123 pw_1124 pw_59 pw_1112) hV_X10_roleAt qr7 7 hqr8 rfl rfl rfl (Nat.le_of_ble_eq_true rfl) dX9_resolveTypes_21 ⟨Nat.le_of_ble_eq_true rfl, Nat.le_of_ble_eq_true rfl⟩ ⟨Nat.le_of_ble_eq_true rfl, Nat.le_of_ble_eq_true rfl⟩ (fun v6 u4 H locs hw5 hP hD hS => ?_)
        obtain ⟨w, r9⟩ := u4
        obtain ⟨hw5, hO⟩ := hw5
        obtain rfl : v6 = some (.int r9) := hw5
        have hO : OKP G h0 a (upd F 2 (nI sz)) R Z (updA B 11 f2) J K w := hO.to rfl
        refine W.widen (k := 0) (n := 0) (Nat.le_of_ble_eq_true rfl) (Nat.le_of_ble_eq_true rfl) ?_
        refine W.eq (g2 := F0 m 24 ls [.int r9]) rfl ?_
        refine lv_if_eq (tgt := 43) hx hb dX9_resolveTypes_24 (by decide) (fun c10 => ?_) (fun c10 => ?_)
        · refine lv_aload_n hx hb dX9_resolveTypes_43 rfl (lv_at hl 2 rfl) ?_
          refine p_get (v := .ref (a 1)) (C := RX9) (Tc := TX9) (N := 5) (ci := 6) hx hb hq pin_wsX90 hown hE hP hO (by rw [hp1]; decide) (rep_7 hp1) rfl 0 (by decide) (hq _ pw_784) (fun _ h9 => h9) (congrArg (fun z => some (va_rf z)) hp2) dX9_resolveTypes_44 ?_
          refine lv_iload_n hx hb dX9_resolveTypes_47 rfl (lv_at hl 1 rfl) ?_
          have hO : OKW G h0 a (upd (upd F 2 (nI sz)) 2 (nI sz)) R Z (updA B 11 f2) J K.1 (fun q99 x99 => x99 = rep G a K q99) w := hO.to rfl
          obtain ⟨_, qr14, hqr15⟩ := hO.2.1 2 _ (sg_2 G h0 a _ _ _ _ _)
          refine pc_V0 (G := G) (As := [.int (nI i2)]) (rest := []) hx hb hml hown hq hE hX pX0_al hP hD hS hA hl.1 (K_kindAt l G h0 a (upd F 2 (nI sz)) R Z (updA B 11 f2) J K.1 (fun q99 x99 => x99 = rep G a K q99) w (nI i2) sz (by omega) hO) (gV pw_1133 pw_193 pw_194 pw_59 pw_126) hV_X10_kindAt qr14 7 hqr15 rfl rfl rfl (Nat.le_of_ble_eq_true rfl) dX9_resolveTypes_48 ⟨Nat.le_of_ble_eq_true rfl, Nat.le_of_ble_eq_true rfl⟩ ⟨Nat.le_of_ble_eq_true rfl, Nat.le_of_ble_eq_true rfl⟩ (fun v13 u11 H locs hw12 hP hD hS => ?_)
          obtain ⟨w, r16⟩ := u11
          obtain ⟨hw12, h17, hO⟩ := hw12
          have h17 : r16 = 67 ∨ ∃ t : Nat, (nI i2) = nI t ∧ t < sz := h17
          obtain rfl : v13 = some (.int r16) := hw12
          have hO : OKP G h0 a (upd F 2 (nI sz)) R Z (updA B 11 f2) J K w := hO.to rfl
          refine W.widen (k := 0) (n := 0) (Nat.le_of_ble_eq_true rfl) (Nat.le_of_ble_eq_true rfl) ?_
          refine W.eq (g2 := F0 m 51 ls [.int r16]) rfl ?_
          refine lv_bipush (v := 13) hx hb dX9_resolveTypes_51 (by decide) ?_
          refine lv_icmp_eq (tgt := 68) hx hb dX9_resolveTypes_53 (by decide) (fun c18 => ?_) (fun c18 => ?_)
          · refine lv_aload_n hx hb dX9_resolveTypes_68 rfl (lv_at hl 2 rfl) ?_
            refine p_get (v := .ref (a 1)) (C := RX9) (Tc := TX9) (N := 5) (ci := 6) hx hb hq pin_wsX90 hown hE hP hO (by rw [hp1]; decide) (rep_7 hp1) rfl 0 (by decide) (hq _ pw_784) (fun _ h9 => h9) (congrArg (fun z => some (va_rf z)) hp2) dX9_resolveTypes_69 ?_
            refine lv_iload_n hx hb dX9_resolveTypes_72 rfl (lv_at hl 1 rfl) ?_
            have hO : OKW G h0 a (upd (upd F 2 (nI sz)) 2 (nI sz)) R Z (updA B 11 f2) J K.1 (fun q99 x99 => x99 = rep G a K q99) w := hO.to rfl
            obtain ⟨_, qr22, hqr23⟩ := hO.2.1 2 _ (sg_2 G h0 a _ _ _ _ _)
            refine pc_V0 (G := G) (As := [.int (nI i2)]) (rest := []) hx hb hml hown hq hE hX pX0_al hP hD hS hA hl.1 (K_kindAt l G h0 a (upd F 2 (nI sz)) R Z (updA B 11 f2) J K.1 (fun q99 x99 => x99 = rep G a K q99) w (nI i2) sz (by omega) hO) (gV pw_1133 pw_193 pw_194 pw_59 pw_126) hV_X10_kindAt qr22 7 hqr23 rfl rfl rfl (Nat.le_of_ble_eq_true rfl) dX9_resolveTypes_73 ⟨Nat.le_of_ble_eq_true rfl, Nat.le_of_ble_eq_true rfl⟩ ⟨Nat.le_of_ble_eq_true rfl, Nat.le_of_ble_eq_true rfl⟩ (fun v21 u19 H locs hw20 hP hD hS => ?_)
            obtain ⟨w, r24⟩ := u19
            obtain ⟨hw20, h25, hO⟩ := hw20
            have h25 : r24 = 67 ∨ ∃ t : Nat, (nI i2) = nI t ∧ t < sz := h25
            obtain rfl : v21 = some (.int r24) := hw20
            have hO : OKP G h0 a (upd F 2 (nI sz)) R Z (updA B 11 f2) J K w := hO.to rfl
            refine W.widen (k := 0) (n := 0) (Nat.le_of_ble_eq_true rfl) (Nat.le_of_ble_eq_true rfl) ?_
            refine W.eq (g2 := F0 m 76 ls [.int r24]) rfl ?_
            refine lv_bipush (v := 13) hx hb dX9_resolveTypes_76 (by decide) ?_
            refine lv_icmp_ne (tgt := 86) hx hb dX9_resolveTypes_78 (by decide) (fun c26 => ?_) (fun c26 => ?_)
            · refine lv_bipush (v := 61) hx hb dX9_resolveTypes_86 (by decide) ?_
              refine lv_istore_n (lv' := [(2, .int 61), (1, .int (nI i2)), (0, .ref pq)]) hx hb dX9_resolveTypes_88 rfl hl (by decide) rfl (fun ls hl => ?_)
              refine lv_aload_n hx hb dX9_resolveTypes_89 rfl (lv_at hl 2 rfl) ?_
              refine p_get (v := .ref (a 1)) (C := RX9) (Tc := TX9) (N := 5) (ci := 6) hx hb hq pin_wsX90 hown hE hP hO (by rw [hp1]; decide) (rep_7 hp1) rfl 0 (by decide) (hq _ pw_784) (fun _ h9 => h9) (congrArg (fun z => some (va_rf z)) hp2) dX9_resolveTypes_90 ?_
              refine lv_iload_n hx hb dX9_resolveTypes_93 rfl (lv_at hl 1 rfl) ?_
              refine lv_iconst (v := 1) hx hb dX9_resolveTypes_94 (by decide) ?_
              refine lv_iadd hx hb dX9_resolveTypes_95 ?_
              refine lv_topi (fun x27 e28 => ?_)
              obtain rfl : x27 = nI (i2 + 1) := e28.trans (nI_add (i2) (1))
              have hO : OKW G h0 a (upd (upd F 2 (nI sz)) 2 (nI sz)) R Z (updA B 11 f2) J K.1 (fun q99 x99 => x99 = rep G a K q99) w := hO.to rfl
              obtain ⟨_, qr32, hqr33⟩ := hO.2.1 2 _ (sg_2 G h0 a _ _ _ _ _)
              refine pc_V0 (G := G) (As := [.int (nI (i2 + 1))]) (rest := []) hx hb hml hown hq hE hX pX0_al hP hD hS hA hl.1 (K_kindAt l G h0 a (upd F 2 (nI sz)) R Z (updA B 11 f2) J K.1 (fun q99 x99 => x99 = rep G a K q99) w (nI (i2 + 1)) sz (by omega) hO) (gV pw_1133 pw_193 pw_194 pw_59 pw_126) hV_X10_kindAt qr32 7 hqr33 rfl rfl rfl (Nat.le_of_ble_eq_true rfl) dX9_resolveTypes_96 ⟨Nat.le_of_ble_eq_true rfl, Nat.le_of_ble_eq_true rfl⟩ ⟨Nat.le_of_ble_eq_true rfl, Nat.le_of_ble_eq_true rfl⟩ (fun v31 u29 H locs hw30 hP hD hS => ?_)
              obtain ⟨w, r34⟩ := u29
              obtain ⟨hw30, h35, hO⟩ := hw30
              have h35 : r34 = 67 ∨ ∃ t : Nat, (nI (i2 + 1)) = nI t ∧ t < sz := h35
              obtain rfl : v31 = some (.int r34) := hw30
              have hO : OKP G h0 a (upd F 2 (nI sz)) R Z (updA B 11 f2) J K w := hO.to rfl
              refine W.widen (k := 0) (n := 0) (Nat.le_of_ble_eq_true rfl) (Nat.le_of_ble_eq_true rfl) ?_
              refine W.eq (g2 := F0 m 99 ls [.int r34]) rfl ?_
              refine lv_bipush (v := 36) hx hb dX9_resolveTypes_99 (by decide) ?_
              refine lv_icmp_ne (tgt := 123) hx hb dX9_resolveTypes_101 (by decide) (fun c36 => ?_) (fun c36 => ?_)
              · refine lv_iconst (v := 0) hx hb dX9_resolveTypes_123 (by decide) ?_
                refine lv_istore_n (lv' := [(3, .int 0), (2, .int 61), (1, .int (nI i2)), (0, .ref pq)]) hx hb dX9_resolveTypes_124 rfl hl (by decide) rfl (fun ls hl => ?_)
                refine lv_aload_n hx hb dX9_resolveTypes_125 rfl (lv_at hl 3 rfl) ?_
                refine p_get (v := .ref (a 1)) (C := RX9) (Tc := TX9) (N := 5) (ci := 6) hx hb hq pin_wsX90 hown hE hP hO (by rw [hp1]; decide) (rep_7 hp1) rfl 0 (by decide) (hq _ pw_784) (fun _ h9 => h9) (congrArg (fun z => some (va_rf z)) hp2) dX9_resolveTypes_126 ?_
                refine lv_iload_n hx hb dX9_resolveTypes_129 rfl (lv_at hl 2 rfl) ?_
                refine lv_iload_n hx hb dX9_resolveTypes_130 rfl (lv_at hl 0 rfl) ?_
                refine lv_if_eq (tgt := 147) hx hb dX9_resolveTypes_131 (by decide) (fun c37 => ?_) (fun c37 => absurd c37 (by decide))
                refine lv_iload_n hx hb dX9_resolveTypes_147 rfl (lv_at hl 1 rfl) ?_
                have hO : OKW G h0 a (upd (upd F 2 (nI sz)) 2 (nI sz)) R Z (updA B 11 f2) J K.1 (fun q99 x99 => x99 = rep G a K q99) w := hO.to rfl
                obtain ⟨_, qr41, hqr42⟩ := hO.2.1 2 _ (sg_2 G h0 a _ _ _ _ _)
                refine pc_V0 (G := G) (As := [.int (nI i2), .int 61]) (rest := []) hx hb hml hown hq hE hX pX0_al hP hD hS hA hl.1 (K_giveType l G h0 a (upd F 2 (nI sz)) R Z (updA B 11 f2) J K.1 (fun q99 x99 => x99 = rep G a K q99) w (nI i2) 61 sz (by omega) hO) (gV pw_1134 pw_1135 pw_1136 pw_59 pw_1132) hV_X10_giveType qr41 7 hqr42 rfl rfl rfl (Nat.le_of_ble_eq_true rfl) dX9_resolveTypes_148 ⟨Nat.le_of_ble_eq_true rfl, Nat.le_of_ble_eq_true rfl⟩ ⟨Nat.le_of_ble_eq_true rfl, Nat.le_of_ble_eq_true rfl⟩ (fun v40 u38 H locs hw39 hP hD hS => ?_)
                obtain ⟨w, f43⟩ := u38
                obtain ⟨hw39, hO⟩ := hw39
                obtain rfl : v40 = none := hw39
                have hO : OKP G h0 a (upd F 2 (nI sz)) R Z (updA B 11 f43) J K w := hO.to rfl
                refine W.widen (k := 0) (n := 0) (Nat.le_of_ble_eq_true rfl) (Nat.le_of_ble_eq_true rfl) ?_
                refine W.eq (g2 := F0 m 151 ls []) rfl ?_
                refine lv_iinc (v := (nI (i2 + 1))) (lv' := [(1, .int (nI (i2 + 1))), (3, .int 0), (2, .int 61), (0, .ref pq)]) hx hb dX9_resolveTypes_151 hl (k := 2) rfl (nI_1 i2) (by decide) rfl (fun ls hl => ?_)
                refine lv_goto (tgt := 2) hx hb dX9_resolveTypes_154 (by decide) ?_
                have hO : OKP G h0 a (upd F 2 (nI sz)) R Z (updA B 11 f43) J K w := hO.to rfl
                exact ih_i (i2 + 1) f43 _ _ _ _ (by omega) (by omega) hP hD hS hO (lv_sub hl [0, 3] rfl)
              · refine lv_aload_n hx hb dX9_resolveTypes_104 rfl (lv_at hl 2 rfl) ?_
                refine p_get (v := .ref (a 1)) (C := RX9) (Tc := TX9) (N := 5) (ci := 6) hx hb hq pin_wsX90 hown hE hP hO (by rw [hp1]; decide) (rep_7 hp1) rfl 0 (by decide) (hq _ pw_784) (fun _ h9 => h9) (congrArg (fun z => some (va_rf z)) hp2) dX9_resolveTypes_105 ?_
                refine lv_iload_n hx hb dX9_resolveTypes_108 rfl (lv_at hl 1 rfl) ?_
                refine lv_iconst (v := 2) hx hb dX9_resolveTypes_109 (by decide) ?_
                refine lv_iadd hx hb dX9_resolveTypes_110 ?_
                refine lv_topi (fun x44 e45 => ?_)
                obtain rfl : x44 = nI (i2 + 2) := e45.trans (nI_add (i2) (2))
                have hO : OKW G h0 a (upd (upd F 2 (nI sz)) 2 (nI sz)) R Z (updA B 11 f2) J K.1 (fun q99 x99 => x99 = rep G a K q99) w := hO.to rfl
                obtain ⟨_, qr49, hqr50⟩ := hO.2.1 2 _ (sg_2 G h0 a _ _ _ _ _)
                refine pc_V0 (G := G) (As := [.int (nI (i2 + 2))]) (rest := []) hx hb hml hown hq hE hX pX0_al hP hD hS hA hl.1 (K_kindAt l G h0 a (upd F 2 (nI sz)) R Z (updA B 11 f2) J K.1 (fun q99 x99 => x99 = rep G a K q99) w (nI (i2 + 2)) sz (by omega) hO) (gV pw_1133 pw_193 pw_194 pw_59 pw_126) hV_X10_kindAt qr49 7 hqr50 rfl rfl rfl (Nat.le_of_ble_eq_true rfl) dX9_resolveTypes_111 ⟨Nat.le_of_ble_eq_true rfl, Nat.le_of_ble_eq_true rfl⟩ ⟨Nat.le_of_ble_eq_true rfl, Nat.le_of_ble_eq_true rfl⟩ (fun v48 u46 H locs hw47 hP hD hS => ?_)
                obtain ⟨w, r51⟩ := u46
                obtain ⟨hw47, h52, hO⟩ := hw47
                have h52 : r51 = 67 ∨ ∃ t : Nat, (nI (i2 + 2)) = nI t ∧ t < sz := h52
                obtain rfl : v48 = some (.int r51) := hw47
                have hO : OKP G h0 a (upd F 2 (nI sz)) R Z (updA B 11 f2) J K w := hO.to rfl
                refine W.widen (k := 0) (n := 0) (Nat.le_of_ble_eq_true rfl) (Nat.le_of_ble_eq_true rfl) ?_
                refine W.eq (g2 := F0 m 114 ls [.int r51]) rfl ?_
                refine lv_bipush (v := 37) hx hb dX9_resolveTypes_114 (by decide) ?_
                refine lv_icmp_ne (tgt := 123) hx hb dX9_resolveTypes_116 (by decide) (fun c53 => ?_) (fun c53 => ?_)
                · refine lv_iconst (v := 0) hx hb dX9_resolveTypes_123 (by decide) ?_
                  refine lv_istore_n (lv' := [(3, .int 0), (2, .int 61), (1, .int (nI i2)), (0, .ref pq)]) hx hb dX9_resolveTypes_124 rfl hl (by decide) rfl (fun ls hl => ?_)
                  refine lv_aload_n hx hb dX9_resolveTypes_125 rfl (lv_at hl 3 rfl) ?_
                  refine p_get (v := .ref (a 1)) (C := RX9) (Tc := TX9) (N := 5) (ci := 6) hx hb hq pin_wsX90 hown hE hP hO (by rw [hp1]; decide) (rep_7 hp1) rfl 0 (by decide) (hq _ pw_784) (fun _ h9 => h9) (congrArg (fun z => some (va_rf z)) hp2) dX9_resolveTypes_126 ?_
                  refine lv_iload_n hx hb dX9_resolveTypes_129 rfl (lv_at hl 2 rfl) ?_
                  refine lv_iload_n hx hb dX9_resolveTypes_130 rfl (lv_at hl 0 rfl) ?_
                  refine lv_if_eq (tgt := 147) hx hb dX9_resolveTypes_131 (by decide) (fun c54 => ?_) (fun c54 => absurd c54 (by decide))
                  refine lv_iload_n hx hb dX9_resolveTypes_147 rfl (lv_at hl 1 rfl) ?_
                  have hO : OKW G h0 a (upd (upd F 2 (nI sz)) 2 (nI sz)) R Z (updA B 11 f2) J K.1 (fun q99 x99 => x99 = rep G a K q99) w := hO.to rfl
                  obtain ⟨_, qr58, hqr59⟩ := hO.2.1 2 _ (sg_2 G h0 a _ _ _ _ _)
                  refine pc_V0 (G := G) (As := [.int (nI i2), .int 61]) (rest := []) hx hb hml hown hq hE hX pX0_al hP hD hS hA hl.1 (K_giveType l G h0 a (upd F 2 (nI sz)) R Z (updA B 11 f2) J K.1 (fun q99 x99 => x99 = rep G a K q99) w (nI i2) 61 sz (by omega) hO) (gV pw_1134 pw_1135 pw_1136 pw_59 pw_1132) hV_X10_giveType qr58 7 hqr59 rfl rfl rfl (Nat.le_of_ble_eq_true rfl) dX9_resolveTypes_148 ⟨Nat.le_of_ble_eq_true rfl, Nat.le_of_ble_eq_true rfl⟩ ⟨Nat.le_of_ble_eq_true rfl, Nat.le_of_ble_eq_true rfl⟩ (fun v57 u55 H locs hw56 hP hD hS => ?_)
                  obtain ⟨w, f60⟩ := u55
                  obtain ⟨hw56, hO⟩ := hw56
                  obtain rfl : v57 = none := hw56
                  have hO : OKP G h0 a (upd F 2 (nI sz)) R Z (updA B 11 f60) J K w := hO.to rfl
                  refine W.widen (k := 0) (n := 0) (Nat.le_of_ble_eq_true rfl) (Nat.le_of_ble_eq_true rfl) ?_
                  refine W.eq (g2 := F0 m 151 ls []) rfl ?_
                  refine lv_iinc (v := (nI (i2 + 1))) (lv' := [(1, .int (nI (i2 + 1))), (3, .int 0), (2, .int 61), (0, .ref pq)]) hx hb dX9_resolveTypes_151 hl (k := 2) rfl (nI_1 i2) (by decide) rfl (fun ls hl => ?_)
                  refine lv_goto (tgt := 2) hx hb dX9_resolveTypes_154 (by decide) ?_
                  have hO : OKP G h0 a (upd F 2 (nI sz)) R Z (updA B 11 f60) J K w := hO.to rfl
                  exact ih_i (i2 + 1) f60 _ _ _ _ (by omega) (by omega) hP hD hS hO (lv_sub hl [0, 3] rfl)
                · refine lv_iconst (v := 1) hx hb dX9_resolveTypes_119 (by decide) ?_
                  refine lv_goto (tgt := 124) hx hb dX9_resolveTypes_120 (by decide) ?_
                  refine lv_istore_n (lv' := [(3, .int 1), (2, .int 61), (1, .int (nI i2)), (0, .ref pq)]) hx hb dX9_resolveTypes_124 rfl hl (by decide) rfl (fun ls hl => ?_)
                  refine lv_aload_n hx hb dX9_resolveTypes_125 rfl (lv_at hl 3 rfl) ?_
                  refine p_get (v := .ref (a 1)) (C := RX9) (Tc := TX9) (N := 5) (ci := 6) hx hb hq pin_wsX90 hown hE hP hO (by rw [hp1]; decide) (rep_7 hp1) rfl 0 (by decide) (hq _ pw_784) (fun _ h9 => h9) (congrArg (fun z => some (va_rf z)) hp2) dX9_resolveTypes_126 ?_
                  refine lv_iload_n hx hb dX9_resolveTypes_129 rfl (lv_at hl 2 rfl) ?_
                  refine lv_iload_n hx hb dX9_resolveTypes_130 rfl (lv_at hl 0 rfl) ?_
                  refine lv_if_eq (tgt := 147) hx hb dX9_resolveTypes_131 (by decide) (fun c61 => absurd c61 (by decide)) (fun c61 => ?_)
                  refine lv_iload_n hx hb dX9_resolveTypes_134 rfl (lv_at hl 1 rfl) ?_
                  refine lv_bipush (v := 63) hx hb dX9_resolveTypes_135 (by decide) ?_
                  refine lv_icmp_eq (tgt := 147) hx hb dX9_resolveTypes_137 (by decide) (fun c62 => absurd c62 (by decide)) (fun c62 => ?_)
                  refine lv_bipush (v := 64) hx hb dX9_resolveTypes_140 (by decide) ?_
                  refine lv_iload_n hx hb dX9_resolveTypes_142 rfl (lv_at hl 1 rfl) ?_
                  refine lv_iadd hx hb dX9_resolveTypes_143 ?_
                  refine lv_topi (fun x63 e64 => ?_)
                  obtain rfl : x63 = 125 := e64.trans (by decide)
                  refine lv_goto (tgt := 148) hx hb dX9_resolveTypes_144 (by decide) ?_
                  have hO : OKW G h0 a (upd (upd F 2 (nI sz)) 2 (nI sz)) R Z (updA B 11 f2) J K.1 (fun q99 x99 => x99 = rep G a K q99) w := hO.to rfl
                  obtain ⟨_, qr68, hqr69⟩ := hO.2.1 2 _ (sg_2 G h0 a _ _ _ _ _)
                  refine pc_V0 (G := G) (As := [.int (nI i2), .int 125]) (rest := []) hx hb hml hown hq hE hX pX0_al hP hD hS hA hl.1 (K_giveType l G h0 a (upd F 2 (nI sz)) R Z (updA B 11 f2) J K.1 (fun q99 x99 => x99 = rep G a K q99) w (nI i2) 125 sz (by omega) hO) (gV pw_1134 pw_1135 pw_1136 pw_59 pw_1132) hV_X10_giveType qr68 7 hqr69 rfl rfl rfl (Nat.le_of_ble_eq_true rfl) dX9_resolveTypes_148 ⟨Nat.le_of_ble_eq_true rfl, Nat.le_of_ble_eq_true rfl⟩ ⟨Nat.le_of_ble_eq_true rfl, Nat.le_of_ble_eq_true rfl⟩ (fun v67 u65 H locs hw66 hP hD hS => ?_)
                  obtain ⟨w, f70⟩ := u65
                  obtain ⟨hw66, hO⟩ := hw66
                  obtain rfl : v67 = none := hw66
                  have hO : OKP G h0 a (upd F 2 (nI sz)) R Z (updA B 11 f70) J K w := hO.to rfl
                  refine W.widen (k := 0) (n := 0) (Nat.le_of_ble_eq_true rfl) (Nat.le_of_ble_eq_true rfl) ?_
                  refine W.eq (g2 := F0 m 151 ls []) rfl ?_
                  refine lv_iinc (v := (nI (i2 + 1))) (lv' := [(1, .int (nI (i2 + 1))), (3, .int 1), (2, .int 61), (0, .ref pq)]) hx hb dX9_resolveTypes_151 hl (k := 2) rfl (nI_1 i2) (by decide) rfl (fun ls hl => ?_)
                  refine lv_goto (tgt := 2) hx hb dX9_resolveTypes_154 (by decide) ?_
                  have hO : OKP G h0 a (upd F 2 (nI sz)) R Z (updA B 11 f70) J K w := hO.to rfl
                  exact ih_i (i2 + 1) f70 _ _ _ _ (by omega) (by omega) hP hD hS hO (lv_sub hl [0, 3] rfl)
            · refine lv_bipush (v := 60) hx hb dX9_resolveTypes_81 (by decide) ?_
              refine lv_goto (tgt := 88) hx hb dX9_resolveTypes_83 (by decide) ?_
              refine lv_istore_n (lv' := [(2, .int 60), (1, .int (nI i2)), (0, .ref pq)]) hx hb dX9_resolveTypes_88 rfl hl (by decide) rfl (fun ls hl => ?_)
              refine lv_aload_n hx hb dX9_resolveTypes_89 rfl (lv_at hl 2 rfl) ?_
              refine p_get (v := .ref (a 1)) (C := RX9) (Tc := TX9) (N := 5) (ci := 6) hx hb hq pin_wsX90 hown hE hP hO (by rw [hp1]; decide) (rep_7 hp1) rfl 0 (by decide) (hq _ pw_784) (fun _ h9 => h9) (congrArg (fun z => some (va_rf z)) hp2) dX9_resolveTypes_90 ?_
              refine lv_iload_n hx hb dX9_resolveTypes_93 rfl (lv_at hl 1 rfl) ?_
              refine lv_iconst (v := 1) hx hb dX9_resolveTypes_94 (by decide) ?_
              refine lv_iadd hx hb dX9_resolveTypes_95 ?_
              refine lv_topi (fun x71 e72 => ?_)
              obtain rfl : x71 = nI (i2 + 1) := e72.trans (nI_add (i2) (1))
              have hO : OKW G h0 a (upd (upd F 2 (nI sz)) 2 (nI sz)) R Z (updA B 11 f2) J K.1 (fun q99 x99 => x99 = rep G a K q99) w := hO.to rfl
              obtain ⟨_, qr76, hqr77⟩ := hO.2.1 2 _ (sg_2 G h0 a _ _ _ _ _)
              refine pc_V0 (G := G) (As := [.int (nI (i2 + 1))]) (rest := []) hx hb hml hown hq hE hX pX0_al hP hD hS hA hl.1 (K_kindAt l G h0 a (upd F 2 (nI sz)) R Z (updA B 11 f2) J K.1 (fun q99 x99 => x99 = rep G a K q99) w (nI (i2 + 1)) sz (by omega) hO) (gV pw_1133 pw_193 pw_194 pw_59 pw_126) hV_X10_kindAt qr76 7 hqr77 rfl rfl rfl (Nat.le_of_ble_eq_true rfl) dX9_resolveTypes_96 ⟨Nat.le_of_ble_eq_true rfl, Nat.le_of_ble_eq_true rfl⟩ ⟨Nat.le_of_ble_eq_true rfl, Nat.le_of_ble_eq_true rfl⟩ (fun v75 u73 H locs hw74 hP hD hS => ?_)
              obtain ⟨w, r78⟩ := u73
              obtain ⟨hw74, h79, hO⟩ := hw74
              have h79 : r78 = 67 ∨ ∃ t : Nat, (nI (i2 + 1)) = nI t ∧ t < sz := h79
              obtain rfl : v75 = some (.int r78) := hw74
              have hO : OKP G h0 a (upd F 2 (nI sz)) R Z (updA B 11 f2) J K w := hO.to rfl
              refine W.widen (k := 0) (n := 0) (Nat.le_of_ble_eq_true rfl) (Nat.le_of_ble_eq_true rfl) ?_
              refine W.eq (g2 := F0 m 99 ls [.int r78]) rfl ?_
              refine lv_bipush (v := 36) hx hb dX9_resolveTypes_99 (by decide) ?_
              refine lv_icmp_ne (tgt := 123) hx hb dX9_resolveTypes_101 (by decide) (fun c80 => ?_) (fun c80 => ?_)
              · refine lv_iconst (v := 0) hx hb dX9_resolveTypes_123 (by decide) ?_
                refine lv_istore_n (lv' := [(3, .int 0), (2, .int 60), (1, .int (nI i2)), (0, .ref pq)]) hx hb dX9_resolveTypes_124 rfl hl (by decide) rfl (fun ls hl => ?_)
                refine lv_aload_n hx hb dX9_resolveTypes_125 rfl (lv_at hl 3 rfl) ?_
                refine p_get (v := .ref (a 1)) (C := RX9) (Tc := TX9) (N := 5) (ci := 6) hx hb hq pin_wsX90 hown hE hP hO (by rw [hp1]; decide) (rep_7 hp1) rfl 0 (by decide) (hq _ pw_784) (fun _ h9 => h9) (congrArg (fun z => some (va_rf z)) hp2) dX9_resolveTypes_126 ?_
                refine lv_iload_n hx hb dX9_resolveTypes_129 rfl (lv_at hl 2 rfl) ?_
                refine lv_iload_n hx hb dX9_resolveTypes_130 rfl (lv_at hl 0 rfl) ?_
                refine lv_if_eq (tgt := 147) hx hb dX9_resolveTypes_131 (by decide) (fun c81 => ?_) (fun c81 => absurd c81 (by decide))
                refine lv_iload_n hx hb dX9_resolveTypes_147 rfl (lv_at hl 1 rfl) ?_
                have hO : OKW G h0 a (upd (upd F 2 (nI sz)) 2 (nI sz)) R Z (updA B 11 f2) J K.1 (fun q99 x99 => x99 = rep G a K q99) w := hO.to rfl
                obtain ⟨_, qr85, hqr86⟩ := hO.2.1 2 _ (sg_2 G h0 a _ _ _ _ _)
                refine pc_V0 (G := G) (As := [.int (nI i2), .int 60]) (rest := []) hx hb hml hown hq hE hX pX0_al hP hD hS hA hl.1 (K_giveType l G h0 a (upd F 2 (nI sz)) R Z (updA B 11 f2) J K.1 (fun q99 x99 => x99 = rep G a K q99) w (nI i2) 60 sz (by omega) hO) (gV pw_1134 pw_1135 pw_1136 pw_59 pw_1132) hV_X10_giveType qr85 7 hqr86 rfl rfl rfl (Nat.le_of_ble_eq_true rfl) dX9_resolveTypes_148 ⟨Nat.le_of_ble_eq_true rfl, Nat.le_of_ble_eq_true rfl⟩ ⟨Nat.le_of_ble_eq_true rfl, Nat.le_of_ble_eq_true rfl⟩ (fun v84 u82 H locs hw83 hP hD hS => ?_)
                obtain ⟨w, f87⟩ := u82
                obtain ⟨hw83, hO⟩ := hw83
                obtain rfl : v84 = none := hw83
                have hO : OKP G h0 a (upd F 2 (nI sz)) R Z (updA B 11 f87) J K w := hO.to rfl
                refine W.widen (k := 0) (n := 0) (Nat.le_of_ble_eq_true rfl) (Nat.le_of_ble_eq_true rfl) ?_
                refine W.eq (g2 := F0 m 151 ls []) rfl ?_
                refine lv_iinc (v := (nI (i2 + 1))) (lv' := [(1, .int (nI (i2 + 1))), (3, .int 0), (2, .int 60), (0, .ref pq)]) hx hb dX9_resolveTypes_151 hl (k := 2) rfl (nI_1 i2) (by decide) rfl (fun ls hl => ?_)
                refine lv_goto (tgt := 2) hx hb dX9_resolveTypes_154 (by decide) ?_
                have hO : OKP G h0 a (upd F 2 (nI sz)) R Z (updA B 11 f87) J K w := hO.to rfl
                exact ih_i (i2 + 1) f87 _ _ _ _ (by omega) (by omega) hP hD hS hO (lv_sub hl [0, 3] rfl)
              · refine lv_aload_n hx hb dX9_resolveTypes_104 rfl (lv_at hl 2 rfl) ?_
                refine p_get (v := .ref (a 1)) (C := RX9) (Tc := TX9) (N := 5) (ci := 6) hx hb hq pin_wsX90 hown hE hP hO (by rw [hp1]; decide) (rep_7 hp1) rfl 0 (by decide) (hq _ pw_784) (fun _ h9 => h9) (congrArg (fun z => some (va_rf z)) hp2) dX9_resolveTypes_105 ?_
                refine lv_iload_n hx hb dX9_resolveTypes_108 rfl (lv_at hl 1 rfl) ?_
                refine lv_iconst (v := 2) hx hb dX9_resolveTypes_109 (by decide) ?_
                refine lv_iadd hx hb dX9_resolveTypes_110 ?_
                refine lv_topi (fun x88 e89 => ?_)
                obtain rfl : x88 = nI (i2 + 2) := e89.trans (nI_add (i2) (2))
                have hO : OKW G h0 a (upd (upd F 2 (nI sz)) 2 (nI sz)) R Z (updA B 11 f2) J K.1 (fun q99 x99 => x99 = rep G a K q99) w := hO.to rfl
                obtain ⟨_, qr93, hqr94⟩ := hO.2.1 2 _ (sg_2 G h0 a _ _ _ _ _)
                refine pc_V0 (G := G) (As := [.int (nI (i2 + 2))]) (rest := []) hx hb hml hown hq hE hX pX0_al hP hD hS hA hl.1 (K_kindAt l G h0 a (upd F 2 (nI sz)) R Z (updA B 11 f2) J K.1 (fun q99 x99 => x99 = rep G a K q99) w (nI (i2 + 2)) sz (by omega) hO) (gV pw_1133 pw_193 pw_194 pw_59 pw_126) hV_X10_kindAt qr93 7 hqr94 rfl rfl rfl (Nat.le_of_ble_eq_true rfl) dX9_resolveTypes_111 ⟨Nat.le_of_ble_eq_true rfl, Nat.le_of_ble_eq_true rfl⟩ ⟨Nat.le_of_ble_eq_true rfl, Nat.le_of_ble_eq_true rfl⟩ (fun v92 u90 H locs hw91 hP hD hS => ?_)
                obtain ⟨w, r95⟩ := u90
                obtain ⟨hw91, h96, hO⟩ := hw91
                have h96 : r95 = 67 ∨ ∃ t : Nat, (nI (i2 + 2)) = nI t ∧ t < sz := h96
                obtain rfl : v92 = some (.int r95) := hw91
                have hO : OKP G h0 a (upd F 2 (nI sz)) R Z (updA B 11 f2) J K w := hO.to rfl
                refine W.widen (k := 0) (n := 0) (Nat.le_of_ble_eq_true rfl) (Nat.le_of_ble_eq_true rfl) ?_
                refine W.eq (g2 := F0 m 114 ls [.int r95]) rfl ?_
                refine lv_bipush (v := 37) hx hb dX9_resolveTypes_114 (by decide) ?_
                refine lv_icmp_ne (tgt := 123) hx hb dX9_resolveTypes_116 (by decide) (fun c97 => ?_) (fun c97 => ?_)
                · refine lv_iconst (v := 0) hx hb dX9_resolveTypes_123 (by decide) ?_
                  refine lv_istore_n (lv' := [(3, .int 0), (2, .int 60), (1, .int (nI i2)), (0, .ref pq)]) hx hb dX9_resolveTypes_124 rfl hl (by decide) rfl (fun ls hl => ?_)
                  refine lv_aload_n hx hb dX9_resolveTypes_125 rfl (lv_at hl 3 rfl) ?_
                  refine p_get (v := .ref (a 1)) (C := RX9) (Tc := TX9) (N := 5) (ci := 6) hx hb hq pin_wsX90 hown hE hP hO (by rw [hp1]; decide) (rep_7 hp1) rfl 0 (by decide) (hq _ pw_784) (fun _ h9 => h9) (congrArg (fun z => some (va_rf z)) hp2) dX9_resolveTypes_126 ?_
                  refine lv_iload_n hx hb dX9_resolveTypes_129 rfl (lv_at hl 2 rfl) ?_
                  refine lv_iload_n hx hb dX9_resolveTypes_130 rfl (lv_at hl 0 rfl) ?_
                  refine lv_if_eq (tgt := 147) hx hb dX9_resolveTypes_131 (by decide) (fun c98 => ?_) (fun c98 => absurd c98 (by decide))
                  refine lv_iload_n hx hb dX9_resolveTypes_147 rfl (lv_at hl 1 rfl) ?_
                  have hO : OKW G h0 a (upd (upd F 2 (nI sz)) 2 (nI sz)) R Z (updA B 11 f2) J K.1 (fun q99 x99 => x99 = rep G a K q99) w := hO.to rfl
                  obtain ⟨_, qr102, hqr103⟩ := hO.2.1 2 _ (sg_2 G h0 a _ _ _ _ _)
                  refine pc_V0 (G := G) (As := [.int (nI i2), .int 60]) (rest := []) hx hb hml hown hq hE hX pX0_al hP hD hS hA hl.1 (K_giveType l G h0 a (upd F 2 (nI sz)) R Z (updA B 11 f2) J K.1 (fun q99 x99 => x99 = rep G a K q99) w (nI i2) 60 sz (by omega) hO) (gV pw_1134 pw_1135 pw_1136 pw_59 pw_1132) hV_X10_giveType qr102 7 hqr103 rfl rfl rfl (Nat.le_of_ble_eq_true rfl) dX9_resolveTypes_148 ⟨Nat.le_of_ble_eq_true rfl, Nat.le_of_ble_eq_true rfl⟩ ⟨Nat.le_of_ble_eq_true rfl, Nat.le_of_ble_eq_true rfl⟩ (fun v101 u99 H locs hw100 hP hD hS => ?_)
                  obtain ⟨w, f104⟩ := u99
                  obtain ⟨hw100, hO⟩ := hw100
                  obtain rfl : v101 = none := hw100
                  have hO : OKP G h0 a (upd F 2 (nI sz)) R Z (updA B 11 f104) J K w := hO.to rfl
                  refine W.widen (k := 0) (n := 0) (Nat.le_of_ble_eq_true rfl) (Nat.le_of_ble_eq_true rfl) ?_
                  refine W.eq (g2 := F0 m 151 ls []) rfl ?_
                  refine lv_iinc (v := (nI (i2 + 1))) (lv' := [(1, .int (nI (i2 + 1))), (3, .int 0), (2, .int 60), (0, .ref pq)]) hx hb dX9_resolveTypes_151 hl (k := 2) rfl (nI_1 i2) (by decide) rfl (fun ls hl => ?_)
                  refine lv_goto (tgt := 2) hx hb dX9_resolveTypes_154 (by decide) ?_
                  have hO : OKP G h0 a (upd F 2 (nI sz)) R Z (updA B 11 f104) J K w := hO.to rfl
                  exact ih_i (i2 + 1) f104 _ _ _ _ (by omega) (by omega) hP hD hS hO (lv_sub hl [0, 3] rfl)
                · refine lv_iconst (v := 1) hx hb dX9_resolveTypes_119 (by decide) ?_
                  refine lv_goto (tgt := 124) hx hb dX9_resolveTypes_120 (by decide) ?_
                  refine lv_istore_n (lv' := [(3, .int 1), (2, .int 60), (1, .int (nI i2)), (0, .ref pq)]) hx hb dX9_resolveTypes_124 rfl hl (by decide) rfl (fun ls hl => ?_)
                  refine lv_aload_n hx hb dX9_resolveTypes_125 rfl (lv_at hl 3 rfl) ?_
                  refine p_get (v := .ref (a 1)) (C := RX9) (Tc := TX9) (N := 5) (ci := 6) hx hb hq pin_wsX90 hown hE hP hO (by rw [hp1]; decide) (rep_7 hp1) rfl 0 (by decide) (hq _ pw_784) (fun _ h9 => h9) (congrArg (fun z => some (va_rf z)) hp2) dX9_resolveTypes_126 ?_
                  refine lv_iload_n hx hb dX9_resolveTypes_129 rfl (lv_at hl 2 rfl) ?_
                  refine lv_iload_n hx hb dX9_resolveTypes_130 rfl (lv_at hl 0 rfl) ?_
                  refine lv_if_eq (tgt := 147) hx hb dX9_resolveTypes_131 (by decide) (fun c105 => absurd c105 (by decide)) (fun c105 => ?_)
                  refine lv_iload_n hx hb dX9_resolveTypes_134 rfl (lv_at hl 1 rfl) ?_
                  refine lv_bipush (v := 63) hx hb dX9_resolveTypes_135 (by decide) ?_
                  refine lv_icmp_eq (tgt := 147) hx hb dX9_resolveTypes_137 (by decide) (fun c106 => absurd c106 (by decide)) (fun c106 => ?_)
                  refine lv_bipush (v := 64) hx hb dX9_resolveTypes_140 (by decide) ?_
                  refine lv_iload_n hx hb dX9_resolveTypes_142 rfl (lv_at hl 1 rfl) ?_
                  refine lv_iadd hx hb dX9_resolveTypes_143 ?_
                  refine lv_topi (fun x107 e108 => ?_)
                  obtain rfl : x107 = 124 := e108.trans (by decide)
                  refine lv_goto (tgt := 148) hx hb dX9_resolveTypes_144 (by decide) ?_
                  have hO : OKW G h0 a (upd (upd F 2 (nI sz)) 2 (nI sz)) R Z (updA B 11 f2) J K.1 (fun q99 x99 => x99 = rep G a K q99) w := hO.to rfl
                  obtain ⟨_, qr112, hqr113⟩ := hO.2.1 2 _ (sg_2 G h0 a _ _ _ _ _)
                  refine pc_V0 (G := G) (As := [.int (nI i2), .int 124]) (rest := []) hx hb hml hown hq hE hX pX0_al hP hD hS hA hl.1 (K_giveType l G h0 a (upd F 2 (nI sz)) R Z (updA B 11 f2) J K.1 (fun q99 x99 => x99 = rep G a K q99) w (nI i2) 124 sz (by omega) hO) (gV pw_1134 pw_1135 pw_1136 pw_59 pw_1132) hV_X10_giveType qr112 7 hqr113 rfl rfl rfl (Nat.le_of_ble_eq_true rfl) dX9_resolveTypes_148 ⟨Nat.le_of_ble_eq_true rfl, Nat.le_of_ble_eq_true rfl⟩ ⟨Nat.le_of_ble_eq_true rfl, Nat.le_of_ble_eq_true rfl⟩ (fun v111 u109 H locs hw110 hP hD hS => ?_)
                  obtain ⟨w, f114⟩ := u109
                  obtain ⟨hw110, hO⟩ := hw110
                  obtain rfl : v111 = none := hw110
                  have hO : OKP G h0 a (upd F 2 (nI sz)) R Z (updA B 11 f114) J K w := hO.to rfl
                  refine W.widen (k := 0) (n := 0) (Nat.le_of_ble_eq_true rfl) (Nat.le_of_ble_eq_true rfl) ?_
                  refine W.eq (g2 := F0 m 151 ls []) rfl ?_
                  refine lv_iinc (v := (nI (i2 + 1))) (lv' := [(1, .int (nI (i2 + 1))), (3, .int 1), (2, .int 60), (0, .ref pq)]) hx hb dX9_resolveTypes_151 hl (k := 2) rfl (nI_1 i2) (by decide) rfl (fun ls hl => ?_)
                  refine lv_goto (tgt := 2) hx hb dX9_resolveTypes_154 (by decide) ?_
                  have hO : OKP G h0 a (upd F 2 (nI sz)) R Z (updA B 11 f114) J K w := hO.to rfl
                  exact ih_i (i2 + 1) f114 _ _ _ _ (by omega) (by omega) hP hD hS hO (lv_sub hl [0, 3] rfl)
          · refine lv_aload_n hx hb dX9_resolveTypes_56 rfl (lv_at hl 2 rfl) ?_
            refine p_get (v := .ref (a 1)) (C := RX9) (Tc := TX9) (N := 5) (ci := 6) hx hb hq pin_wsX90 hown hE hP hO (by rw [hp1]; decide) (rep_7 hp1) rfl 0 (by decide) (hq _ pw_784) (fun _ h9 => h9) (congrArg (fun z => some (va_rf z)) hp2) dX9_resolveTypes_57 ?_
            refine lv_iload_n hx hb dX9_resolveTypes_60 rfl (lv_at hl 1 rfl) ?_
            have hO : OKW G h0 a (upd (upd F 2 (nI sz)) 2 (nI sz)) R Z (updA B 11 f2) J K.1 (fun q99 x99 => x99 = rep G a K q99) w := hO.to rfl
            obtain ⟨_, qr118, hqr119⟩ := hO.2.1 2 _ (sg_2 G h0 a _ _ _ _ _)
            refine pc_V0 (G := G) (As := [.int (nI i2)]) (rest := []) hx hb hml hown hq hE hX pX0_al hP hD hS hA hl.1 (K_kindAt l G h0 a (upd F 2 (nI sz)) R Z (updA B 11 f2) J K.1 (fun q99 x99 => x99 = rep G a K q99) w (nI i2) sz (by omega) hO) (gV pw_1133 pw_193 pw_194 pw_59 pw_126) hV_X10_kindAt qr118 7 hqr119 rfl rfl rfl (Nat.le_of_ble_eq_true rfl) dX9_resolveTypes_61 ⟨Nat.le_of_ble_eq_true rfl, Nat.le_of_ble_eq_true rfl⟩ ⟨Nat.le_of_ble_eq_true rfl, Nat.le_of_ble_eq_true rfl⟩ (fun v117 u115 H locs hw116 hP hD hS => ?_)
            obtain ⟨w, r120⟩ := u115
            obtain ⟨hw116, h121, hO⟩ := hw116
            have h121 : r120 = 67 ∨ ∃ t : Nat, (nI i2) = nI t ∧ t < sz := h121
            obtain rfl : v117 = some (.int r120) := hw116
            have hO : OKP G h0 a (upd F 2 (nI sz)) R Z (updA B 11 f2) J K w := hO.to rfl
            refine W.widen (k := 0) (n := 0) (Nat.le_of_ble_eq_true rfl) (Nat.le_of_ble_eq_true rfl) ?_
            refine W.eq (g2 := F0 m 64 ls [.int r120]) rfl ?_
            refine lv_iconst (v := 1) hx hb dX9_resolveTypes_64 (by decide) ?_
            refine lv_icmp_ne (tgt := 89) hx hb dX9_resolveTypes_65 (by decide) (fun c122 => ?_) (fun c122 => ?_)
            · refine lv_aload_n hx hb dX9_resolveTypes_89 rfl (lv_at hl 2 rfl) ?_
              refine p_get (v := .ref (a 1)) (C := RX9) (Tc := TX9) (N := 5) (ci := 6) hx hb hq pin_wsX90 hown hE hP hO (by rw [hp1]; decide) (rep_7 hp1) rfl 0 (by decide) (hq _ pw_784) (fun _ h9 => h9) (congrArg (fun z => some (va_rf z)) hp2) dX9_resolveTypes_90 ?_
              refine lv_iload_n hx hb dX9_resolveTypes_93 rfl (lv_at hl 1 rfl) ?_
              refine lv_iconst (v := 1) hx hb dX9_resolveTypes_94 (by decide) ?_
              refine lv_iadd hx hb dX9_resolveTypes_95 ?_
              refine lv_topi (fun x123 e124 => ?_)
              obtain rfl : x123 = nI (i2 + 1) := e124.trans (nI_add (i2) (1))
              have hO : OKW G h0 a (upd (upd F 2 (nI sz)) 2 (nI sz)) R Z (updA B 11 f2) J K.1 (fun q99 x99 => x99 = rep G a K q99) w := hO.to rfl
              obtain ⟨_, qr128, hqr129⟩ := hO.2.1 2 _ (sg_2 G h0 a _ _ _ _ _)
              refine pc_V0 (G := G) (As := [.int (nI (i2 + 1))]) (rest := []) hx hb hml hown hq hE hX pX0_al hP hD hS hA hl.1 (K_kindAt l G h0 a (upd F 2 (nI sz)) R Z (updA B 11 f2) J K.1 (fun q99 x99 => x99 = rep G a K q99) w (nI (i2 + 1)) sz (by omega) hO) (gV pw_1133 pw_193 pw_194 pw_59 pw_126) hV_X10_kindAt qr128 7 hqr129 rfl rfl rfl (Nat.le_of_ble_eq_true rfl) dX9_resolveTypes_96 ⟨Nat.le_of_ble_eq_true rfl, Nat.le_of_ble_eq_true rfl⟩ ⟨Nat.le_of_ble_eq_true rfl, Nat.le_of_ble_eq_true rfl⟩ (fun v127 u125 H locs hw126 hP hD hS => ?_)
              obtain ⟨w, r130⟩ := u125
              obtain ⟨hw126, h131, hO⟩ := hw126
              have h131 : r130 = 67 ∨ ∃ t : Nat, (nI (i2 + 1)) = nI t ∧ t < sz := h131
              obtain rfl : v127 = some (.int r130) := hw126
              have hO : OKP G h0 a (upd F 2 (nI sz)) R Z (updA B 11 f2) J K w := hO.to rfl
              refine W.widen (k := 0) (n := 0) (Nat.le_of_ble_eq_true rfl) (Nat.le_of_ble_eq_true rfl) ?_
              refine W.eq (g2 := F0 m 99 ls [.int r130]) rfl ?_
              refine lv_bipush (v := 36) hx hb dX9_resolveTypes_99 (by decide) ?_
              refine lv_icmp_ne (tgt := 123) hx hb dX9_resolveTypes_101 (by decide) (fun c132 => ?_) (fun c132 => ?_)
              · refine lv_iconst (v := 0) hx hb dX9_resolveTypes_123 (by decide) ?_
                refine lv_istore_n (lv' := [(3, .int 0), (2, .int 63), (1, .int (nI i2)), (0, .ref pq)]) hx hb dX9_resolveTypes_124 rfl hl (by decide) rfl (fun ls hl => ?_)
                refine lv_aload_n hx hb dX9_resolveTypes_125 rfl (lv_at hl 3 rfl) ?_
                refine p_get (v := .ref (a 1)) (C := RX9) (Tc := TX9) (N := 5) (ci := 6) hx hb hq pin_wsX90 hown hE hP hO (by rw [hp1]; decide) (rep_7 hp1) rfl 0 (by decide) (hq _ pw_784) (fun _ h9 => h9) (congrArg (fun z => some (va_rf z)) hp2) dX9_resolveTypes_126 ?_
                refine lv_iload_n hx hb dX9_resolveTypes_129 rfl (lv_at hl 2 rfl) ?_
                refine lv_iload_n hx hb dX9_resolveTypes_130 rfl (lv_at hl 0 rfl) ?_
                refine lv_if_eq (tgt := 147) hx hb dX9_resolveTypes_131 (by decide) (fun c133 => ?_) (fun c133 => absurd c133 (by decide))
                refine lv_iload_n hx hb dX9_resolveTypes_147 rfl (lv_at hl 1 rfl) ?_
                have hO : OKW G h0 a (upd (upd F 2 (nI sz)) 2 (nI sz)) R Z (updA B 11 f2) J K.1 (fun q99 x99 => x99 = rep G a K q99) w := hO.to rfl
                obtain ⟨_, qr137, hqr138⟩ := hO.2.1 2 _ (sg_2 G h0 a _ _ _ _ _)
                refine pc_V0 (G := G) (As := [.int (nI i2), .int 63]) (rest := []) hx hb hml hown hq hE hX pX0_al hP hD hS hA hl.1 (K_giveType l G h0 a (upd F 2 (nI sz)) R Z (updA B 11 f2) J K.1 (fun q99 x99 => x99 = rep G a K q99) w (nI i2) 63 sz (by omega) hO) (gV pw_1134 pw_1135 pw_1136 pw_59 pw_1132) hV_X10_giveType qr137 7 hqr138 rfl rfl rfl (Nat.le_of_ble_eq_true rfl) dX9_resolveTypes_148 ⟨Nat.le_of_ble_eq_true rfl, Nat.le_of_ble_eq_true rfl⟩ ⟨Nat.le_of_ble_eq_true rfl, Nat.le_of_ble_eq_true rfl⟩ (fun v136 u134 H locs hw135 hP hD hS => ?_)
                obtain ⟨w, f139⟩ := u134
                obtain ⟨hw135, hO⟩ := hw135
                obtain rfl : v136 = none := hw135
                have hO : OKP G h0 a (upd F 2 (nI sz)) R Z (updA B 11 f139) J K w := hO.to rfl
                refine W.widen (k := 0) (n := 0) (Nat.le_of_ble_eq_true rfl) (Nat.le_of_ble_eq_true rfl) ?_
                refine W.eq (g2 := F0 m 151 ls []) rfl ?_
                refine lv_iinc (v := (nI (i2 + 1))) (lv' := [(1, .int (nI (i2 + 1))), (3, .int 0), (2, .int 63), (0, .ref pq)]) hx hb dX9_resolveTypes_151 hl (k := 2) rfl (nI_1 i2) (by decide) rfl (fun ls hl => ?_)
                refine lv_goto (tgt := 2) hx hb dX9_resolveTypes_154 (by decide) ?_
                have hO : OKP G h0 a (upd F 2 (nI sz)) R Z (updA B 11 f139) J K w := hO.to rfl
                exact ih_i (i2 + 1) f139 _ _ _ _ (by omega) (by omega) hP hD hS hO (lv_sub hl [0, 3] rfl)
              · refine lv_aload_n hx hb dX9_resolveTypes_104 rfl (lv_at hl 2 rfl) ?_
                refine p_get (v := .ref (a 1)) (C := RX9) (Tc := TX9) (N := 5) (ci := 6) hx hb hq pin_wsX90 hown hE hP hO (by rw [hp1]; decide) (rep_7 hp1) rfl 0 (by decide) (hq _ pw_784) (fun _ h9 => h9) (congrArg (fun z => some (va_rf z)) hp2) dX9_resolveTypes_105 ?_
                refine lv_iload_n hx hb dX9_resolveTypes_108 rfl (lv_at hl 1 rfl) ?_
                refine lv_iconst (v := 2) hx hb dX9_resolveTypes_109 (by decide) ?_
                refine lv_iadd hx hb dX9_resolveTypes_110 ?_
                refine lv_topi (fun x140 e141 => ?_)
                obtain rfl : x140 = nI (i2 + 2) := e141.trans (nI_add (i2) (2))
                have hO : OKW G h0 a (upd (upd F 2 (nI sz)) 2 (nI sz)) R Z (updA B 11 f2) J K.1 (fun q99 x99 => x99 = rep G a K q99) w := hO.to rfl
                obtain ⟨_, qr145, hqr146⟩ := hO.2.1 2 _ (sg_2 G h0 a _ _ _ _ _)
                refine pc_V0 (G := G) (As := [.int (nI (i2 + 2))]) (rest := []) hx hb hml hown hq hE hX pX0_al hP hD hS hA hl.1 (K_kindAt l G h0 a (upd F 2 (nI sz)) R Z (updA B 11 f2) J K.1 (fun q99 x99 => x99 = rep G a K q99) w (nI (i2 + 2)) sz (by omega) hO) (gV pw_1133 pw_193 pw_194 pw_59 pw_126) hV_X10_kindAt qr145 7 hqr146 rfl rfl rfl (Nat.le_of_ble_eq_true rfl) dX9_resolveTypes_111 ⟨Nat.le_of_ble_eq_true rfl, Nat.le_of_ble_eq_true rfl⟩ ⟨Nat.le_of_ble_eq_true rfl, Nat.le_of_ble_eq_true rfl⟩ (fun v144 u142 H locs hw143 hP hD hS => ?_)
                obtain ⟨w, r147⟩ := u142
                obtain ⟨hw143, h148, hO⟩ := hw143
                have h148 : r147 = 67 ∨ ∃ t : Nat, (nI (i2 + 2)) = nI t ∧ t < sz := h148
                obtain rfl : v144 = some (.int r147) := hw143
                have hO : OKP G h0 a (upd F 2 (nI sz)) R Z (updA B 11 f2) J K w := hO.to rfl
                refine W.widen (k := 0) (n := 0) (Nat.le_of_ble_eq_true rfl) (Nat.le_of_ble_eq_true rfl) ?_
                refine W.eq (g2 := F0 m 114 ls [.int r147]) rfl ?_
                refine lv_bipush (v := 37) hx hb dX9_resolveTypes_114 (by decide) ?_
                refine lv_icmp_ne (tgt := 123) hx hb dX9_resolveTypes_116 (by decide) (fun c149 => ?_) (fun c149 => ?_)
                · refine lv_iconst (v := 0) hx hb dX9_resolveTypes_123 (by decide) ?_
                  refine lv_istore_n (lv' := [(3, .int 0), (2, .int 63), (1, .int (nI i2)), (0, .ref pq)]) hx hb dX9_resolveTypes_124 rfl hl (by decide) rfl (fun ls hl => ?_)
                  refine lv_aload_n hx hb dX9_resolveTypes_125 rfl (lv_at hl 3 rfl) ?_
                  refine p_get (v := .ref (a 1)) (C := RX9) (Tc := TX9) (N := 5) (ci := 6) hx hb hq pin_wsX90 hown hE hP hO (by rw [hp1]; decide) (rep_7 hp1) rfl 0 (by decide) (hq _ pw_784) (fun _ h9 => h9) (congrArg (fun z => some (va_rf z)) hp2) dX9_resolveTypes_126 ?_
                  refine lv_iload_n hx hb dX9_resolveTypes_129 rfl (lv_at hl 2 rfl) ?_
                  refine lv_iload_n hx hb dX9_resolveTypes_130 rfl (lv_at hl 0 rfl) ?_
                  refine lv_if_eq (tgt := 147) hx hb dX9_resolveTypes_131 (by decide) (fun c150 => ?_) (fun c150 => absurd c150 (by decide))
                  refine lv_iload_n hx hb dX9_resolveTypes_147 rfl (lv_at hl 1 rfl) ?_
                  have hO : OKW G h0 a (upd (upd F 2 (nI sz)) 2 (nI sz)) R Z (updA B 11 f2) J K.1 (fun q99 x99 => x99 = rep G a K q99) w := hO.to rfl
                  obtain ⟨_, qr154, hqr155⟩ := hO.2.1 2 _ (sg_2 G h0 a _ _ _ _ _)
                  refine pc_V0 (G := G) (As := [.int (nI i2), .int 63]) (rest := []) hx hb hml hown hq hE hX pX0_al hP hD hS hA hl.1 (K_giveType l G h0 a (upd F 2 (nI sz)) R Z (updA B 11 f2) J K.1 (fun q99 x99 => x99 = rep G a K q99) w (nI i2) 63 sz (by omega) hO) (gV pw_1134 pw_1135 pw_1136 pw_59 pw_1132) hV_X10_giveType qr154 7 hqr155 rfl rfl rfl (Nat.le_of_ble_eq_true rfl) dX9_resolveTypes_148 ⟨Nat.le_of_ble_eq_true rfl, Nat.le_of_ble_eq_true rfl⟩ ⟨Nat.le_of_ble_eq_true rfl, Nat.le_of_ble_eq_true rfl⟩ (fun v153 u151 H locs hw152 hP hD hS => ?_)
                  obtain ⟨w, f156⟩ := u151
                  obtain ⟨hw152, hO⟩ := hw152
                  obtain rfl : v153 = none := hw152
                  have hO : OKP G h0 a (upd F 2 (nI sz)) R Z (updA B 11 f156) J K w := hO.to rfl
                  refine W.widen (k := 0) (n := 0) (Nat.le_of_ble_eq_true rfl) (Nat.le_of_ble_eq_true rfl) ?_
                  refine W.eq (g2 := F0 m 151 ls []) rfl ?_
                  refine lv_iinc (v := (nI (i2 + 1))) (lv' := [(1, .int (nI (i2 + 1))), (3, .int 0), (2, .int 63), (0, .ref pq)]) hx hb dX9_resolveTypes_151 hl (k := 2) rfl (nI_1 i2) (by decide) rfl (fun ls hl => ?_)
                  refine lv_goto (tgt := 2) hx hb dX9_resolveTypes_154 (by decide) ?_
                  have hO : OKP G h0 a (upd F 2 (nI sz)) R Z (updA B 11 f156) J K w := hO.to rfl
                  exact ih_i (i2 + 1) f156 _ _ _ _ (by omega) (by omega) hP hD hS hO (lv_sub hl [0, 3] rfl)
                · refine lv_iconst (v := 1) hx hb dX9_resolveTypes_119 (by decide) ?_
                  refine lv_goto (tgt := 124) hx hb dX9_resolveTypes_120 (by decide) ?_
                  refine lv_istore_n (lv' := [(3, .int 1), (2, .int 63), (1, .int (nI i2)), (0, .ref pq)]) hx hb dX9_resolveTypes_124 rfl hl (by decide) rfl (fun ls hl => ?_)
                  refine lv_aload_n hx hb dX9_resolveTypes_125 rfl (lv_at hl 3 rfl) ?_
                  refine p_get (v := .ref (a 1)) (C := RX9) (Tc := TX9) (N := 5) (ci := 6) hx hb hq pin_wsX90 hown hE hP hO (by rw [hp1]; decide) (rep_7 hp1) rfl 0 (by decide) (hq _ pw_784) (fun _ h9 => h9) (congrArg (fun z => some (va_rf z)) hp2) dX9_resolveTypes_126 ?_
                  refine lv_iload_n hx hb dX9_resolveTypes_129 rfl (lv_at hl 2 rfl) ?_
                  refine lv_iload_n hx hb dX9_resolveTypes_130 rfl (lv_at hl 0 rfl) ?_
                  refine lv_if_eq (tgt := 147) hx hb dX9_resolveTypes_131 (by decide) (fun c157 => absurd c157 (by decide)) (fun c157 => ?_)
                  refine lv_iload_n hx hb dX9_resolveTypes_134 rfl (lv_at hl 1 rfl) ?_
                  refine lv_bipush (v := 63) hx hb dX9_resolveTypes_135 (by decide) ?_
                  refine lv_icmp_eq (tgt := 147) hx hb dX9_resolveTypes_137 (by decide) (fun c158 => ?_) (fun c158 => absurd c158 (by decide))
                  refine lv_iload_n hx hb dX9_resolveTypes_147 rfl (lv_at hl 1 rfl) ?_
                  have hO : OKW G h0 a (upd (upd F 2 (nI sz)) 2 (nI sz)) R Z (updA B 11 f2) J K.1 (fun q99 x99 => x99 = rep G a K q99) w := hO.to rfl
                  obtain ⟨_, qr162, hqr163⟩ := hO.2.1 2 _ (sg_2 G h0 a _ _ _ _ _)
                  refine pc_V0 (G := G) (As := [.int (nI i2), .int 63]) (rest := []) hx hb hml hown hq hE hX pX0_al hP hD hS hA hl.1 (K_giveType l G h0 a (upd F 2 (nI sz)) R Z (updA B 11 f2) J K.1 (fun q99 x99 => x99 = rep G a K q99) w (nI i2) 63 sz (by omega) hO) (gV pw_1134 pw_1135 pw_1136 pw_59 pw_1132) hV_X10_giveType qr162 7 hqr163 rfl rfl rfl (Nat.le_of_ble_eq_true rfl) dX9_resolveTypes_148 ⟨Nat.le_of_ble_eq_true rfl, Nat.le_of_ble_eq_true rfl⟩ ⟨Nat.le_of_ble_eq_true rfl, Nat.le_of_ble_eq_true rfl⟩ (fun v161 u159 H locs hw160 hP hD hS => ?_)
                  obtain ⟨w, f164⟩ := u159
                  obtain ⟨hw160, hO⟩ := hw160
                  obtain rfl : v161 = none := hw160
                  have hO : OKP G h0 a (upd F 2 (nI sz)) R Z (updA B 11 f164) J K w := hO.to rfl
                  refine W.widen (k := 0) (n := 0) (Nat.le_of_ble_eq_true rfl) (Nat.le_of_ble_eq_true rfl) ?_
                  refine W.eq (g2 := F0 m 151 ls []) rfl ?_
                  refine lv_iinc (v := (nI (i2 + 1))) (lv' := [(1, .int (nI (i2 + 1))), (3, .int 1), (2, .int 63), (0, .ref pq)]) hx hb dX9_resolveTypes_151 hl (k := 2) rfl (nI_1 i2) (by decide) rfl (fun ls hl => ?_)
                  refine lv_goto (tgt := 2) hx hb dX9_resolveTypes_154 (by decide) ?_
                  have hO : OKP G h0 a (upd F 2 (nI sz)) R Z (updA B 11 f164) J K w := hO.to rfl
                  exact ih_i (i2 + 1) f164 _ _ _ _ (by omega) (by omega) hP hD hS hO (lv_sub hl [0, 3] rfl)
            · refine lv_aload_n hx hb dX9_resolveTypes_68 rfl (lv_at hl 2 rfl) ?_
              refine p_get (v := .ref (a 1)) (C := RX9) (Tc := TX9) (N := 5) (ci := 6) hx hb hq pin_wsX90 hown hE hP hO (by rw [hp1]; decide) (rep_7 hp1) rfl 0 (by decide) (hq _ pw_784) (fun _ h9 => h9) (congrArg (fun z => some (va_rf z)) hp2) dX9_resolveTypes_69 ?_
              refine lv_iload_n hx hb dX9_resolveTypes_72 rfl (lv_at hl 1 rfl) ?_
              have hO : OKW G h0 a (upd (upd F 2 (nI sz)) 2 (nI sz)) R Z (updA B 11 f2) J K.1 (fun q99 x99 => x99 = rep G a K q99) w := hO.to rfl
              obtain ⟨_, qr168, hqr169⟩ := hO.2.1 2 _ (sg_2 G h0 a _ _ _ _ _)
              refine pc_V0 (G := G) (As := [.int (nI i2)]) (rest := []) hx hb hml hown hq hE hX pX0_al hP hD hS hA hl.1 (K_kindAt l G h0 a (upd F 2 (nI sz)) R Z (updA B 11 f2) J K.1 (fun q99 x99 => x99 = rep G a K q99) w (nI i2) sz (by omega) hO) (gV pw_1133 pw_193 pw_194 pw_59 pw_126) hV_X10_kindAt qr168 7 hqr169 rfl rfl rfl (Nat.le_of_ble_eq_true rfl) dX9_resolveTypes_73 ⟨Nat.le_of_ble_eq_true rfl, Nat.le_of_ble_eq_true rfl⟩ ⟨Nat.le_of_ble_eq_true rfl, Nat.le_of_ble_eq_true rfl⟩ (fun v167 u165 H locs hw166 hP hD hS => ?_)
              obtain ⟨w, r170⟩ := u165
              obtain ⟨hw166, h171, hO⟩ := hw166
              have h171 : r170 = 67 ∨ ∃ t : Nat, (nI i2) = nI t ∧ t < sz := h171
              obtain rfl : v167 = some (.int r170) := hw166
              have hO : OKP G h0 a (upd F 2 (nI sz)) R Z (updA B 11 f2) J K w := hO.to rfl
              refine W.widen (k := 0) (n := 0) (Nat.le_of_ble_eq_true rfl) (Nat.le_of_ble_eq_true rfl) ?_
              refine W.eq (g2 := F0 m 76 ls [.int r170]) rfl ?_
              refine lv_bipush (v := 13) hx hb dX9_resolveTypes_76 (by decide) ?_
              refine lv_icmp_ne (tgt := 86) hx hb dX9_resolveTypes_78 (by decide) (fun c172 => ?_) (fun c172 => ?_)
              · refine lv_bipush (v := 61) hx hb dX9_resolveTypes_86 (by decide) ?_
                refine lv_istore_n (lv' := [(2, .int 61), (1, .int (nI i2)), (0, .ref pq)]) hx hb dX9_resolveTypes_88 rfl hl (by decide) rfl (fun ls hl => ?_)
                refine lv_aload_n hx hb dX9_resolveTypes_89 rfl (lv_at hl 2 rfl) ?_
                refine p_get (v := .ref (a 1)) (C := RX9) (Tc := TX9) (N := 5) (ci := 6) hx hb hq pin_wsX90 hown hE hP hO (by rw [hp1]; decide) (rep_7 hp1) rfl 0 (by decide) (hq _ pw_784) (fun _ h9 => h9) (congrArg (fun z => some (va_rf z)) hp2) dX9_resolveTypes_90 ?_
                refine lv_iload_n hx hb dX9_resolveTypes_93 rfl (lv_at hl 1 rfl) ?_
                refine lv_iconst (v := 1) hx hb dX9_resolveTypes_94 (by decide) ?_
                refine lv_iadd hx hb dX9_resolveTypes_95 ?_
                refine lv_topi (fun x173 e174 => ?_)
                obtain rfl : x173 = nI (i2 + 1) := e174.trans (nI_add (i2) (1))
                have hO : OKW G h0 a (upd (upd F 2 (nI sz)) 2 (nI sz)) R Z (updA B 11 f2) J K.1 (fun q99 x99 => x99 = rep G a K q99) w := hO.to rfl
                obtain ⟨_, qr178, hqr179⟩ := hO.2.1 2 _ (sg_2 G h0 a _ _ _ _ _)
                refine pc_V0 (G := G) (As := [.int (nI (i2 + 1))]) (rest := []) hx hb hml hown hq hE hX pX0_al hP hD hS hA hl.1 (K_kindAt l G h0 a (upd F 2 (nI sz)) R Z (updA B 11 f2) J K.1 (fun q99 x99 => x99 = rep G a K q99) w (nI (i2 + 1)) sz (by omega) hO) (gV pw_1133 pw_193 pw_194 pw_59 pw_126) hV_X10_kindAt qr178 7 hqr179 rfl rfl rfl (Nat.le_of_ble_eq_true rfl) dX9_resolveTypes_96 ⟨Nat.le_of_ble_eq_true rfl, Nat.le_of_ble_eq_true rfl⟩ ⟨Nat.le_of_ble_eq_true rfl, Nat.le_of_ble_eq_true rfl⟩ (fun v177 u175 H locs hw176 hP hD hS => ?_)
                obtain ⟨w, r180⟩ := u175
                obtain ⟨hw176, h181, hO⟩ := hw176
                have h181 : r180 = 67 ∨ ∃ t : Nat, (nI (i2 + 1)) = nI t ∧ t < sz := h181
                obtain rfl : v177 = some (.int r180) := hw176
                have hO : OKP G h0 a (upd F 2 (nI sz)) R Z (updA B 11 f2) J K w := hO.to rfl
                refine W.widen (k := 0) (n := 0) (Nat.le_of_ble_eq_true rfl) (Nat.le_of_ble_eq_true rfl) ?_
                refine W.eq (g2 := F0 m 99 ls [.int r180]) rfl ?_
                refine lv_bipush (v := 36) hx hb dX9_resolveTypes_99 (by decide) ?_
                refine lv_icmp_ne (tgt := 123) hx hb dX9_resolveTypes_101 (by decide) (fun c182 => ?_) (fun c182 => ?_)
                · refine lv_iconst (v := 0) hx hb dX9_resolveTypes_123 (by decide) ?_
                  refine lv_istore_n (lv' := [(3, .int 0), (2, .int 61), (1, .int (nI i2)), (0, .ref pq)]) hx hb dX9_resolveTypes_124 rfl hl (by decide) rfl (fun ls hl => ?_)
                  refine lv_aload_n hx hb dX9_resolveTypes_125 rfl (lv_at hl 3 rfl) ?_
                  refine p_get (v := .ref (a 1)) (C := RX9) (Tc := TX9) (N := 5) (ci := 6) hx hb hq pin_wsX90 hown hE hP hO (by rw [hp1]; decide) (rep_7 hp1) rfl 0 (by decide) (hq _ pw_784) (fun _ h9 => h9) (congrArg (fun z => some (va_rf z)) hp2) dX9_resolveTypes_126 ?_
                  refine lv_iload_n hx hb dX9_resolveTypes_129 rfl (lv_at hl 2 rfl) ?_
                  refine lv_iload_n hx hb dX9_resolveTypes_130 rfl (lv_at hl 0 rfl) ?_
                  refine lv_if_eq (tgt := 147) hx hb dX9_resolveTypes_131 (by decide) (fun c183 => ?_) (fun c183 => absurd c183 (by decide))
                  refine lv_iload_n hx hb dX9_resolveTypes_147 rfl (lv_at hl 1 rfl) ?_
                  have hO : OKW G h0 a (upd (upd F 2 (nI sz)) 2 (nI sz)) R Z (updA B 11 f2) J K.1 (fun q99 x99 => x99 = rep G a K q99) w := hO.to rfl
                  obtain ⟨_, qr187, hqr188⟩ := hO.2.1 2 _ (sg_2 G h0 a _ _ _ _ _)
                  refine pc_V0 (G := G) (As := [.int (nI i2), .int 61]) (rest := []) hx hb hml hown hq hE hX pX0_al hP hD hS hA hl.1 (K_giveType l G h0 a (upd F 2 (nI sz)) R Z (updA B 11 f2) J K.1 (fun q99 x99 => x99 = rep G a K q99) w (nI i2) 61 sz (by omega) hO) (gV pw_1134 pw_1135 pw_1136 pw_59 pw_1132) hV_X10_giveType qr187 7 hqr188 rfl rfl rfl (Nat.le_of_ble_eq_true rfl) dX9_resolveTypes_148 ⟨Nat.le_of_ble_eq_true rfl, Nat.le_of_ble_eq_true rfl⟩ ⟨Nat.le_of_ble_eq_true rfl, Nat.le_of_ble_eq_true rfl⟩ (fun v186 u184 H locs hw185 hP hD hS => ?_)
                  obtain ⟨w, f189⟩ := u184
                  obtain ⟨hw185, hO⟩ := hw185
                  obtain rfl : v186 = none := hw185
                  have hO : OKP G h0 a (upd F 2 (nI sz)) R Z (updA B 11 f189) J K w := hO.to rfl
                  refine W.widen (k := 0) (n := 0) (Nat.le_of_ble_eq_true rfl) (Nat.le_of_ble_eq_true rfl) ?_
                  refine W.eq (g2 := F0 m 151 ls []) rfl ?_
                  refine lv_iinc (v := (nI (i2 + 1))) (lv' := [(1, .int (nI (i2 + 1))), (3, .int 0), (2, .int 61), (0, .ref pq)]) hx hb dX9_resolveTypes_151 hl (k := 2) rfl (nI_1 i2) (by decide) rfl (fun ls hl => ?_)
                  refine lv_goto (tgt := 2) hx hb dX9_resolveTypes_154 (by decide) ?_
                  have hO : OKP G h0 a (upd F 2 (nI sz)) R Z (updA B 11 f189) J K w := hO.to rfl
                  exact ih_i (i2 + 1) f189 _ _ _ _ (by omega) (by omega) hP hD hS hO (lv_sub hl [0, 3] rfl)
                · refine lv_aload_n hx hb dX9_resolveTypes_104 rfl (lv_at hl 2 rfl) ?_
                  refine p_get (v := .ref (a 1)) (C := RX9) (Tc := TX9) (N := 5) (ci := 6) hx hb hq pin_wsX90 hown hE hP hO (by rw [hp1]; decide) (rep_7 hp1) rfl 0 (by decide) (hq _ pw_784) (fun _ h9 => h9) (congrArg (fun z => some (va_rf z)) hp2) dX9_resolveTypes_105 ?_
                  refine lv_iload_n hx hb dX9_resolveTypes_108 rfl (lv_at hl 1 rfl) ?_
                  refine lv_iconst (v := 2) hx hb dX9_resolveTypes_109 (by decide) ?_
                  refine lv_iadd hx hb dX9_resolveTypes_110 ?_
                  refine lv_topi (fun x190 e191 => ?_)
                  obtain rfl : x190 = nI (i2 + 2) := e191.trans (nI_add (i2) (2))
                  have hO : OKW G h0 a (upd (upd F 2 (nI sz)) 2 (nI sz)) R Z (updA B 11 f2) J K.1 (fun q99 x99 => x99 = rep G a K q99) w := hO.to rfl
                  obtain ⟨_, qr195, hqr196⟩ := hO.2.1 2 _ (sg_2 G h0 a _ _ _ _ _)
                  refine pc_V0 (G := G) (As := [.int (nI (i2 + 2))]) (rest := []) hx hb hml hown hq hE hX pX0_al hP hD hS hA hl.1 (K_kindAt l G h0 a (upd F 2 (nI sz)) R Z (updA B 11 f2) J K.1 (fun q99 x99 => x99 = rep G a K q99) w (nI (i2 + 2)) sz (by omega) hO) (gV pw_1133 pw_193 pw_194 pw_59 pw_126) hV_X10_kindAt qr195 7 hqr196 rfl rfl rfl (Nat.le_of_ble_eq_true rfl) dX9_resolveTypes_111 ⟨Nat.le_of_ble_eq_true rfl, Nat.le_of_ble_eq_true rfl⟩ ⟨Nat.le_of_ble_eq_true rfl, Nat.le_of_ble_eq_true rfl⟩ (fun v194 u192 H locs hw193 hP hD hS => ?_)
                  obtain ⟨w, r197⟩ := u192
                  obtain ⟨hw193, h198, hO⟩ := hw193
                  have h198 : r197 = 67 ∨ ∃ t : Nat, (nI (i2 + 2)) = nI t ∧ t < sz := h198
                  obtain rfl : v194 = some (.int r197) := hw193
                  have hO : OKP G h0 a (upd F 2 (nI sz)) R Z (updA B 11 f2) J K w := hO.to rfl
                  refine W.widen (k := 0) (n := 0) (Nat.le_of_ble_eq_true rfl) (Nat.le_of_ble_eq_true rfl) ?_
                  refine W.eq (g2 := F0 m 114 ls [.int r197]) rfl ?_
                  refine lv_bipush (v := 37) hx hb dX9_resolveTypes_114 (by decide) ?_
                  refine lv_icmp_ne (tgt := 123) hx hb dX9_resolveTypes_116 (by decide) (fun c199 => ?_) (fun c199 => ?_)
                  · refine lv_iconst (v := 0) hx hb dX9_resolveTypes_123 (by decide) ?_
                    refine lv_istore_n (lv' := [(3, .int 0), (2, .int 61), (1, .int (nI i2)), (0, .ref pq)]) hx hb dX9_resolveTypes_124 rfl hl (by decide) rfl (fun ls hl => ?_)
                    refine lv_aload_n hx hb dX9_resolveTypes_125 rfl (lv_at hl 3 rfl) ?_
                    refine p_get (v := .ref (a 1)) (C := RX9) (Tc := TX9) (N := 5) (ci := 6) hx hb hq pin_wsX90 hown hE hP hO (by rw [hp1]; decide) (rep_7 hp1) rfl 0 (by decide) (hq _ pw_784) (fun _ h9 => h9) (congrArg (fun z => some (va_rf z)) hp2) dX9_resolveTypes_126 ?_
                    refine lv_iload_n hx hb dX9_resolveTypes_129 rfl (lv_at hl 2 rfl) ?_
                    refine lv_iload_n hx hb dX9_resolveTypes_130 rfl (lv_at hl 0 rfl) ?_
                    refine lv_if_eq (tgt := 147) hx hb dX9_resolveTypes_131 (by decide) (fun c200 => ?_) (fun c200 => absurd c200 (by decide))
                    refine lv_iload_n hx hb dX9_resolveTypes_147 rfl (lv_at hl 1 rfl) ?_
                    have hO : OKW G h0 a (upd (upd F 2 (nI sz)) 2 (nI sz)) R Z (updA B 11 f2) J K.1 (fun q99 x99 => x99 = rep G a K q99) w := hO.to rfl
                    obtain ⟨_, qr204, hqr205⟩ := hO.2.1 2 _ (sg_2 G h0 a _ _ _ _ _)
                    refine pc_V0 (G := G) (As := [.int (nI i2), .int 61]) (rest := []) hx hb hml hown hq hE hX pX0_al hP hD hS hA hl.1 (K_giveType l G h0 a (upd F 2 (nI sz)) R Z (updA B 11 f2) J K.1 (fun q99 x99 => x99 = rep G a K q99) w (nI i2) 61 sz (by omega) hO) (gV pw_1134 pw_1135 pw_1136 pw_59 pw_1132) hV_X10_giveType qr204 7 hqr205 rfl rfl rfl (Nat.le_of_ble_eq_true rfl) dX9_resolveTypes_148 ⟨Nat.le_of_ble_eq_true rfl, Nat.le_of_ble_eq_true rfl⟩ ⟨Nat.le_of_ble_eq_true rfl, Nat.le_of_ble_eq_true rfl⟩ (fun v203 u201 H locs hw202 hP hD hS => ?_)
                    obtain ⟨w, f206⟩ := u201
                    obtain ⟨hw202, hO⟩ := hw202
                    obtain rfl : v203 = none := hw202
                    have hO : OKP G h0 a (upd F 2 (nI sz)) R Z (updA B 11 f206) J K w := hO.to rfl
                    refine W.widen (k := 0) (n := 0) (Nat.le_of_ble_eq_true rfl) (Nat.le_of_ble_eq_true rfl) ?_
                    refine W.eq (g2 := F0 m 151 ls []) rfl ?_
                    refine lv_iinc (v := (nI (i2 + 1))) (lv' := [(1, .int (nI (i2 + 1))), (3, .int 0), (2, .int 61), (0, .ref pq)]) hx hb dX9_resolveTypes_151 hl (k := 2) rfl (nI_1 i2) (by decide) rfl (fun ls hl => ?_)
                    refine lv_goto (tgt := 2) hx hb dX9_resolveTypes_154 (by decide) ?_
                    have hO : OKP G h0 a (upd F 2 (nI sz)) R Z (updA B 11 f206) J K w := hO.to rfl
                    exact ih_i (i2 + 1) f206 _ _ _ _ (by omega) (by omega) hP hD hS hO (lv_sub hl [0, 3] rfl)
                  · refine lv_iconst (v := 1) hx hb dX9_resolveTypes_119 (by decide) ?_
                    refine lv_goto (tgt := 124) hx hb dX9_resolveTypes_120 (by decide) ?_
                    refine lv_istore_n (lv' := [(3, .int 1), (2, .int 61), (1, .int (nI i2)), (0, .ref pq)]) hx hb dX9_resolveTypes_124 rfl hl (by decide) rfl (fun ls hl => ?_)
                    refine lv_aload_n hx hb dX9_resolveTypes_125 rfl (lv_at hl 3 rfl) ?_
                    refine p_get (v := .ref (a 1)) (C := RX9) (Tc := TX9) (N := 5) (ci := 6) hx hb hq pin_wsX90 hown hE hP hO (by rw [hp1]; decide) (rep_7 hp1) rfl 0 (by decide) (hq _ pw_784) (fun _ h9 => h9) (congrArg (fun z => some (va_rf z)) hp2) dX9_resolveTypes_126 ?_
                    refine lv_iload_n hx hb dX9_resolveTypes_129 rfl (lv_at hl 2 rfl) ?_
                    refine lv_iload_n hx hb dX9_resolveTypes_130 rfl (lv_at hl 0 rfl) ?_
                    refine lv_if_eq (tgt := 147) hx hb dX9_resolveTypes_131 (by decide) (fun c207 => absurd c207 (by decide)) (fun c207 => ?_)
                    refine lv_iload_n hx hb dX9_resolveTypes_134 rfl (lv_at hl 1 rfl) ?_
                    refine lv_bipush (v := 63) hx hb dX9_resolveTypes_135 (by decide) ?_
                    refine lv_icmp_eq (tgt := 147) hx hb dX9_resolveTypes_137 (by decide) (fun c208 => absurd c208 (by decide)) (fun c208 => ?_)
                    refine lv_bipush (v := 64) hx hb dX9_resolveTypes_140 (by decide) ?_
                    refine lv_iload_n hx hb dX9_resolveTypes_142 rfl (lv_at hl 1 rfl) ?_
                    refine lv_iadd hx hb dX9_resolveTypes_143 ?_
                    refine lv_topi (fun x209 e210 => ?_)
                    obtain rfl : x209 = 125 := e210.trans (by decide)
                    refine lv_goto (tgt := 148) hx hb dX9_resolveTypes_144 (by decide) ?_
                    have hO : OKW G h0 a (upd (upd F 2 (nI sz)) 2 (nI sz)) R Z (updA B 11 f2) J K.1 (fun q99 x99 => x99 = rep G a K q99) w := hO.to rfl
                    obtain ⟨_, qr214, hqr215⟩ := hO.2.1 2 _ (sg_2 G h0 a _ _ _ _ _)
                    refine pc_V0 (G := G) (As := [.int (nI i2), .int 125]) (rest := []) hx hb hml hown hq hE hX pX0_al hP hD hS hA hl.1 (K_giveType l G h0 a (upd F 2 (nI sz)) R Z (updA B 11 f2) J K.1 (fun q99 x99 => x99 = rep G a K q99) w (nI i2) 125 sz (by omega) hO) (gV pw_1134 pw_1135 pw_1136 pw_59 pw_1132) hV_X10_giveType qr214 7 hqr215 rfl rfl rfl (Nat.le_of_ble_eq_true rfl) dX9_resolveTypes_148 ⟨Nat.le_of_ble_eq_true rfl, Nat.le_of_ble_eq_true rfl⟩ ⟨Nat.le_of_ble_eq_true rfl, Nat.le_of_ble_eq_true rfl⟩ (fun v213 u211 H locs hw212 hP hD hS => ?_)
                    obtain ⟨w, f216⟩ := u211
                    obtain ⟨hw212, hO⟩ := hw212
                    obtain rfl : v213 = none := hw212
                    have hO : OKP G h0 a (upd F 2 (nI sz)) R Z (updA B 11 f216) J K w := hO.to rfl
                    refine W.widen (k := 0) (n := 0) (Nat.le_of_ble_eq_true rfl) (Nat.le_of_ble_eq_true rfl) ?_
                    refine W.eq (g2 := F0 m 151 ls []) rfl ?_
                    refine lv_iinc (v := (nI (i2 + 1))) (lv' := [(1, .int (nI (i2 + 1))), (3, .int 1), (2, .int 61), (0, .ref pq)]) hx hb dX9_resolveTypes_151 hl (k := 2) rfl (nI_1 i2) (by decide) rfl (fun ls hl => ?_)
                    refine lv_goto (tgt := 2) hx hb dX9_resolveTypes_154 (by decide) ?_
                    have hO : OKP G h0 a (upd F 2 (nI sz)) R Z (updA B 11 f216) J K w := hO.to rfl
                    exact ih_i (i2 + 1) f216 _ _ _ _ (by omega) (by omega) hP hD hS hO (lv_sub hl [0, 3] rfl)
              · refine lv_bipush (v := 60) hx hb dX9_resolveTypes_81 (by decide) ?_
                refine lv_goto (tgt := 88) hx hb dX9_resolveTypes_83 (by decide) ?_
                refine lv_istore_n (lv' := [(2, .int 60), (1, .int (nI i2)), (0, .ref pq)]) hx hb dX9_resolveTypes_88 rfl hl (by decide) rfl (fun ls hl => ?_)
                refine lv_aload_n hx hb dX9_resolveTypes_89 rfl (lv_at hl 2 rfl) ?_
                refine p_get (v := .ref (a 1)) (C := RX9) (Tc := TX9) (N := 5) (ci := 6) hx hb hq pin_wsX90 hown hE hP hO (by rw [hp1]; decide) (rep_7 hp1) rfl 0 (by decide) (hq _ pw_784) (fun _ h9 => h9) (congrArg (fun z => some (va_rf z)) hp2) dX9_resolveTypes_90 ?_
                refine lv_iload_n hx hb dX9_resolveTypes_93 rfl (lv_at hl 1 rfl) ?_
                refine lv_iconst (v := 1) hx hb dX9_resolveTypes_94 (by decide) ?_
                refine lv_iadd hx hb dX9_resolveTypes_95 ?_
                refine lv_topi (fun x217 e218 => ?_)
                obtain rfl : x217 = nI (i2 + 1) := e218.trans (nI_add (i2) (1))
                have hO : OKW G h0 a (upd (upd F 2 (nI sz)) 2 (nI sz)) R Z (updA B 11 f2) J K.1 (fun q99 x99 => x99 = rep G a K q99) w := hO.to rfl
                obtain ⟨_, qr222, hqr223⟩ := hO.2.1 2 _ (sg_2 G h0 a _ _ _ _ _)
                refine pc_V0 (G := G) (As := [.int (nI (i2 + 1))]) (rest := []) hx hb hml hown hq hE hX pX0_al hP hD hS hA hl.1 (K_kindAt l G h0 a (upd F 2 (nI sz)) R Z (updA B 11 f2) J K.1 (fun q99 x99 => x99 = rep G a K q99) w (nI (i2 + 1)) sz (by omega) hO) (gV pw_1133 pw_193 pw_194 pw_59 pw_126) hV_X10_kindAt qr222 7 hqr223 rfl rfl rfl (Nat.le_of_ble_eq_true rfl) dX9_resolveTypes_96 ⟨Nat.le_of_ble_eq_true rfl, Nat.le_of_ble_eq_true rfl⟩ ⟨Nat.le_of_ble_eq_true rfl, Nat.le_of_ble_eq_true rfl⟩ (fun v221 u219 H locs hw220 hP hD hS => ?_)
                obtain ⟨w, r224⟩ := u219
                obtain ⟨hw220, h225, hO⟩ := hw220
                have h225 : r224 = 67 ∨ ∃ t : Nat, (nI (i2 + 1)) = nI t ∧ t < sz := h225
                obtain rfl : v221 = some (.int r224) := hw220
                have hO : OKP G h0 a (upd F 2 (nI sz)) R Z (updA B 11 f2) J K w := hO.to rfl
                refine W.widen (k := 0) (n := 0) (Nat.le_of_ble_eq_true rfl) (Nat.le_of_ble_eq_true rfl) ?_
                refine W.eq (g2 := F0 m 99 ls [.int r224]) rfl ?_
                refine lv_bipush (v := 36) hx hb dX9_resolveTypes_99 (by decide) ?_
                refine lv_icmp_ne (tgt := 123) hx hb dX9_resolveTypes_101 (by decide) (fun c226 => ?_) (fun c226 => ?_)
                · refine lv_iconst (v := 0) hx hb dX9_resolveTypes_123 (by decide) ?_
                  refine lv_istore_n (lv' := [(3, .int 0), (2, .int 60), (1, .int (nI i2)), (0, .ref pq)]) hx hb dX9_resolveTypes_124 rfl hl (by decide) rfl (fun ls hl => ?_)
                  refine lv_aload_n hx hb dX9_resolveTypes_125 rfl (lv_at hl 3 rfl) ?_
                  refine p_get (v := .ref (a 1)) (C := RX9) (Tc := TX9) (N := 5) (ci := 6) hx hb hq pin_wsX90 hown hE hP hO (by rw [hp1]; decide) (rep_7 hp1) rfl 0 (by decide) (hq _ pw_784) (fun _ h9 => h9) (congrArg (fun z => some (va_rf z)) hp2) dX9_resolveTypes_126 ?_
                  refine lv_iload_n hx hb dX9_resolveTypes_129 rfl (lv_at hl 2 rfl) ?_
                  refine lv_iload_n hx hb dX9_resolveTypes_130 rfl (lv_at hl 0 rfl) ?_
                  refine lv_if_eq (tgt := 147) hx hb dX9_resolveTypes_131 (by decide) (fun c227 => ?_) (fun c227 => absurd c227 (by decide))
                  refine lv_iload_n hx hb dX9_resolveTypes_147 rfl (lv_at hl 1 rfl) ?_
                  have hO : OKW G h0 a (upd (upd F 2 (nI sz)) 2 (nI sz)) R Z (updA B 11 f2) J K.1 (fun q99 x99 => x99 = rep G a K q99) w := hO.to rfl
                  obtain ⟨_, qr231, hqr232⟩ := hO.2.1 2 _ (sg_2 G h0 a _ _ _ _ _)
                  refine pc_V0 (G := G) (As := [.int (nI i2), .int 60]) (rest := []) hx hb hml hown hq hE hX pX0_al hP hD hS hA hl.1 (K_giveType l G h0 a (upd F 2 (nI sz)) R Z (updA B 11 f2) J K.1 (fun q99 x99 => x99 = rep G a K q99) w (nI i2) 60 sz (by omega) hO) (gV pw_1134 pw_1135 pw_1136 pw_59 pw_1132) hV_X10_giveType qr231 7 hqr232 rfl rfl rfl (Nat.le_of_ble_eq_true rfl) dX9_resolveTypes_148 ⟨Nat.le_of_ble_eq_true rfl, Nat.le_of_ble_eq_true rfl⟩ ⟨Nat.le_of_ble_eq_true rfl, Nat.le_of_ble_eq_true rfl⟩ (fun v230 u228 H locs hw229 hP hD hS => ?_)
                  obtain ⟨w, f233⟩ := u228
                  obtain ⟨hw229, hO⟩ := hw229
                  obtain rfl : v230 = none := hw229
                  have hO : OKP G h0 a (upd F 2 (nI sz)) R Z (updA B 11 f233) J K w := hO.to rfl
                  refine W.widen (k := 0) (n := 0) (Nat.le_of_ble_eq_true rfl) (Nat.le_of_ble_eq_true rfl) ?_
                  refine W.eq (g2 := F0 m 151 ls []) rfl ?_
                  refine lv_iinc (v := (nI (i2 + 1))) (lv' := [(1, .int (nI (i2 + 1))), (3, .int 0), (2, .int 60), (0, .ref pq)]) hx hb dX9_resolveTypes_151 hl (k := 2) rfl (nI_1 i2) (by decide) rfl (fun ls hl => ?_)
                  refine lv_goto (tgt := 2) hx hb dX9_resolveTypes_154 (by decide) ?_
                  have hO : OKP G h0 a (upd F 2 (nI sz)) R Z (updA B 11 f233) J K w := hO.to rfl
                  exact ih_i (i2 + 1) f233 _ _ _ _ (by omega) (by omega) hP hD hS hO (lv_sub hl [0, 3] rfl)
                · refine lv_aload_n hx hb dX9_resolveTypes_104 rfl (lv_at hl 2 rfl) ?_
                  refine p_get (v := .ref (a 1)) (C := RX9) (Tc := TX9) (N := 5) (ci := 6) hx hb hq pin_wsX90 hown hE hP hO (by rw [hp1]; decide) (rep_7 hp1) rfl 0 (by decide) (hq _ pw_784) (fun _ h9 => h9) (congrArg (fun z => some (va_rf z)) hp2) dX9_resolveTypes_105 ?_
                  refine lv_iload_n hx hb dX9_resolveTypes_108 rfl (lv_at hl 1 rfl) ?_
                  refine lv_iconst (v := 2) hx hb dX9_resolveTypes_109 (by decide) ?_
                  refine lv_iadd hx hb dX9_resolveTypes_110 ?_
                  refine lv_topi (fun x234 e235 => ?_)
                  obtain rfl : x234 = nI (i2 + 2) := e235.trans (nI_add (i2) (2))
                  have hO : OKW G h0 a (upd (upd F 2 (nI sz)) 2 (nI sz)) R Z (updA B 11 f2) J K.1 (fun q99 x99 => x99 = rep G a K q99) w := hO.to rfl
                  obtain ⟨_, qr239, hqr240⟩ := hO.2.1 2 _ (sg_2 G h0 a _ _ _ _ _)
                  refine pc_V0 (G := G) (As := [.int (nI (i2 + 2))]) (rest := []) hx hb hml hown hq hE hX pX0_al hP hD hS hA hl.1 (K_kindAt l G h0 a (upd F 2 (nI sz)) R Z (updA B 11 f2) J K.1 (fun q99 x99 => x99 = rep G a K q99) w (nI (i2 + 2)) sz (by omega) hO) (gV pw_1133 pw_193 pw_194 pw_59 pw_126) hV_X10_kindAt qr239 7 hqr240 rfl rfl rfl (Nat.le_of_ble_eq_true rfl) dX9_resolveTypes_111 ⟨Nat.le_of_ble_eq_true rfl, Nat.le_of_ble_eq_true rfl⟩ ⟨Nat.le_of_ble_eq_true rfl, Nat.le_of_ble_eq_true rfl⟩ (fun v238 u236 H locs hw237 hP hD hS => ?_)
                  obtain ⟨w, r241⟩ := u236
                  obtain ⟨hw237, h242, hO⟩ := hw237
                  have h242 : r241 = 67 ∨ ∃ t : Nat, (nI (i2 + 2)) = nI t ∧ t < sz := h242
                  obtain rfl : v238 = some (.int r241) := hw237
                  have hO : OKP G h0 a (upd F 2 (nI sz)) R Z (updA B 11 f2) J K w := hO.to rfl
                  refine W.widen (k := 0) (n := 0) (Nat.le_of_ble_eq_true rfl) (Nat.le_of_ble_eq_true rfl) ?_
                  refine W.eq (g2 := F0 m 114 ls [.int r241]) rfl ?_
                  refine lv_bipush (v := 37) hx hb dX9_resolveTypes_114 (by decide) ?_
                  refine lv_icmp_ne (tgt := 123) hx hb dX9_resolveTypes_116 (by decide) (fun c243 => ?_) (fun c243 => ?_)
                  · refine lv_iconst (v := 0) hx hb dX9_resolveTypes_123 (by decide) ?_
                    refine lv_istore_n (lv' := [(3, .int 0), (2, .int 60), (1, .int (nI i2)), (0, .ref pq)]) hx hb dX9_resolveTypes_124 rfl hl (by decide) rfl (fun ls hl => ?_)
                    refine lv_aload_n hx hb dX9_resolveTypes_125 rfl (lv_at hl 3 rfl) ?_
                    refine p_get (v := .ref (a 1)) (C := RX9) (Tc := TX9) (N := 5) (ci := 6) hx hb hq pin_wsX90 hown hE hP hO (by rw [hp1]; decide) (rep_7 hp1) rfl 0 (by decide) (hq _ pw_784) (fun _ h9 => h9) (congrArg (fun z => some (va_rf z)) hp2) dX9_resolveTypes_126 ?_
                    refine lv_iload_n hx hb dX9_resolveTypes_129 rfl (lv_at hl 2 rfl) ?_
                    refine lv_iload_n hx hb dX9_resolveTypes_130 rfl (lv_at hl 0 rfl) ?_
                    refine lv_if_eq (tgt := 147) hx hb dX9_resolveTypes_131 (by decide) (fun c244 => ?_) (fun c244 => absurd c244 (by decide))
                    refine lv_iload_n hx hb dX9_resolveTypes_147 rfl (lv_at hl 1 rfl) ?_
                    have hO : OKW G h0 a (upd (upd F 2 (nI sz)) 2 (nI sz)) R Z (updA B 11 f2) J K.1 (fun q99 x99 => x99 = rep G a K q99) w := hO.to rfl
                    obtain ⟨_, qr248, hqr249⟩ := hO.2.1 2 _ (sg_2 G h0 a _ _ _ _ _)
                    refine pc_V0 (G := G) (As := [.int (nI i2), .int 60]) (rest := []) hx hb hml hown hq hE hX pX0_al hP hD hS hA hl.1 (K_giveType l G h0 a (upd F 2 (nI sz)) R Z (updA B 11 f2) J K.1 (fun q99 x99 => x99 = rep G a K q99) w (nI i2) 60 sz (by omega) hO) (gV pw_1134 pw_1135 pw_1136 pw_59 pw_1132) hV_X10_giveType qr248 7 hqr249 rfl rfl rfl (Nat.le_of_ble_eq_true rfl) dX9_resolveTypes_148 ⟨Nat.le_of_ble_eq_true rfl, Nat.le_of_ble_eq_true rfl⟩ ⟨Nat.le_of_ble_eq_true rfl, Nat.le_of_ble_eq_true rfl⟩ (fun v247 u245 H locs hw246 hP hD hS => ?_)
                    obtain ⟨w, f250⟩ := u245
                    obtain ⟨hw246, hO⟩ := hw246
                    obtain rfl : v247 = none := hw246
                    have hO : OKP G h0 a (upd F 2 (nI sz)) R Z (updA B 11 f250) J K w := hO.to rfl
                    refine W.widen (k := 0) (n := 0) (Nat.le_of_ble_eq_true rfl) (Nat.le_of_ble_eq_true rfl) ?_
                    refine W.eq (g2 := F0 m 151 ls []) rfl ?_
                    refine lv_iinc (v := (nI (i2 + 1))) (lv' := [(1, .int (nI (i2 + 1))), (3, .int 0), (2, .int 60), (0, .ref pq)]) hx hb dX9_resolveTypes_151 hl (k := 2) rfl (nI_1 i2) (by decide) rfl (fun ls hl => ?_)
                    refine lv_goto (tgt := 2) hx hb dX9_resolveTypes_154 (by decide) ?_
                    have hO : OKP G h0 a (upd F 2 (nI sz)) R Z (updA B 11 f250) J K w := hO.to rfl
                    exact ih_i (i2 + 1) f250 _ _ _ _ (by omega) (by omega) hP hD hS hO (lv_sub hl [0, 3] rfl)
                  · refine lv_iconst (v := 1) hx hb dX9_resolveTypes_119 (by decide) ?_
                    refine lv_goto (tgt := 124) hx hb dX9_resolveTypes_120 (by decide) ?_
                    refine lv_istore_n (lv' := [(3, .int 1), (2, .int 60), (1, .int (nI i2)), (0, .ref pq)]) hx hb dX9_resolveTypes_124 rfl hl (by decide) rfl (fun ls hl => ?_)
                    refine lv_aload_n hx hb dX9_resolveTypes_125 rfl (lv_at hl 3 rfl) ?_
                    refine p_get (v := .ref (a 1)) (C := RX9) (Tc := TX9) (N := 5) (ci := 6) hx hb hq pin_wsX90 hown hE hP hO (by rw [hp1]; decide) (rep_7 hp1) rfl 0 (by decide) (hq _ pw_784) (fun _ h9 => h9) (congrArg (fun z => some (va_rf z)) hp2) dX9_resolveTypes_126 ?_
                    refine lv_iload_n hx hb dX9_resolveTypes_129 rfl (lv_at hl 2 rfl) ?_
                    refine lv_iload_n hx hb dX9_resolveTypes_130 rfl (lv_at hl 0 rfl) ?_
                    refine lv_if_eq (tgt := 147) hx hb dX9_resolveTypes_131 (by decide) (fun c251 => absurd c251 (by decide)) (fun c251 => ?_)
                    refine lv_iload_n hx hb dX9_resolveTypes_134 rfl (lv_at hl 1 rfl) ?_
                    refine lv_bipush (v := 63) hx hb dX9_resolveTypes_135 (by decide) ?_
                    refine lv_icmp_eq (tgt := 147) hx hb dX9_resolveTypes_137 (by decide) (fun c252 => absurd c252 (by decide)) (fun c252 => ?_)
                    refine lv_bipush (v := 64) hx hb dX9_resolveTypes_140 (by decide) ?_
                    refine lv_iload_n hx hb dX9_resolveTypes_142 rfl (lv_at hl 1 rfl) ?_
                    refine lv_iadd hx hb dX9_resolveTypes_143 ?_
                    refine lv_topi (fun x253 e254 => ?_)
                    obtain rfl : x253 = 124 := e254.trans (by decide)
                    refine lv_goto (tgt := 148) hx hb dX9_resolveTypes_144 (by decide) ?_
                    have hO : OKW G h0 a (upd (upd F 2 (nI sz)) 2 (nI sz)) R Z (updA B 11 f2) J K.1 (fun q99 x99 => x99 = rep G a K q99) w := hO.to rfl
                    obtain ⟨_, qr258, hqr259⟩ := hO.2.1 2 _ (sg_2 G h0 a _ _ _ _ _)
                    refine pc_V0 (G := G) (As := [.int (nI i2), .int 124]) (rest := []) hx hb hml hown hq hE hX pX0_al hP hD hS hA hl.1 (K_giveType l G h0 a (upd F 2 (nI sz)) R Z (updA B 11 f2) J K.1 (fun q99 x99 => x99 = rep G a K q99) w (nI i2) 124 sz (by omega) hO) (gV pw_1134 pw_1135 pw_1136 pw_59 pw_1132) hV_X10_giveType qr258 7 hqr259 rfl rfl rfl (Nat.le_of_ble_eq_true rfl) dX9_resolveTypes_148 ⟨Nat.le_of_ble_eq_true rfl, Nat.le_of_ble_eq_true rfl⟩ ⟨Nat.le_of_ble_eq_true rfl, Nat.le_of_ble_eq_true rfl⟩ (fun v257 u255 H locs hw256 hP hD hS => ?_)
                    obtain ⟨w, f260⟩ := u255
                    obtain ⟨hw256, hO⟩ := hw256
                    obtain rfl : v257 = none := hw256
                    have hO : OKP G h0 a (upd F 2 (nI sz)) R Z (updA B 11 f260) J K w := hO.to rfl
                    refine W.widen (k := 0) (n := 0) (Nat.le_of_ble_eq_true rfl) (Nat.le_of_ble_eq_true rfl) ?_
                    refine W.eq (g2 := F0 m 151 ls []) rfl ?_
                    refine lv_iinc (v := (nI (i2 + 1))) (lv' := [(1, .int (nI (i2 + 1))), (3, .int 1), (2, .int 60), (0, .ref pq)]) hx hb dX9_resolveTypes_151 hl (k := 2) rfl (nI_1 i2) (by decide) rfl (fun ls hl => ?_)
                    refine lv_goto (tgt := 2) hx hb dX9_resolveTypes_154 (by decide) ?_
                    have hO : OKP G h0 a (upd F 2 (nI sz)) R Z (updA B 11 f260) J K w := hO.to rfl
                    exact ih_i (i2 + 1) f260 _ _ _ _ (by omega) (by omega) hP hD hS hO (lv_sub hl [0, 3] rfl)
        · refine lv_aload_n hx hb dX9_resolveTypes_27 rfl (lv_at hl 2 rfl) ?_
          refine lv_aload_n hx hb dX9_resolveTypes_28 rfl (lv_at hl 2 rfl) ?_
          refine p_get (v := .ref (a 1)) (C := RX9) (Tc := TX9) (N := 5) (ci := 6) hx hb hq pin_wsX90 hown hE hP hO (by rw [hp1]; decide) (rep_7 hp1) rfl 0 (by decide) (hq _ pw_784) (fun _ h9 => h9) (congrArg (fun z => some (va_rf z)) hp2) dX9_resolveTypes_29 ?_
          refine lv_iload_n hx hb dX9_resolveTypes_32 rfl (lv_at hl 1 rfl) ?_
          have hO : OKW G h0 a (upd (upd F 2 (nI sz)) 2 (nI sz)) R Z (updA B 11 f2) J K.1 (fun q99 x99 => x99 = rep G a K q99) w := hO.to rfl
          obtain ⟨_, qr264, hqr265⟩ := hO.2.1 2 _ (sg_2 G h0 a _ _ _ _ _)
          refine pc_V0 (G := G) (As := [.int (nI i2)]) (rest := [.ref pq]) hx hb hml hown hq hE hX pX0_al hP hD hS hA hl.1 (K_valueAt l G h0 a (upd F 2 (nI sz)) R Z (updA B 11 f2) J K.1 (fun q99 x99 => x99 = rep G a K q99) w (nI i2) sz (by omega) hO) (gV pw_785 pw_57 pw_58 pw_59 pw_39) hV_X10_valueAt qr264 7 hqr265 rfl rfl rfl (Nat.le_of_ble_eq_true rfl) dX9_resolveTypes_33 ⟨Nat.le_of_ble_eq_true rfl, Nat.le_of_ble_eq_true rfl⟩ ⟨Nat.le_of_ble_eq_true rfl, Nat.le_of_ble_eq_true rfl⟩ (fun v263 u261 H locs hw262 hP hD hS => ?_)
          obtain ⟨w, r266⟩ := u261
          obtain ⟨hw262, hO⟩ := hw262
          obtain rfl : v263 = some (.int r266) := hw262
          have hO : OKP G h0 a (upd F 2 (nI sz)) R Z (updA B 11 f2) J K w := hO.to rfl
          refine W.widen (k := 0) (n := 0) (Nat.le_of_ble_eq_true rfl) (Nat.le_of_ble_eq_true rfl) ?_
          refine W.eq (g2 := F0 m 36 ls [.int r266, .ref pq]) rfl ?_
          have hO : OKP G h0 a (upd F 2 (nI sz)) R Z (updA B 11 f2) J K w := hO.to rfl
          obtain ⟨qr270, hqr271⟩ := p_recv hO (by rw [hp1]; decide) (rep_7 hp1)
          refine pc_V0 (G := G) (As := [.int r266]) (rest := []) hx hb hml hown hq hE hX pX0_al hP hD hS hA hl.1 (G_find l G h0 a (upd F 2 (nI sz)) R Z (updA B 11 f2) J K w pq dr ml nd r266 g hpb hdc hO) (gV pw_1102 pw_585 pw_586 pw_106 pw_509) hV_X9_find qr270 6 hqr271 rfl rfl rfl (Nat.le_of_ble_eq_true rfl) dX9_resolveTypes_36 ⟨Nat.le_of_ble_eq_true rfl, Nat.le_of_ble_eq_true rfl⟩ ⟨Nat.le_of_ble_eq_true rfl, Nat.le_of_ble_eq_true rfl⟩ (fun v269 u267 H locs hw268 hP hD hS => ?_)
          obtain ⟨w, r272⟩ := u267
          obtain ⟨hw268, h273, hO⟩ := hw268
          have h273 : FnQ r272 nd := h273
          obtain rfl : v269 = some (.int r272) := hw268
          have hO : OKP G h0 a (upd F 2 (nI sz)) R Z (updA B 11 f2) J K w := hO.to rfl
          refine W.widen (k := 0) (n := 0) (Nat.le_of_ble_eq_true rfl) (Nat.le_of_ble_eq_true rfl) ?_
          refine W.eq (g2 := F0 m 39 ls [.int r272]) rfl ?_
          refine lv_istore_n (lv' := [(2, .int r272), (1, .int (nI i2)), (0, .ref pq)]) hx hb dX9_resolveTypes_39 rfl hl (by decide) rfl (fun ls hl => ?_)
          refine lv_goto (tgt := 89) hx hb dX9_resolveTypes_40 (by decide) ?_
          refine lv_aload_n hx hb dX9_resolveTypes_89 rfl (lv_at hl 2 rfl) ?_
          refine p_get (v := .ref (a 1)) (C := RX9) (Tc := TX9) (N := 5) (ci := 6) hx hb hq pin_wsX90 hown hE hP hO (by rw [hp1]; decide) (rep_7 hp1) rfl 0 (by decide) (hq _ pw_784) (fun _ h9 => h9) (congrArg (fun z => some (va_rf z)) hp2) dX9_resolveTypes_90 ?_
          refine lv_iload_n hx hb dX9_resolveTypes_93 rfl (lv_at hl 1 rfl) ?_
          refine lv_iconst (v := 1) hx hb dX9_resolveTypes_94 (by decide) ?_
          refine lv_iadd hx hb dX9_resolveTypes_95 ?_
          refine lv_topi (fun x274 e275 => ?_)
          obtain rfl : x274 = nI (i2 + 1) := e275.trans (nI_add (i2) (1))
          have hO : OKW G h0 a (upd (upd F 2 (nI sz)) 2 (nI sz)) R Z (updA B 11 f2) J K.1 (fun q99 x99 => x99 = rep G a K q99) w := hO.to rfl
          obtain ⟨_, qr279, hqr280⟩ := hO.2.1 2 _ (sg_2 G h0 a _ _ _ _ _)
          refine pc_V0 (G := G) (As := [.int (nI (i2 + 1))]) (rest := []) hx hb hml hown hq hE hX pX0_al hP hD hS hA hl.1 (K_kindAt l G h0 a (upd F 2 (nI sz)) R Z (updA B 11 f2) J K.1 (fun q99 x99 => x99 = rep G a K q99) w (nI (i2 + 1)) sz (by omega) hO) (gV pw_1133 pw_193 pw_194 pw_59 pw_126) hV_X10_kindAt qr279 7 hqr280 rfl rfl rfl (Nat.le_of_ble_eq_true rfl) dX9_resolveTypes_96 ⟨Nat.le_of_ble_eq_true rfl, Nat.le_of_ble_eq_true rfl⟩ ⟨Nat.le_of_ble_eq_true rfl, Nat.le_of_ble_eq_true rfl⟩ (fun v278 u276 H locs hw277 hP hD hS => ?_)
          obtain ⟨w, r281⟩ := u276
          obtain ⟨hw277, h282, hO⟩ := hw277
          have h282 : r281 = 67 ∨ ∃ t : Nat, (nI (i2 + 1)) = nI t ∧ t < sz := h282
          obtain rfl : v278 = some (.int r281) := hw277
          have hO : OKP G h0 a (upd F 2 (nI sz)) R Z (updA B 11 f2) J K w := hO.to rfl
          refine W.widen (k := 0) (n := 0) (Nat.le_of_ble_eq_true rfl) (Nat.le_of_ble_eq_true rfl) ?_
          refine W.eq (g2 := F0 m 99 ls [.int r281]) rfl ?_
          refine lv_bipush (v := 36) hx hb dX9_resolveTypes_99 (by decide) ?_
          refine lv_icmp_ne (tgt := 123) hx hb dX9_resolveTypes_101 (by decide) (fun c283 => ?_) (fun c283 => ?_)
          · refine lv_iconst (v := 0) hx hb dX9_resolveTypes_123 (by decide) ?_
            refine lv_istore_n (lv' := [(3, .int 0), (2, .int r272), (1, .int (nI i2)), (0, .ref pq)]) hx hb dX9_resolveTypes_124 rfl hl (by decide) rfl (fun ls hl => ?_)
            refine lv_aload_n hx hb dX9_resolveTypes_125 rfl (lv_at hl 3 rfl) ?_
            refine p_get (v := .ref (a 1)) (C := RX9) (Tc := TX9) (N := 5) (ci := 6) hx hb hq pin_wsX90 hown hE hP hO (by rw [hp1]; decide) (rep_7 hp1) rfl 0 (by decide) (hq _ pw_784) (fun _ h9 => h9) (congrArg (fun z => some (va_rf z)) hp2) dX9_resolveTypes_126 ?_
            refine lv_iload_n hx hb dX9_resolveTypes_129 rfl (lv_at hl 2 rfl) ?_
            refine lv_iload_n hx hb dX9_resolveTypes_130 rfl (lv_at hl 0 rfl) ?_
            refine lv_if_eq (tgt := 147) hx hb dX9_resolveTypes_131 (by decide) (fun c284 => ?_) (fun c284 => absurd c284 (by decide))
            refine lv_iload_n hx hb dX9_resolveTypes_147 rfl (lv_at hl 1 rfl) ?_
            have hO : OKW G h0 a (upd (upd F 2 (nI sz)) 2 (nI sz)) R Z (updA B 11 f2) J K.1 (fun q99 x99 => x99 = rep G a K q99) w := hO.to rfl
            obtain ⟨_, qr288, hqr289⟩ := hO.2.1 2 _ (sg_2 G h0 a _ _ _ _ _)
            refine pc_V0 (G := G) (As := [.int (nI i2), .int r272]) (rest := []) hx hb hml hown hq hE hX pX0_al hP hD hS hA hl.1 (K_giveType l G h0 a (upd F 2 (nI sz)) R Z (updA B 11 f2) J K.1 (fun q99 x99 => x99 = rep G a K q99) w (nI i2) r272 sz (by omega) hO) (gV pw_1134 pw_1135 pw_1136 pw_59 pw_1132) hV_X10_giveType qr288 7 hqr289 rfl rfl rfl (Nat.le_of_ble_eq_true rfl) dX9_resolveTypes_148 ⟨Nat.le_of_ble_eq_true rfl, Nat.le_of_ble_eq_true rfl⟩ ⟨Nat.le_of_ble_eq_true rfl, Nat.le_of_ble_eq_true rfl⟩ (fun v287 u285 H locs hw286 hP hD hS => ?_)
            obtain ⟨w, f290⟩ := u285
            obtain ⟨hw286, hO⟩ := hw286
            obtain rfl : v287 = none := hw286
            have hO : OKP G h0 a (upd F 2 (nI sz)) R Z (updA B 11 f290) J K w := hO.to rfl
            refine W.widen (k := 0) (n := 0) (Nat.le_of_ble_eq_true rfl) (Nat.le_of_ble_eq_true rfl) ?_
            refine W.eq (g2 := F0 m 151 ls []) rfl ?_
            refine lv_iinc (v := (nI (i2 + 1))) (lv' := [(1, .int (nI (i2 + 1))), (3, .int 0), (2, .int r272), (0, .ref pq)]) hx hb dX9_resolveTypes_151 hl (k := 2) rfl (nI_1 i2) (by decide) rfl (fun ls hl => ?_)
            refine lv_goto (tgt := 2) hx hb dX9_resolveTypes_154 (by decide) ?_
            have hO : OKP G h0 a (upd F 2 (nI sz)) R Z (updA B 11 f290) J K w := hO.to rfl
            exact ih_i (i2 + 1) f290 _ _ _ _ (by omega) (by omega) hP hD hS hO (lv_sub hl [0, 3] rfl)
          · refine lv_aload_n hx hb dX9_resolveTypes_104 rfl (lv_at hl 2 rfl) ?_
            refine p_get (v := .ref (a 1)) (C := RX9) (Tc := TX9) (N := 5) (ci := 6) hx hb hq pin_wsX90 hown hE hP hO (by rw [hp1]; decide) (rep_7 hp1) rfl 0 (by decide) (hq _ pw_784) (fun _ h9 => h9) (congrArg (fun z => some (va_rf z)) hp2) dX9_resolveTypes_105 ?_
            refine lv_iload_n hx hb dX9_resolveTypes_108 rfl (lv_at hl 1 rfl) ?_
            refine lv_iconst (v := 2) hx hb dX9_resolveTypes_109 (by decide) ?_
            refine lv_iadd hx hb dX9_resolveTypes_110 ?_
            refine lv_topi (fun x291 e292 => ?_)
            obtain rfl : x291 = nI (i2 + 2) := e292.trans (nI_add (i2) (2))
            have hO : OKW G h0 a (upd (upd F 2 (nI sz)) 2 (nI sz)) R Z (updA B 11 f2) J K.1 (fun q99 x99 => x99 = rep G a K q99) w := hO.to rfl
            obtain ⟨_, qr296, hqr297⟩ := hO.2.1 2 _ (sg_2 G h0 a _ _ _ _ _)
            refine pc_V0 (G := G) (As := [.int (nI (i2 + 2))]) (rest := []) hx hb hml hown hq hE hX pX0_al hP hD hS hA hl.1 (K_kindAt l G h0 a (upd F 2 (nI sz)) R Z (updA B 11 f2) J K.1 (fun q99 x99 => x99 = rep G a K q99) w (nI (i2 + 2)) sz (by omega) hO) (gV pw_1133 pw_193 pw_194 pw_59 pw_126) hV_X10_kindAt qr296 7 hqr297 rfl rfl rfl (Nat.le_of_ble_eq_true rfl) dX9_resolveTypes_111 ⟨Nat.le_of_ble_eq_true rfl, Nat.le_of_ble_eq_true rfl⟩ ⟨Nat.le_of_ble_eq_true rfl, Nat.le_of_ble_eq_true rfl⟩ (fun v295 u293 H locs hw294 hP hD hS => ?_)
            obtain ⟨w, r298⟩ := u293
            obtain ⟨hw294, h299, hO⟩ := hw294
            have h299 : r298 = 67 ∨ ∃ t : Nat, (nI (i2 + 2)) = nI t ∧ t < sz := h299
            obtain rfl : v295 = some (.int r298) := hw294
            have hO : OKP G h0 a (upd F 2 (nI sz)) R Z (updA B 11 f2) J K w := hO.to rfl
            refine W.widen (k := 0) (n := 0) (Nat.le_of_ble_eq_true rfl) (Nat.le_of_ble_eq_true rfl) ?_
            refine W.eq (g2 := F0 m 114 ls [.int r298]) rfl ?_
            refine lv_bipush (v := 37) hx hb dX9_resolveTypes_114 (by decide) ?_
            refine lv_icmp_ne (tgt := 123) hx hb dX9_resolveTypes_116 (by decide) (fun c300 => ?_) (fun c300 => ?_)
            · refine lv_iconst (v := 0) hx hb dX9_resolveTypes_123 (by decide) ?_
              refine lv_istore_n (lv' := [(3, .int 0), (2, .int r272), (1, .int (nI i2)), (0, .ref pq)]) hx hb dX9_resolveTypes_124 rfl hl (by decide) rfl (fun ls hl => ?_)
              refine lv_aload_n hx hb dX9_resolveTypes_125 rfl (lv_at hl 3 rfl) ?_
              refine p_get (v := .ref (a 1)) (C := RX9) (Tc := TX9) (N := 5) (ci := 6) hx hb hq pin_wsX90 hown hE hP hO (by rw [hp1]; decide) (rep_7 hp1) rfl 0 (by decide) (hq _ pw_784) (fun _ h9 => h9) (congrArg (fun z => some (va_rf z)) hp2) dX9_resolveTypes_126 ?_
              refine lv_iload_n hx hb dX9_resolveTypes_129 rfl (lv_at hl 2 rfl) ?_
              refine lv_iload_n hx hb dX9_resolveTypes_130 rfl (lv_at hl 0 rfl) ?_
              refine lv_if_eq (tgt := 147) hx hb dX9_resolveTypes_131 (by decide) (fun c301 => ?_) (fun c301 => absurd c301 (by decide))
              refine lv_iload_n hx hb dX9_resolveTypes_147 rfl (lv_at hl 1 rfl) ?_
              have hO : OKW G h0 a (upd (upd F 2 (nI sz)) 2 (nI sz)) R Z (updA B 11 f2) J K.1 (fun q99 x99 => x99 = rep G a K q99) w := hO.to rfl
              obtain ⟨_, qr305, hqr306⟩ := hO.2.1 2 _ (sg_2 G h0 a _ _ _ _ _)
              refine pc_V0 (G := G) (As := [.int (nI i2), .int r272]) (rest := []) hx hb hml hown hq hE hX pX0_al hP hD hS hA hl.1 (K_giveType l G h0 a (upd F 2 (nI sz)) R Z (updA B 11 f2) J K.1 (fun q99 x99 => x99 = rep G a K q99) w (nI i2) r272 sz (by omega) hO) (gV pw_1134 pw_1135 pw_1136 pw_59 pw_1132) hV_X10_giveType qr305 7 hqr306 rfl rfl rfl (Nat.le_of_ble_eq_true rfl) dX9_resolveTypes_148 ⟨Nat.le_of_ble_eq_true rfl, Nat.le_of_ble_eq_true rfl⟩ ⟨Nat.le_of_ble_eq_true rfl, Nat.le_of_ble_eq_true rfl⟩ (fun v304 u302 H locs hw303 hP hD hS => ?_)
              obtain ⟨w, f307⟩ := u302
              obtain ⟨hw303, hO⟩ := hw303
              obtain rfl : v304 = none := hw303
              have hO : OKP G h0 a (upd F 2 (nI sz)) R Z (updA B 11 f307) J K w := hO.to rfl
              refine W.widen (k := 0) (n := 0) (Nat.le_of_ble_eq_true rfl) (Nat.le_of_ble_eq_true rfl) ?_
              refine W.eq (g2 := F0 m 151 ls []) rfl ?_
              refine lv_iinc (v := (nI (i2 + 1))) (lv' := [(1, .int (nI (i2 + 1))), (3, .int 0), (2, .int r272), (0, .ref pq)]) hx hb dX9_resolveTypes_151 hl (k := 2) rfl (nI_1 i2) (by decide) rfl (fun ls hl => ?_)
              refine lv_goto (tgt := 2) hx hb dX9_resolveTypes_154 (by decide) ?_
              have hO : OKP G h0 a (upd F 2 (nI sz)) R Z (updA B 11 f307) J K w := hO.to rfl
              exact ih_i (i2 + 1) f307 _ _ _ _ (by omega) (by omega) hP hD hS hO (lv_sub hl [0, 3] rfl)
            · refine lv_iconst (v := 1) hx hb dX9_resolveTypes_119 (by decide) ?_
              refine lv_goto (tgt := 124) hx hb dX9_resolveTypes_120 (by decide) ?_
              refine lv_istore_n (lv' := [(3, .int 1), (2, .int r272), (1, .int (nI i2)), (0, .ref pq)]) hx hb dX9_resolveTypes_124 rfl hl (by decide) rfl (fun ls hl => ?_)
              refine lv_aload_n hx hb dX9_resolveTypes_125 rfl (lv_at hl 3 rfl) ?_
              refine p_get (v := .ref (a 1)) (C := RX9) (Tc := TX9) (N := 5) (ci := 6) hx hb hq pin_wsX90 hown hE hP hO (by rw [hp1]; decide) (rep_7 hp1) rfl 0 (by decide) (hq _ pw_784) (fun _ h9 => h9) (congrArg (fun z => some (va_rf z)) hp2) dX9_resolveTypes_126 ?_
              refine lv_iload_n hx hb dX9_resolveTypes_129 rfl (lv_at hl 2 rfl) ?_
              refine lv_iload_n hx hb dX9_resolveTypes_130 rfl (lv_at hl 0 rfl) ?_
              refine lv_if_eq (tgt := 147) hx hb dX9_resolveTypes_131 (by decide) (fun c308 => absurd c308 (by decide)) (fun c308 => ?_)
              refine lv_iload_n hx hb dX9_resolveTypes_134 rfl (lv_at hl 1 rfl) ?_
              refine lv_bipush (v := 63) hx hb dX9_resolveTypes_135 (by decide) ?_
              refine lv_icmp_eq (tgt := 147) hx hb dX9_resolveTypes_137 (by decide) (fun c309 => ?_) (fun c309 => ?_)
              · refine lv_iload_n hx hb dX9_resolveTypes_147 rfl (lv_at hl 1 rfl) ?_
                have hO : OKW G h0 a (upd (upd F 2 (nI sz)) 2 (nI sz)) R Z (updA B 11 f2) J K.1 (fun q99 x99 => x99 = rep G a K q99) w := hO.to rfl
                obtain ⟨_, qr313, hqr314⟩ := hO.2.1 2 _ (sg_2 G h0 a _ _ _ _ _)
                refine pc_V0 (G := G) (As := [.int (nI i2), .int r272]) (rest := []) hx hb hml hown hq hE hX pX0_al hP hD hS hA hl.1 (K_giveType l G h0 a (upd F 2 (nI sz)) R Z (updA B 11 f2) J K.1 (fun q99 x99 => x99 = rep G a K q99) w (nI i2) r272 sz (by omega) hO) (gV pw_1134 pw_1135 pw_1136 pw_59 pw_1132) hV_X10_giveType qr313 7 hqr314 rfl rfl rfl (Nat.le_of_ble_eq_true rfl) dX9_resolveTypes_148 ⟨Nat.le_of_ble_eq_true rfl, Nat.le_of_ble_eq_true rfl⟩ ⟨Nat.le_of_ble_eq_true rfl, Nat.le_of_ble_eq_true rfl⟩ (fun v312 u310 H locs hw311 hP hD hS => ?_)
                obtain ⟨w, f315⟩ := u310
                obtain ⟨hw311, hO⟩ := hw311
                obtain rfl : v312 = none := hw311
                have hO : OKP G h0 a (upd F 2 (nI sz)) R Z (updA B 11 f315) J K w := hO.to rfl
                refine W.widen (k := 0) (n := 0) (Nat.le_of_ble_eq_true rfl) (Nat.le_of_ble_eq_true rfl) ?_
                refine W.eq (g2 := F0 m 151 ls []) rfl ?_
                refine lv_iinc (v := (nI (i2 + 1))) (lv' := [(1, .int (nI (i2 + 1))), (3, .int 1), (2, .int r272), (0, .ref pq)]) hx hb dX9_resolveTypes_151 hl (k := 2) rfl (nI_1 i2) (by decide) rfl (fun ls hl => ?_)
                refine lv_goto (tgt := 2) hx hb dX9_resolveTypes_154 (by decide) ?_
                have hO : OKP G h0 a (upd F 2 (nI sz)) R Z (updA B 11 f315) J K w := hO.to rfl
                exact ih_i (i2 + 1) f315 _ _ _ _ (by omega) (by omega) hP hD hS hO (lv_sub hl [0, 3] rfl)
              · refine lv_bipush (v := 64) hx hb dX9_resolveTypes_140 (by decide) ?_
                refine lv_iload_n hx hb dX9_resolveTypes_142 rfl (lv_at hl 1 rfl) ?_
                refine lv_iadd hx hb dX9_resolveTypes_143 ?_
                refine lv_topi (fun x316 e317 => ?_)
                refine lv_goto (tgt := 148) hx hb dX9_resolveTypes_144 (by decide) ?_
                have hO : OKW G h0 a (upd (upd F 2 (nI sz)) 2 (nI sz)) R Z (updA B 11 f2) J K.1 (fun q99 x99 => x99 = rep G a K q99) w := hO.to rfl
                obtain ⟨_, qr321, hqr322⟩ := hO.2.1 2 _ (sg_2 G h0 a _ _ _ _ _)
                refine pc_V0 (G := G) (As := [.int (nI i2), .int x316]) (rest := []) hx hb hml hown hq hE hX pX0_al hP hD hS hA hl.1 (K_giveType l G h0 a (upd F 2 (nI sz)) R Z (updA B 11 f2) J K.1 (fun q99 x99 => x99 = rep G a K q99) w (nI i2) x316 sz (by omega) hO) (gV pw_1134 pw_1135 pw_1136 pw_59 pw_1132) hV_X10_giveType qr321 7 hqr322 rfl rfl rfl (Nat.le_of_ble_eq_true rfl) dX9_resolveTypes_148 ⟨Nat.le_of_ble_eq_true rfl, Nat.le_of_ble_eq_true rfl⟩ ⟨Nat.le_of_ble_eq_true rfl, Nat.le_of_ble_eq_true rfl⟩ (fun v320 u318 H locs hw319 hP hD hS => ?_)
                obtain ⟨w, f323⟩ := u318
                obtain ⟨hw319, hO⟩ := hw319
                obtain rfl : v320 = none := hw319
                have hO : OKP G h0 a (upd F 2 (nI sz)) R Z (updA B 11 f323) J K w := hO.to rfl
                refine W.widen (k := 0) (n := 0) (Nat.le_of_ble_eq_true rfl) (Nat.le_of_ble_eq_true rfl) ?_
                refine W.eq (g2 := F0 m 151 ls []) rfl ?_
                refine lv_iinc (v := (nI (i2 + 1))) (lv' := [(1, .int (nI (i2 + 1))), (3, .int 1), (2, .int r272), (0, .ref pq)]) hx hb dX9_resolveTypes_151 hl (k := 2) rfl (nI_1 i2) (by decide) rfl (fun ls hl => ?_)
                refine lv_goto (tgt := 2) hx hb dX9_resolveTypes_154 (by decide) ?_
                have hO : OKP G h0 a (upd F 2 (nI sz)) R Z (updA B 11 f323) J K w := hO.to rfl
                exact ih_i (i2 + 1) f323 _ _ _ _ (by omega) (by omega) hP hD hS hO (lv_sub hl [0, 3] rfl)
  have hO : OKP G h0 a (upd F 2 (nI sz)) R Z (updA B 11 (B 11)) J K w := hO.to rfl
  exact loop_i (sz + 1) 0 (B 11) _ _ _ _ (by omega) (by omega) hP hD hS hO (lv_sub hl [0, 1] rfl)
theorem dX9_judgeFields_0 : decode cX9_judgeFields 0 = .ok (.iconst 0, 1) := by decide +kernel
theorem dX9_judgeFields_1 : decode cX9_judgeFields 1 = .ok (.istore_n 3, 1) := by decide +kernel
theorem dX9_judgeFields_2 : decode cX9_judgeFields 2 = .ok (.iload_n 3, 1) := by decide +kernel
theorem dX9_judgeFields_3 : decode cX9_judgeFields 3 = .ok (.aload_n 1, 1) := by decide +kernel
theorem dX9_judgeFields_4 : decode cX9_judgeFields 4 = .ok (.getfield 134, 3) := by decide +kernel
theorem dX9_judgeFields_7 : decode cX9_judgeFields 7 = .ok (.invokevirtual 45, 3) := by decide +kernel
theorem dX9_judgeFields_10 : decode cX9_judgeFields 10 = .ok (.if_icmp .ge 81, 3) := by decide +kernel
theorem dX9_judgeFields_91 : decode cX9_judgeFields 91 = .ok (.return_, 1) := by decide +kernel
theorem dX9_judgeFields_13 : decode cX9_judgeFields 13 = .ok (.iconst 0, 1) := by decide +kernel
theorem dX9_judgeFields_14 : decode cX9_judgeFields 14 = .ok (.istore 4, 2) := by decide +kernel
theorem dX9_judgeFields_16 : decode cX9_judgeFields 16 = .ok (.iload 4, 2) := by decide +kernel
theorem dX9_judgeFields_18 : decode cX9_judgeFields 18 = .ok (.aload_n 2, 1) := by decide +kernel
theorem dX9_judgeFields_19 : decode cX9_judgeFields 19 = .ok (.getfield 134, 3) := by decide +kernel
theorem dX9_judgeFields_22 : decode cX9_judgeFields 22 = .ok (.invokevirtual 45, 3) := by decide +kernel
theorem dX9_judgeFields_25 : decode cX9_judgeFields 25 = .ok (.if_icmp .ge 60, 3) := by decide +kernel
theorem dX9_judgeFields_85 : decode cX9_judgeFields 85 = .ok (.iinc 3 1, 3) := by decide +kernel
theorem dX9_judgeFields_88 : decode cX9_judgeFields 88 = .ok (.goto (-86), 3) := by decide +kernel
theorem dX9_judgeFields_28 : decode cX9_judgeFields 28 = .ok (.aload_n 1, 1) := by decide +kernel
theorem dX9_judgeFields_29 : decode cX9_judgeFields 29 = .ok (.getfield 134, 3) := by decide +kernel
theorem dX9_judgeFields_32 : decode cX9_judgeFields 32 = .ok (.iload_n 3, 1) := by decide +kernel
theorem dX9_judgeFields_33 : decode cX9_judgeFields 33 = .ok (.invokevirtual 48, 3) := by decide +kernel
theorem dX9_judgeFields_36 : decode cX9_judgeFields 36 = .ok (.checkcast 137, 3) := by decide +kernel
theorem dX9_judgeFields_39 : decode cX9_judgeFields 39 = .ok (.getfield 139, 3) := by decide +kernel
theorem dX9_judgeFields_42 : decode cX9_judgeFields 42 = .ok (.aload_n 2, 1) := by decide +kernel
theorem dX9_judgeFields_43 : decode cX9_judgeFields 43 = .ok (.getfield 134, 3) := by decide +kernel
theorem dX9_judgeFields_46 : decode cX9_judgeFields 46 = .ok (.iload 4, 2) := by decide +kernel
theorem dX9_judgeFields_48 : decode cX9_judgeFields 48 = .ok (.invokevirtual 48, 3) := by decide +kernel
theorem dX9_judgeFields_51 : decode cX9_judgeFields 51 = .ok (.checkcast 137, 3) := by decide +kernel
theorem dX9_judgeFields_54 : decode cX9_judgeFields 54 = .ok (.getfield 139, 3) := by decide +kernel
theorem dX9_judgeFields_57 : decode cX9_judgeFields 57 = .ok (.if_icmp .ne 22, 3) := by decide +kernel
theorem dX9_judgeFields_79 : decode cX9_judgeFields 79 = .ok (.iinc 4 1, 3) := by decide +kernel
theorem dX9_judgeFields_82 : decode cX9_judgeFields 82 = .ok (.goto (-66), 3) := by decide +kernel
theorem dX9_judgeFields_60 : decode cX9_judgeFields 60 = .ok (.aload_n 0, 1) := by decide +kernel
theorem dX9_judgeFields_61 : decode cX9_judgeFields 61 = .ok (.iconst 3, 1) := by decide +kernel
theorem dX9_judgeFields_62 : decode cX9_judgeFields 62 = .ok (.aload_n 1, 1) := by decide +kernel
theorem dX9_judgeFields_63 : decode cX9_judgeFields 63 = .ok (.getfield 134, 3) := by decide +kernel
theorem dX9_judgeFields_66 : decode cX9_judgeFields 66 = .ok (.iload_n 3, 1) := by decide +kernel
theorem dX9_judgeFields_67 : decode cX9_judgeFields 67 = .ok (.invokevirtual 48, 3) := by decide +kernel
theorem dX9_judgeFields_70 : decode cX9_judgeFields 70 = .ok (.checkcast 137, 3) := by decide +kernel
theorem dX9_judgeFields_73 : decode cX9_judgeFields 73 = .ok (.getfield 140, 3) := by decide +kernel
theorem dX9_judgeFields_76 : decode cX9_judgeFields 76 = .ok (.invokevirtual 87, 3) := by decide +kernel
set_option maxHeartbeats 16000000 in
set_option maxRecDepth 100000 in
theorem G_judgeFields (l : Launch) (G : pT) (h0 : Nat) (a : Nat → Nat) (F : Nat → Int32) (R : Nat → Value) (Z : Int64) (B : Nat → Nat → Int32) (J : Nat → Nat → Int64) (K : PK) (w : va_W) (pq : Nat) (dr : Nat) (ml : Nat) (nd : Nat) (nm : Nat) (cp : Nat) (it : Nat → Nat) (s9 : Nat) (d0 : Nat) (d1 : Nat) (sz : Nat) (g : Nat → Nat → Nat) (hsz : sz ≤ 5000) (hwp : WPr G K g) (hps : PgT G K g (a 1) pq dr ml nd nm cp it s9) (hd0 : K.1 d0 = 4) (hd1 : K.1 d1 = 4) (hO : OKP G h0 a (upd F 2 (nI sz)) R Z B J K w) : PM l G pX0 yX9_judgeFields cX9_judgeFields 5 none ({ frames := 5, cells := 0, slots := 0, locals := 124 }) [.ref pq, .ref d0, .ref d1] w (fun (v : Option Value) (u : va_W × (PK)) => v = none ∧ (LgK K u.2 pq) ∧ (OKP G h0 a (upd F 2 (nI sz)) R Z B J u.2 u.1)) (fun u => u.1) := by
  intro sz
  refine Met.ofW (cc := cX9_judgeFields) (maxL := 5) (ret := none) (by decide) rfl ?_
  intro p e s m args below meth c s₁ B9 hml hv
  obtain ⟨rfl, hsz, hP, hD0, hE, hX⟩ := hv
  have hx := B9.exec
  have hb := B9.bytes
  have hr := B9.returns
  have hts := atoms_spec (ws := Cond.code yX9_judgeFields cX9_judgeFields 5 none :: pw) B9.pre
  have hq : ∀ w ∈ pw, w.before _ s = true := fun w h => hts w (List.mem_cons_of_mem _ h)
  have hown : s.vm.findClass RX9 = some m.cls := findClass_of_methodNamed B9.named
  have hlocks := B9.notSynchronized
  subst hsz
  have hD := hD0.self (sz := s.heap.size)
  have hA : ∀ q : Nat, s.heap.size ≤ q → va_A w s.heap.size q := fun q h => Or.inr h
  generalize va_A w s.heap.size = A at hD hE hA ⊢
  have hS : va_S A s.heap s.heap [] := va_S.rf
  have hl := lv_entry ([.ref pq, .ref d0, .ref d1]) (n := 5) (Nat.le_of_ble_eq_true rfl)
  rw [lg_entry_eq]
  generalize (lg_sl ([.ref pq, .ref d0, .ref d1]) ++ List.replicate (5 - (lg_sl ([.ref pq, .ref d0, .ref d1])).length) Slot.unset).toArray = ls at hl ⊢
  have hl : lv_has ls 5 [(0, .ref pq), (1, .ref d0), (2, .ref d1)] := hl
  have hp1 := hps.1.1
  have hp2 := hps.1.2.1
  have hp3 := hps.1.2.2.1
  have hp4 := hps.1.2.2.2.1
  have hp5 := hps.1.2.2.2.2.1
  have hp6 := hps.1.2.2.2.2.2.1
  have hp8 := hps.1.2.2.2.2.2.2.2.1
  have hp9 := hps.1.2.2.2.2.2.2.2.2
  obtain ⟨lf, hflf, htlf, hrlf, holf⟩ := (hwp.2.2.1 d0 hd0).1
  obtain ⟨nlf, itlf, cplf, hlclf, hnblf, hcblf⟩ := hwp.2.1 lf htlf
  rw [hrlf] at hlclf hnblf
  have hnclf := hlclf.2.2.1
  have hnblf : nlf ≤ 20 := hnblf
  have hlclf : LsC G K lf 1 nlf itlf cplf := hlclf
  obtain ⟨lu, hflu, htlu, hrlu, holu⟩ := (hwp.2.2.1 d1 hd1).1
  obtain ⟨nlu, itlu, cplu, hlclu, hnblu, hcblu⟩ := hwp.2.1 lu htlu
  rw [hrlu] at hlclu hnblu
  have hnclu := hlclu.2.2.1
  have hnblu : nlu ≤ 20 := hnblu
  have hlclu : LsC G K lu 1 nlu itlu cplu := hlclu
  refine lv_iconst (v := 0) hx hb dX9_judgeFields_0 (by decide) ?_
  refine lv_istore_n (lv' := [(3, .int 0), (0, .ref pq), (1, .ref d0), (2, .ref d1)]) hx hb dX9_judgeFields_1 rfl hl (by decide) rfl (fun ls hl => ?_)
  have loop_2 : ∀ (n_2 : Nat) (i2 : Nat) (K2 : PK) (H : Heap) (locs : List Loc) (ls : Array Slot) (w : va_W), i2 ≤ nlf → nlf + 1 ≤ i2 + n_2 → (LgK K K2 pq) → va_P G.1 pCl w H → va_D A w → va_S A s.heap H locs → OKP G h0 a (upd F 2 (nI sz)) R Z B J K2 w → lv_has ls 5 [(3, .int (nI i2)), (2, .ref d1), (1, .ref d0), (0, .ref pq)] → W p l e (headSpec (Cond.code yX9_judgeFields cX9_judgeFields 5 none :: pw) ({ frames := 5, cells := 0, slots := 0, locals := 124 } : Room)).room s m ([.ref pq, .ref d0, .ref d1] : List Value).toArray below meth c H locs 0 0 (MQ below (pQ G A (fun (v : Option Value) (u : va_W × (PK)) => v = none ∧ (LgK K u.2 pq) ∧ (OKP G h0 a (upd F 2 (nI sz)) R Z B J u.2 u.1)) (fun u => u.1)) ([.ref pq, .ref d0, .ref d1] : List Value).toArray s ({ frames := 5, cells := 0, slots := 0, locals := 124 } : Room).cells ({ frames := 5, cells := 0, slots := 0, locals := 124 } : Room).slots A) (F0 m 2 ls []) := by
    intro n_2
    induction n_2 with
    | zero => intro i2 K2 H locs ls w hk_2 hn_2; omega
    | succ n_2 ih_2 =>
      intro i2 K2 H locs ls w hk_2 hn_2 hlg2 hP hD hS hO hl
      refine lv_iload_n hx hb dX9_judgeFields_2 rfl (lv_at hl 0 rfl) ?_
      refine lv_aload_n hx hb dX9_judgeFields_3 rfl (lv_at hl 2 rfl) ?_
      refine p_get (v := .ref lf) (C := RX2) (Tc := TX2) (N := 13) (ci := 2) hx hb hq pin_wsX20 hown hE hP hO (by rw [((LgK.T hlg2 d0).trans hd0)]; decide) (rep_4 ((LgK.T hlg2 d0).trans hd0)) rfl 7 (by decide) (hq _ pw_1089) (fun _ h9 => h9) (congrArg (fun z => some (va_rf z)) ((LgK.C hlg2 8 d0).trans hflf)) dX9_judgeFields_4 ?_
      have hO : OKP G h0 a (upd F 2 (nI sz)) R Z B J K2 w := hO.to rfl
      obtain ⟨qr4, hqr5⟩ := p_recv hO (by rw [((LgK.T hlg2 lf).trans htlf)]; decide) (rep_5 ((LgK.T hlg2 lf).trans htlf))
      refine pc_V0 (G := G) (As := []) (rest := [.int (nI i2)]) hx hb hml hown hq hE hX pX0_al hP hD hS hA hl.1 (L_size l G h0 a (upd F 2 (nI sz)) R Z B J K2 w lf 1 nlf itlf (LgK.ls hlg2 hlclf).ls hO) (gV pw_516 pw_87 pw_88 pw_32 pw_16) hV_Jx4a65c_size_8abf5 qr4 10 hqr5 rfl rfl rfl (Nat.le_of_ble_eq_true rfl) dX9_judgeFields_7 ⟨Nat.le_of_ble_eq_true rfl, Nat.le_of_ble_eq_true rfl⟩ ⟨Nat.le_of_ble_eq_true rfl, Nat.le_of_ble_eq_true rfl⟩ (fun v3 u1 H locs hw2 hP hD hS => ?_)
      obtain ⟨w, _⟩ := u1
      obtain ⟨hw2, hO⟩ := hw2
      obtain rfl : v3 = some (.int (nI nlf)) := hw2
      have hO : OKP G h0 a (upd F 2 (nI sz)) R Z B J K2 w := hO.to rfl
      refine W.widen (k := 0) (n := 0) (Nat.le_of_ble_eq_true rfl) (Nat.le_of_ble_eq_true rfl) ?_
      refine W.eq (g2 := F0 m 10 ls [.int (nI nlf), .int (nI i2)]) rfl ?_
      refine lv_icmp_ge (tgt := 91) hx hb dX9_judgeFields_10 (by decide) (fun c6 => ?_) (fun c6 => ?_)
      · have n7 : nlf ≤ i2 := (nI_leI (a := nlf) (b := i2) (by omega) (by omega)).mp c6
        have hz8 : LgK K K2 pq := hlg2
        have hO : OKP G h0 a (upd F 2 (nI sz)) R Z B J K2 w := hO.to rfl
        exact W.vret hx hb hr (fun t99 ht99 hW99 => ⟨⟨_, (w, K2), rfl, ⟨rfl, hz8, hO⟩, by rw [ht99]; exact hP, hD⟩, hS.F ht99⟩) hS.2.2 dX9_judgeFields_91
      · have n9 : ¬ (nlf ≤ i2) := fun h9 => c6 ((nI_leI (a := nlf) (b := i2) (by omega) (by omega)).mpr h9)
        refine lv_iconst (v := 0) hx hb dX9_judgeFields_13 (by decide) ?_
        refine lv_istore (lv' := [(4, .int 0), (3, .int (nI i2)), (2, .ref d1), (1, .ref d0), (0, .ref pq)]) hx hb dX9_judgeFields_14 hl (by decide) rfl (fun ls hl => ?_)
        have loop_3 : ∀ (n_3 : Nat) (i3 : Nat) (K3 : PK) (H : Heap) (locs : List Loc) (ls : Array Slot) (w : va_W), i3 ≤ nlu → nlu + 1 ≤ i3 + n_3 → (LgK K K3 pq) → va_P G.1 pCl w H → va_D A w → va_S A s.heap H locs → OKP G h0 a (upd F 2 (nI sz)) R Z B J K3 w → lv_has ls 5 [(4, .int (nI i3)), (3, .int (nI i2)), (2, .ref d1), (1, .ref d0), (0, .ref pq)] → W p l e (headSpec (Cond.code yX9_judgeFields cX9_judgeFields 5 none :: pw) ({ frames := 5, cells := 0, slots := 0, locals := 124 } : Room)).room s m ([.ref pq, .ref d0, .ref d1] : List Value).toArray below meth c H locs 0 0 (MQ below (pQ G A (fun (v : Option Value) (u : va_W × (PK)) => v = none ∧ (LgK K u.2 pq) ∧ (OKP G h0 a (upd F 2 (nI sz)) R Z B J u.2 u.1)) (fun u => u.1)) ([.ref pq, .ref d0, .ref d1] : List Value).toArray s ({ frames := 5, cells := 0, slots := 0, locals := 124 } : Room).cells ({ frames := 5, cells := 0, slots := 0, locals := 124 } : Room).slots A) (F0 m 16 ls []) := by
          intro n_3
          induction n_3 with
          | zero => intro i3 K3 H locs ls w hk_3 hn_3; omega
          | succ n_3 ih_3 =>
            intro i3 K3 H locs ls w hk_3 hn_3 hlg3 hP hD hS hO hl
            refine lv_iload hx hb dX9_judgeFields_16 (lv_at hl 0 rfl) ?_
            refine lv_aload_n hx hb dX9_judgeFields_18 rfl (lv_at hl 2 rfl) ?_
            refine p_get (v := .ref lu) (C := RX2) (Tc := TX2) (N := 13) (ci := 2) hx hb hq pin_wsX20 hown hE hP hO (by rw [((LgK.T hlg3 d1).trans hd1)]; decide) (rep_4 ((LgK.T hlg3 d1).trans hd1)) rfl 7 (by decide) (hq _ pw_1089) (fun _ h9 => h9) (congrArg (fun z => some (va_rf z)) ((LgK.C hlg3 8 d1).trans hflu)) dX9_judgeFields_19 ?_
            have hO : OKP G h0 a (upd F 2 (nI sz)) R Z B J K3 w := hO.to rfl
            obtain ⟨qr13, hqr14⟩ := p_recv hO (by rw [((LgK.T hlg3 lu).trans htlu)]; decide) (rep_5 ((LgK.T hlg3 lu).trans htlu))
            refine pc_V0 (G := G) (As := []) (rest := [.int (nI i3)]) hx hb hml hown hq hE hX pX0_al hP hD hS hA hl.1 (L_size l G h0 a (upd F 2 (nI sz)) R Z B J K3 w lu 1 nlu itlu (LgK.ls hlg3 hlclu).ls hO) (gV pw_516 pw_87 pw_88 pw_32 pw_16) hV_Jx4a65c_size_8abf5 qr13 10 hqr14 rfl rfl rfl (Nat.le_of_ble_eq_true rfl) dX9_judgeFields_22 ⟨Nat.le_of_ble_eq_true rfl, Nat.le_of_ble_eq_true rfl⟩ ⟨Nat.le_of_ble_eq_true rfl, Nat.le_of_ble_eq_true rfl⟩ (fun v12 u10 H locs hw11 hP hD hS => ?_)
            obtain ⟨w, _⟩ := u10
            obtain ⟨hw11, hO⟩ := hw11
            obtain rfl : v12 = some (.int (nI nlu)) := hw11
            have hO : OKP G h0 a (upd F 2 (nI sz)) R Z B J K3 w := hO.to rfl
            refine W.widen (k := 0) (n := 0) (Nat.le_of_ble_eq_true rfl) (Nat.le_of_ble_eq_true rfl) ?_
            refine W.eq (g2 := F0 m 25 ls [.int (nI nlu), .int (nI i3)]) rfl ?_
            refine lv_icmp_ge (tgt := 85) hx hb dX9_judgeFields_25 (by decide) (fun c15 => ?_) (fun c15 => ?_)
            · have n16 : nlu ≤ i3 := (nI_leI (a := nlu) (b := i3) (by omega) (by omega)).mp c15
              refine lv_iinc (v := (nI (i2 + 1))) (lv' := [(3, .int (nI (i2 + 1))), (4, .int (nI i3)), (2, .ref d1), (1, .ref d0), (0, .ref pq)]) hx hb dX9_judgeFields_85 hl (k := 1) rfl (nI_1 i2) (by decide) rfl (fun ls hl => ?_)
              refine lv_goto (tgt := 2) hx hb dX9_judgeFields_88 (by decide) ?_
              have hO : OKP G h0 a (upd F 2 (nI sz)) R Z B J K3 w := hO.to rfl
              exact ih_2 (i2 + 1) K3 _ _ _ _ (by omega) (by omega) hlg3 hP hD hS hO (lv_sub hl [0, 2, 3, 4] rfl)
            · have n17 : ¬ (nlu ≤ i3) := fun h9 => c15 ((nI_leI (a := nlu) (b := i3) (by omega) (by omega)).mpr h9)
              refine lv_aload_n hx hb dX9_judgeFields_28 rfl (lv_at hl 3 rfl) ?_
              refine p_get (v := .ref lf) (C := RX2) (Tc := TX2) (N := 13) (ci := 2) hx hb hq pin_wsX20 hown hE hP hO (by rw [((LgK.T hlg3 d0).trans hd0)]; decide) (rep_4 ((LgK.T hlg3 d0).trans hd0)) rfl 7 (by decide) (hq _ pw_1089) (fun _ h9 => h9) (congrArg (fun z => some (va_rf z)) ((LgK.C hlg3 8 d0).trans hflf)) dX9_judgeFields_29 ?_
              refine lv_iload_n hx hb dX9_judgeFields_32 rfl (lv_at hl 1 rfl) ?_
              have hO : OKP G h0 a (upd F 2 (nI sz)) R Z B J K3 w := hO.to rfl
              obtain ⟨qr21, hqr22⟩ := p_recv hO (by rw [((LgK.T hlg3 lf).trans htlf)]; decide) (rep_5 ((LgK.T hlg3 lf).trans htlf))
              refine pc_V0 (G := G) (As := [.int (nI i2)]) (rest := []) hx hb hml hown hq hE hX pX0_al hP hD hS hA hl.1 (L_get l G h0 a (upd F 2 (nI sz)) R Z B J K3 w lf 1 nlf itlf i2 (LgK.ls hlg3 hlclf).ls (by omega) hO) (gV pw_517 pw_90 pw_91 pw_32 pw_25) hV_Jx4a65c_get_915e3 qr21 10 hqr22 rfl rfl rfl (Nat.le_of_ble_eq_true rfl) dX9_judgeFields_33 ⟨Nat.le_of_ble_eq_true rfl, Nat.le_of_ble_eq_true rfl⟩ ⟨Nat.le_of_ble_eq_true rfl, Nat.le_of_ble_eq_true rfl⟩ (fun v20 u18 H locs hw19 hP hD hS => ?_)
              obtain ⟨w, _⟩ := u18
              obtain ⟨hw19, hO⟩ := hw19
              obtain rfl : v20 = some (.ref (itlf i2)) := hw19
              have hO : OKP G h0 a (upd F 2 (nI sz)) R Z B J K3 w := hO.to rfl
              refine W.widen (k := 0) (n := 0) (Nat.le_of_ble_eq_true rfl) (Nat.le_of_ble_eq_true rfl) ?_
              refine W.eq (g2 := F0 m 36 ls [.ref (itlf i2)]) rfl ?_
              have hf23 : K.1 (itlf i2) = 1 := hlclf.T (by omega)
              refine p_cast (C := RX7) (Tc := TX7) (N := 11) (ci := 13) hx hb hown (hq _ pw_1090) hE hP hO (by rw [((LgK.T hlg3 (itlf i2)).trans hf23)]; decide) (rep_1 ((LgK.T hlg3 (itlf i2)).trans hf23)) rfl dX9_judgeFields_36 ?_
              refine p_get (v := .int (K3.2.1 3 (itlf i2))) (C := RX7) (Tc := TX7) (N := 11) (ci := 13) hx hb hq pin_wsX70 hown hE hP hO (by rw [((LgK.T hlg3 (itlf i2)).trans hf23)]; decide) (rep_1 ((LgK.T hlg3 (itlf i2)).trans hf23)) rfl 3 (by decide) (hq _ pw_1091) (fun _ h9 => h9) rfl dX9_judgeFields_39 ?_
              refine lv_aload_n hx hb dX9_judgeFields_42 rfl (lv_at hl 2 rfl) ?_
              refine p_get (v := .ref lu) (C := RX2) (Tc := TX2) (N := 13) (ci := 2) hx hb hq pin_wsX20 hown hE hP hO (by rw [((LgK.T hlg3 d1).trans hd1)]; decide) (rep_4 ((LgK.T hlg3 d1).trans hd1)) rfl 7 (by decide) (hq _ pw_1089) (fun _ h9 => h9) (congrArg (fun z => some (va_rf z)) ((LgK.C hlg3 8 d1).trans hflu)) dX9_judgeFields_43 ?_
              refine lv_iload hx hb dX9_judgeFields_46 (lv_at hl 0 rfl) ?_
              have hO : OKP G h0 a (upd F 2 (nI sz)) R Z B J K3 w := hO.to rfl
              obtain ⟨qr27, hqr28⟩ := p_recv hO (by rw [((LgK.T hlg3 lu).trans htlu)]; decide) (rep_5 ((LgK.T hlg3 lu).trans htlu))
              refine pc_V0 (G := G) (As := [.int (nI i3)]) (rest := [.int (K3.2.1 3 (itlf i2))]) hx hb hml hown hq hE hX pX0_al hP hD hS hA hl.1 (L_get l G h0 a (upd F 2 (nI sz)) R Z B J K3 w lu 1 nlu itlu i3 (LgK.ls hlg3 hlclu).ls (by omega) hO) (gV pw_517 pw_90 pw_91 pw_32 pw_25) hV_Jx4a65c_get_915e3 qr27 10 hqr28 rfl rfl rfl (Nat.le_of_ble_eq_true rfl) dX9_judgeFields_48 ⟨Nat.le_of_ble_eq_true rfl, Nat.le_of_ble_eq_true rfl⟩ ⟨Nat.le_of_ble_eq_true rfl, Nat.le_of_ble_eq_true rfl⟩ (fun v26 u24 H locs hw25 hP hD hS => ?_)
              obtain ⟨w, _⟩ := u24
              obtain ⟨hw25, hO⟩ := hw25
              obtain rfl : v26 = some (.ref (itlu i3)) := hw25
              have hO : OKP G h0 a (upd F 2 (nI sz)) R Z B J K3 w := hO.to rfl
              refine W.widen (k := 0) (n := 0) (Nat.le_of_ble_eq_true rfl) (Nat.le_of_ble_eq_true rfl) ?_
              refine W.eq (g2 := F0 m 51 ls [.ref (itlu i3), .int (K3.2.1 3 (itlf i2))]) rfl ?_
              have hf29 : K.1 (itlu i3) = 1 := hlclu.T (by omega)
              refine p_cast (C := RX7) (Tc := TX7) (N := 11) (ci := 13) hx hb hown (hq _ pw_1090) hE hP hO (by rw [((LgK.T hlg3 (itlu i3)).trans hf29)]; decide) (rep_1 ((LgK.T hlg3 (itlu i3)).trans hf29)) rfl dX9_judgeFields_51 ?_
              refine p_get (v := .int (K3.2.1 3 (itlu i3))) (C := RX7) (Tc := TX7) (N := 11) (ci := 13) hx hb hq pin_wsX70 hown hE hP hO (by rw [((LgK.T hlg3 (itlu i3)).trans hf29)]; decide) (rep_1 ((LgK.T hlg3 (itlu i3)).trans hf29)) rfl 3 (by decide) (hq _ pw_1091) (fun _ h9 => h9) rfl dX9_judgeFields_54 ?_
              refine lv_icmp_ne (tgt := 79) hx hb dX9_judgeFields_57 (by decide) (fun c30 => ?_) (fun c30 => ?_)
              · refine lv_iinc (v := (nI (i3 + 1))) (lv' := [(4, .int (nI (i3 + 1))), (3, .int (nI i2)), (2, .ref d1), (1, .ref d0), (0, .ref pq)]) hx hb dX9_judgeFields_79 hl (k := 0) rfl (nI_1 i3) (by decide) rfl (fun ls hl => ?_)
                refine lv_goto (tgt := 16) hx hb dX9_judgeFields_82 (by decide) ?_
                have hO : OKP G h0 a (upd F 2 (nI sz)) R Z B J K3 w := hO.to rfl
                exact ih_3 (i3 + 1) K3 _ _ _ _ (by omega) (by omega) hlg3 hP hD hS hO (lv_sub hl [0, 1, 2, 3, 4] rfl)
              · refine lv_aload_n hx hb dX9_judgeFields_60 rfl (lv_at hl 4 rfl) ?_
                refine lv_iconst (v := 3) hx hb dX9_judgeFields_61 (by decide) ?_
                refine lv_aload_n hx hb dX9_judgeFields_62 rfl (lv_at hl 3 rfl) ?_
                refine p_get (v := .ref lf) (C := RX2) (Tc := TX2) (N := 13) (ci := 2) hx hb hq pin_wsX20 hown hE hP hO (by rw [((LgK.T hlg3 d0).trans hd0)]; decide) (rep_4 ((LgK.T hlg3 d0).trans hd0)) rfl 7 (by decide) (hq _ pw_1089) (fun _ h9 => h9) (congrArg (fun z => some (va_rf z)) ((LgK.C hlg3 8 d0).trans hflf)) dX9_judgeFields_63 ?_
                refine lv_iload_n hx hb dX9_judgeFields_66 rfl (lv_at hl 1 rfl) ?_
                have hO : OKP G h0 a (upd F 2 (nI sz)) R Z B J K3 w := hO.to rfl
                obtain ⟨qr34, hqr35⟩ := p_recv hO (by rw [((LgK.T hlg3 lf).trans htlf)]; decide) (rep_5 ((LgK.T hlg3 lf).trans htlf))
                refine pc_V0 (G := G) (As := [.int (nI i2)]) (rest := [.int 3, .ref pq]) hx hb hml hown hq hE hX pX0_al hP hD hS hA hl.1 (L_get l G h0 a (upd F 2 (nI sz)) R Z B J K3 w lf 1 nlf itlf i2 (LgK.ls hlg3 hlclf).ls (by omega) hO) (gV pw_517 pw_90 pw_91 pw_32 pw_25) hV_Jx4a65c_get_915e3 qr34 10 hqr35 rfl rfl rfl (Nat.le_of_ble_eq_true rfl) dX9_judgeFields_67 ⟨Nat.le_of_ble_eq_true rfl, Nat.le_of_ble_eq_true rfl⟩ ⟨Nat.le_of_ble_eq_true rfl, Nat.le_of_ble_eq_true rfl⟩ (fun v33 u31 H locs hw32 hP hD hS => ?_)
                obtain ⟨w, _⟩ := u31
                obtain ⟨hw32, hO⟩ := hw32
                obtain rfl : v33 = some (.ref (itlf i2)) := hw32
                have hO : OKP G h0 a (upd F 2 (nI sz)) R Z B J K3 w := hO.to rfl
                refine W.widen (k := 0) (n := 0) (Nat.le_of_ble_eq_true rfl) (Nat.le_of_ble_eq_true rfl) ?_
                refine W.eq (g2 := F0 m 70 ls [.ref (itlf i2), .int 3, .ref pq]) rfl ?_
                have hf36 : K.1 (itlf i2) = 1 := hlclf.T (by omega)
                refine p_cast (C := RX7) (Tc := TX7) (N := 11) (ci := 13) hx hb hown (hq _ pw_1090) hE hP hO (by rw [((LgK.T hlg3 (itlf i2)).trans hf36)]; decide) (rep_1 ((LgK.T hlg3 (itlf i2)).trans hf36)) rfl dX9_judgeFields_70 ?_
                refine p_get (v := .int (K3.2.1 1 (itlf i2))) (C := RX7) (Tc := TX7) (N := 11) (ci := 13) hx hb hq pin_wsX70 hown hE hP hO (by rw [((LgK.T hlg3 (itlf i2)).trans hf36)]; decide) (rep_1 ((LgK.T hlg3 (itlf i2)).trans hf36)) rfl 1 (by decide) (hq _ pw_1092) (fun _ h9 => h9) rfl dX9_judgeFields_73 ?_
                have hO : OKP G h0 a (upd (upd F 2 (nI sz)) 2 (nI sz)) R Z B J K3 w := hO.to rfl
                obtain ⟨qr40, hqr41⟩ := p_recv hO (by rw [((LgK.T hlg3 pq).trans hp1)]; decide) (rep_7 ((LgK.T hlg3 pq).trans hp1))
                refine pc_V0 (G := G) (As := [.int 3, .int (K3.2.1 1 (itlf i2))]) (rest := []) hx hb hml hown hq hE hX pX0_al hP hD hS hA hl.1 (G_report l G h0 a (upd F 2 (nI sz)) R Z B J K3 w pq dr ml nd nm cp it s9 3 (K3.2.1 1 (itlf i2)) sz g (by omega) (LgK.wp hlg3 hwp) (LgK.ps hlg3 hps) hO) (gV pw_1096 pw_1097 pw_1098 pw_106 pw_1084) hV_X9_report qr40 6 hqr41 rfl rfl rfl (Nat.le_of_ble_eq_true rfl) dX9_judgeFields_76 ⟨Nat.le_of_ble_eq_true rfl, Nat.le_of_ble_eq_true rfl⟩ ⟨Nat.le_of_ble_eq_true rfl, Nat.le_of_ble_eq_true rfl⟩ (fun v39 u37 H locs hw38 hP hD hS => ?_)
                obtain ⟨w, K42⟩ := u37
                obtain ⟨hw38, h43, h44, hO⟩ := hw38
                have h43 : LgK K3 K42 pq := h43
                have h44 : RpQ 3 K42 pq := h44
                obtain rfl : v39 = none := hw38
                have hO : OKP G h0 a (upd F 2 (nI sz)) R Z B J K42 w := hO.to rfl
                refine W.widen (k := 0) (n := 0) (Nat.le_of_ble_eq_true rfl) (Nat.le_of_ble_eq_true rfl) ?_
                refine W.eq (g2 := F0 m 79 ls []) rfl ?_
                have hlg45 : LgK K K42 pq := LgK.trans hlg3 h43
                refine lv_iinc (v := (nI (i3 + 1))) (lv' := [(4, .int (nI (i3 + 1))), (3, .int (nI i2)), (2, .ref d1), (1, .ref d0), (0, .ref pq)]) hx hb dX9_judgeFields_79 hl (k := 0) rfl (nI_1 i3) (by decide) rfl (fun ls hl => ?_)
                refine lv_goto (tgt := 16) hx hb dX9_judgeFields_82 (by decide) ?_
                have hO : OKP G h0 a (upd F 2 (nI sz)) R Z B J K42 w := hO.to rfl
                exact ih_3 (i3 + 1) K42 _ _ _ _ (by omega) (by omega) hlg45 hP hD hS hO (lv_sub hl [0, 1, 2, 3, 4] rfl)
        have hO : OKP G h0 a (upd F 2 (nI sz)) R Z B J K2 w := hO.to rfl
        exact loop_3 (nlu + 1) 0 K2 _ _ _ _ (by omega) (by omega) hlg2 hP hD hS hO (lv_sub hl [0, 1, 2, 3, 4] rfl)
  have hO : OKP G h0 a (upd F 2 (nI sz)) R Z B J K w := hO.to rfl
  exact loop_2 (nlf + 1) 0 K _ _ _ _ (by omega) (by omega) LgK.rfl hP hD hS hO (lv_sub hl [0, 3, 2, 1] rfl)
theorem dX9_judgeMethods_0 : decode cX9_judgeMethods 0 = .ok (.iconst 0, 1) := by decide +kernel
theorem dX9_judgeMethods_1 : decode cX9_judgeMethods 1 = .ok (.istore_n 3, 1) := by decide +kernel
theorem dX9_judgeMethods_2 : decode cX9_judgeMethods 2 = .ok (.iload_n 3, 1) := by decide +kernel
theorem dX9_judgeMethods_3 : decode cX9_judgeMethods 3 = .ok (.aload_n 2, 1) := by decide +kernel
theorem dX9_judgeMethods_4 : decode cX9_judgeMethods 4 = .ok (.getfield 141, 3) := by decide +kernel
theorem dX9_judgeMethods_7 : decode cX9_judgeMethods 7 = .ok (.invokevirtual 45, 3) := by decide +kernel
theorem dX9_judgeMethods_10 : decode cX9_judgeMethods 10 = .ok (.if_icmp .ge 125, 3) := by decide +kernel
theorem dX9_judgeMethods_135 : decode cX9_judgeMethods 135 = .ok (.return_, 1) := by decide +kernel
theorem dX9_judgeMethods_13 : decode cX9_judgeMethods 13 = .ok (.aload_n 2, 1) := by decide +kernel
theorem dX9_judgeMethods_14 : decode cX9_judgeMethods 14 = .ok (.getfield 141, 3) := by decide +kernel
theorem dX9_judgeMethods_17 : decode cX9_judgeMethods 17 = .ok (.iload_n 3, 1) := by decide +kernel
theorem dX9_judgeMethods_18 : decode cX9_judgeMethods 18 = .ok (.invokevirtual 48, 3) := by decide +kernel
theorem dX9_judgeMethods_21 : decode cX9_judgeMethods 21 = .ok (.checkcast 52, 3) := by decide +kernel
theorem dX9_judgeMethods_24 : decode cX9_judgeMethods 24 = .ok (.astore 4, 2) := by decide +kernel
theorem dX9_judgeMethods_26 : decode cX9_judgeMethods 26 = .ok (.aload_n 1, 1) := by decide +kernel
theorem dX9_judgeMethods_27 : decode cX9_judgeMethods 27 = .ok (.aload 4, 2) := by decide +kernel
theorem dX9_judgeMethods_29 : decode cX9_judgeMethods 29 = .ok (.getfield 142, 3) := by decide +kernel
theorem dX9_judgeMethods_32 : decode cX9_judgeMethods 32 = .ok (.invokevirtual 143, 3) := by decide +kernel
theorem dX9_judgeMethods_35 : decode cX9_judgeMethods 35 = .ok (.astore 5, 2) := by decide +kernel
theorem dX9_judgeMethods_37 : decode cX9_judgeMethods 37 = .ok (.aload 5, 2) := by decide +kernel
theorem dX9_judgeMethods_39 : decode cX9_judgeMethods 39 = .ok (.ifnonnull 16, 3) := by decide +kernel
theorem dX9_judgeMethods_42 : decode cX9_judgeMethods 42 = .ok (.aload_n 0, 1) := by decide +kernel
theorem dX9_judgeMethods_43 : decode cX9_judgeMethods 43 = .ok (.aload_n 1, 1) := by decide +kernel
theorem dX9_judgeMethods_44 : decode cX9_judgeMethods 44 = .ok (.aload 4, 2) := by decide +kernel
theorem dX9_judgeMethods_46 : decode cX9_judgeMethods 46 = .ok (.getfield 142, 3) := by decide +kernel
theorem dX9_judgeMethods_49 : decode cX9_judgeMethods 49 = .ok (.invokevirtual 200, 3) := by decide +kernel
theorem dX9_judgeMethods_52 : decode cX9_judgeMethods 52 = .ok (.goto 5, 3) := by decide +kernel
theorem dX9_judgeMethods_57 : decode cX9_judgeMethods 57 = .ok (.astore 6, 2) := by decide +kernel
theorem dX9_judgeMethods_59 : decode cX9_judgeMethods 59 = .ok (.aload_n 0, 1) := by decide +kernel
theorem dX9_judgeMethods_60 : decode cX9_judgeMethods 60 = .ok (.aload 4, 2) := by decide +kernel
theorem dX9_judgeMethods_62 : decode cX9_judgeMethods 62 = .ok (.aload 6, 2) := by decide +kernel
theorem dX9_judgeMethods_64 : decode cX9_judgeMethods 64 = .ok (.invokevirtual 204, 3) := by decide +kernel
theorem dX9_judgeMethods_67 : decode cX9_judgeMethods 67 = .ok (.ifCond .ne 26, 3) := by decide +kernel
theorem dX9_judgeMethods_93 : decode cX9_judgeMethods 93 = .ok (.aload_n 2, 1) := by decide +kernel
theorem dX9_judgeMethods_94 : decode cX9_judgeMethods 94 = .ok (.getfield 164, 3) := by decide +kernel
theorem dX9_judgeMethods_97 : decode cX9_judgeMethods 97 = .ok (.ifCond .eq 32, 3) := by decide +kernel
theorem dX9_judgeMethods_129 : decode cX9_judgeMethods 129 = .ok (.iinc 3 1, 3) := by decide +kernel
theorem dX9_judgeMethods_132 : decode cX9_judgeMethods 132 = .ok (.goto (-130), 3) := by decide +kernel
theorem dX9_judgeMethods_100 : decode cX9_judgeMethods 100 = .ok (.aload_n 1, 1) := by decide +kernel
theorem dX9_judgeMethods_101 : decode cX9_judgeMethods 101 = .ok (.getfield 164, 3) := by decide +kernel
theorem dX9_judgeMethods_104 : decode cX9_judgeMethods 104 = .ok (.ifCond .ne 25, 3) := by decide +kernel
theorem dX9_judgeMethods_107 : decode cX9_judgeMethods 107 = .ok (.aload_n 1, 1) := by decide +kernel
theorem dX9_judgeMethods_108 : decode cX9_judgeMethods 108 = .ok (.aload 4, 2) := by decide +kernel
theorem dX9_judgeMethods_110 : decode cX9_judgeMethods 110 = .ok (.getfield 142, 3) := by decide +kernel
theorem dX9_judgeMethods_113 : decode cX9_judgeMethods 113 = .ok (.invokevirtual 188, 3) := by decide +kernel
theorem dX9_judgeMethods_116 : decode cX9_judgeMethods 116 = .ok (.ifnonnull 13, 3) := by decide +kernel
theorem dX9_judgeMethods_119 : decode cX9_judgeMethods 119 = .ok (.aload_n 0, 1) := by decide +kernel
theorem dX9_judgeMethods_120 : decode cX9_judgeMethods 120 = .ok (.bipush 8, 2) := by decide +kernel
theorem dX9_judgeMethods_122 : decode cX9_judgeMethods 122 = .ok (.aload_n 1, 1) := by decide +kernel
theorem dX9_judgeMethods_123 : decode cX9_judgeMethods 123 = .ok (.getfield 84, 3) := by decide +kernel
theorem dX9_judgeMethods_126 : decode cX9_judgeMethods 126 = .ok (.invokevirtual 87, 3) := by decide +kernel
theorem dX9_judgeMethods_70 : decode cX9_judgeMethods 70 = .ok (.aload_n 0, 1) := by decide +kernel
theorem dX9_judgeMethods_71 : decode cX9_judgeMethods 71 = .ok (.bipush 7, 2) := by decide +kernel
theorem dX9_judgeMethods_73 : decode cX9_judgeMethods 73 = .ok (.aload 5, 2) := by decide +kernel
theorem dX9_judgeMethods_75 : decode cX9_judgeMethods 75 = .ok (.ifnonnull 10, 3) := by decide +kernel
theorem dX9_judgeMethods_78 : decode cX9_judgeMethods 78 = .ok (.aload_n 1, 1) := by decide +kernel
theorem dX9_judgeMethods_79 : decode cX9_judgeMethods 79 = .ok (.getfield 84, 3) := by decide +kernel
theorem dX9_judgeMethods_82 : decode cX9_judgeMethods 82 = .ok (.goto 8, 3) := by decide +kernel
theorem dX9_judgeMethods_90 : decode cX9_judgeMethods 90 = .ok (.invokevirtual 87, 3) := by decide +kernel
theorem dX9_judgeMethods_55 : decode cX9_judgeMethods 55 = .ok (.aload 5, 2) := by decide +kernel
theorem dX9_judgeMethods_85 : decode cX9_judgeMethods 85 = .ok (.aload 5, 2) := by decide +kernel
theorem dX9_judgeMethods_87 : decode cX9_judgeMethods 87 = .ok (.getfield 147, 3) := by decide +kernel
theorem hV_X9_firstFromAbove : yX9_firstFromAbove.cls = RX9 ∧ yX9_firstFromAbove.cls ≠ "java/lang/invoke/MethodHandle" ∧ yX9_firstFromAbove.cls ≠ "java/lang/invoke/VarHandle" ∧ (parseMethodDescriptor yX9_firstFromAbove.desc).map (fun d => d.parameters.length) = some 2 := by decide +kernel
theorem hV_X9_haveOneSignature : yX9_haveOneSignature.cls = RX9 ∧ yX9_haveOneSignature.cls ≠ "java/lang/invoke/MethodHandle" ∧ yX9_haveOneSignature.cls ≠ "java/lang/invoke/VarHandle" ∧ (parseMethodDescriptor yX9_haveOneSignature.desc).map (fun d => d.parameters.length) = some 2 := by decide +kernel
theorem hV_X2_nearest : yX2_nearest.cls = RX2 ∧ yX2_nearest.cls ≠ "java/lang/invoke/MethodHandle" ∧ yX2_nearest.cls ≠ "java/lang/invoke/VarHandle" ∧ (parseMethodDescriptor yX2_nearest.desc).map (fun d => d.parameters.length) = some 1 := by decide +kernel
set_option maxHeartbeats 40000000 in
set_option maxRecDepth 100000 in
theorem G_judgeMethods (l : Launch) (G : pT) (h0 : Nat) (a : Nat → Nat) (F : Nat → Int32) (R : Nat → Value) (Z : Int64) (B : Nat → Nat → Int32) (J : Nat → Nat → Int64) (K : PK) (w : va_W) (pq : Nat) (dr : Nat) (ml : Nat) (nd : Nat) (nm : Nat) (cp : Nat) (it : Nat → Nat) (s9 : Nat) (d0 : Nat) (d1 : Nat) (sz : Nat) (g : Nat → Nat → Nat) (rk : Nat → Nat) (hsz : sz ≤ 5000) (hwp : WPr G K g) (hps : PgT G K g (a 1) pq dr ml nd nm cp it s9) (hd0 : K.1 d0 = 4) (hd1 : K.1 d1 = 4) (hrk : RkO K rk) (hO : OKP G h0 a (upd F 2 (nI sz)) R Z B J K w) : PM l G pX0 yX9_judgeMethods cX9_judgeMethods 7 none ({ frames := 7, cells := 0, slots := 0, locals := 170 }) [.ref pq, .ref d0, .ref d1] w (fun (v : Option Value) (u : va_W × (PK)) => v = none ∧ (LgK K u.2 pq) ∧ (OKP G h0 a (upd F 2 (nI sz)) R Z B J u.2 u.1)) (fun u => u.1) := by
  intro sz
  refine Met.ofW (cc := cX9_judgeMethods) (maxL := 7) (ret := none) (by decide) rfl ?_
  intro p e s m args below meth c s₁ B9 hml hv
  obtain ⟨rfl, hsz, hP, hD0, hE, hX⟩ := hv
  have hx := B9.exec
  have hb := B9.bytes
  have hr := B9.returns
  have hts := atoms_spec (ws := Cond.code yX9_judgeMethods cX9_judgeMethods 7 none :: pw) B9.pre
  have hq : ∀ w ∈ pw, w.before _ s = true := fun w h => hts w (List.mem_cons_of_mem _ h)
  have hown : s.vm.findClass RX9 = some m.cls := findClass_of_methodNamed B9.named
  have hlocks := B9.notSynchronized
  subst hsz
  have hD := hD0.self (sz := s.heap.size)
  have hA : ∀ q : Nat, s.heap.size ≤ q → va_A w s.heap.size q := fun q h => Or.inr h
  generalize va_A w s.heap.size = A at hD hE hA ⊢
  have hS : va_S A s.heap s.heap [] := va_S.rf
  have hl := lv_entry ([.ref pq, .ref d0, .ref d1]) (n := 7) (Nat.le_of_ble_eq_true rfl)
  rw [lg_entry_eq]
  generalize (lg_sl ([.ref pq, .ref d0, .ref d1]) ++ List.replicate (7 - (lg_sl ([.ref pq, .ref d0, .ref d1])).length) Slot.unset).toArray = ls at hl ⊢
  have hl : lv_has ls 7 [(0, .ref pq), (1, .ref d0), (2, .ref d1)] := hl
  have hp1 := hps.1.1
  have hp2 := hps.1.2.1
  have hp3 := hps.1.2.2.1
  have hp4 := hps.1.2.2.2.1
  have hp5 := hps.1.2.2.2.2.1
  have hp6 := hps.1.2.2.2.2.2.1
  have hp8 := hps.1.2.2.2.2.2.2.2.1
  have hp9 := hps.1.2.2.2.2.2.2.2.2
  obtain ⟨lm, hflm, htlm, hrlm, holm⟩ := (hwp.2.2.1 d1 hd1).2.1
  obtain ⟨nlm, itlm, cplm, hlclm, hnblm, hcblm⟩ := hwp.2.1 lm htlm
  rw [hrlm] at hlclm hnblm
  have hnclm := hlclm.2.2.1
  have hnblm : nlm ≤ 30 := hnblm
  have hlclm : LsC G K lm 3 nlm itlm cplm := hlclm
  refine lv_iconst (v := 0) hx hb dX9_judgeMethods_0 (by decide) ?_
  refine lv_istore_n (lv' := [(3, .int 0), (0, .ref pq), (1, .ref d0), (2, .ref d1)]) hx hb dX9_judgeMethods_1 rfl hl (by decide) rfl (fun ls hl => ?_)
  have loop_2 : ∀ (n_2 : Nat) (i2 : Nat) (K2 : PK) (H : Heap) (locs : List Loc) (ls : Array Slot) (w : va_W), i2 ≤ nlm → nlm + 1 ≤ i2 + n_2 → (LgK K K2 pq) → va_P G.1 pCl w H → va_D A w → va_S A s.heap H locs → OKP G h0 a (upd F 2 (nI sz)) R Z B J K2 w → lv_has ls 7 [(3, .int (nI i2)), (2, .ref d1), (1, .ref d0), (0, .ref pq)] → W p l e (headSpec (Cond.code yX9_judgeMethods cX9_judgeMethods 7 none :: pw) ({ frames := 7, cells := 0, slots := 0, locals := 170 } : Room)).room s m ([.ref pq, .ref d0, .ref d1] : List Value).toArray below meth c H locs 0 0 (MQ below (pQ G A (fun (v : Option Value) (u : va_W × (PK)) => v = none ∧ (LgK K u.2 pq) ∧ (OKP G h0 a (upd F 2 (nI sz)) R Z B J u.2 u.1)) (fun u => u.1)) ([.ref pq, .ref d0, .ref d1] : List Value).toArray s ({ frames := 7, cells := 0, slots := 0, locals := 170 } : Room).cells ({ frames := 7, cells := 0, slots := 0, locals := 170 } : Room).slots A) (F0 m 2 ls []) := by
    intro n_2
    induction n_2 with
    | zero => intro i2 K2 H locs ls w hk_2 hn_2; omega
    | succ n_2 ih_2 =>
      intro i2 K2 H locs ls w hk_2 hn_2 hlg2 hP hD hS hO hl
      refine lv_iload_n hx hb dX9_judgeMethods_2 rfl (lv_at hl 0 rfl) ?_
      refine lv_aload_n hx hb dX9_judgeMethods_3 rfl (lv_at hl 1 rfl) ?_
      refine p_get (v := .ref lm) (C := RX2) (Tc := TX2) (N := 13) (ci := 2) hx hb hq pin_wsX20 hown hE hP hO (by rw [((LgK.T hlg2 d1).trans hd1)]; decide) (rep_4 ((LgK.T hlg2 d1).trans hd1)) rfl 8 (by decide) (hq _ pw_1093) (fun _ h9 => h9) (congrArg (fun z => some (va_rf z)) ((LgK.C hlg2 9 d1).trans hflm)) dX9_judgeMethods_4 ?_
      have hO : OKP G h0 a (upd F 2 (nI sz)) R Z B J K2 w := hO.to rfl
      obtain ⟨qr4, hqr5⟩ := p_recv hO (by rw [((LgK.T hlg2 lm).trans htlm)]; decide) (rep_5 ((LgK.T hlg2 lm).trans htlm))
      refine pc_V0 (G := G) (As := []) (rest := [.int (nI i2)]) hx hb hml hown hq hE hX pX0_al hP hD hS hA hl.1 (L_size l G h0 a (upd F 2 (nI sz)) R Z B J K2 w lm 3 nlm itlm (LgK.ls hlg2 hlclm).ls hO) (gV pw_516 pw_87 pw_88 pw_32 pw_16) hV_Jx4a65c_size_8abf5 qr4 10 hqr5 rfl rfl rfl (Nat.le_of_ble_eq_true rfl) dX9_judgeMethods_7 ⟨Nat.le_of_ble_eq_true rfl, Nat.le_of_ble_eq_true rfl⟩ ⟨Nat.le_of_ble_eq_true rfl, Nat.le_of_ble_eq_true rfl⟩ (fun v3 u1 H locs hw2 hP hD hS => ?_)
      obtain ⟨w, _⟩ := u1
      obtain ⟨hw2, hO⟩ := hw2
      obtain rfl : v3 = some (.int (nI nlm)) := hw2
      have hO : OKP G h0 a (upd F 2 (nI sz)) R Z B J K2 w := hO.to rfl
      refine W.widen (k := 0) (n := 0) (Nat.le_of_ble_eq_true rfl) (Nat.le_of_ble_eq_true rfl) ?_
      refine W.eq (g2 := F0 m 10 ls [.int (nI nlm), .int (nI i2)]) rfl ?_
      refine lv_icmp_ge (tgt := 135) hx hb dX9_judgeMethods_10 (by decide) (fun c6 => ?_) (fun c6 => ?_)
      · have n7 : nlm ≤ i2 := (nI_leI (a := nlm) (b := i2) (by omega) (by omega)).mp c6
        have hz8 : LgK K K2 pq := hlg2
        have hO : OKP G h0 a (upd F 2 (nI sz)) R Z B J K2 w := hO.to rfl
        exact W.vret hx hb hr (fun t99 ht99 hW99 => ⟨⟨_, (w, K2), rfl, ⟨rfl, hz8, hO⟩, by rw [ht99]; exact hP, hD⟩, hS.F ht99⟩) hS.2.2 dX9_judgeMethods_135
      · have n9 : ¬ (nlm ≤ i2) := fun h9 => c6 ((nI_leI (a := nlm) (b := i2) (by omega) (by omega)).mpr h9)
        refine lv_aload_n hx hb dX9_judgeMethods_13 rfl (lv_at hl 1 rfl) ?_
        refine p_get (v := .ref lm) (C := RX2) (Tc := TX2) (N := 13) (ci := 2) hx hb hq pin_wsX20 hown hE hP hO (by rw [((LgK.T hlg2 d1).trans hd1)]; decide) (rep_4 ((LgK.T hlg2 d1).trans hd1)) rfl 8 (by decide) (hq _ pw_1093) (fun _ h9 => h9) (congrArg (fun z => some (va_rf z)) ((LgK.C hlg2 9 d1).trans hflm)) dX9_judgeMethods_14 ?_
        refine lv_iload_n hx hb dX9_judgeMethods_17 rfl (lv_at hl 0 rfl) ?_
        have hO : OKP G h0 a (upd F 2 (nI sz)) R Z B J K2 w := hO.to rfl
        obtain ⟨qr13, hqr14⟩ := p_recv hO (by rw [((LgK.T hlg2 lm).trans htlm)]; decide) (rep_5 ((LgK.T hlg2 lm).trans htlm))
        refine pc_V0 (G := G) (As := [.int (nI i2)]) (rest := []) hx hb hml hown hq hE hX pX0_al hP hD hS hA hl.1 (L_get l G h0 a (upd F 2 (nI sz)) R Z B J K2 w lm 3 nlm itlm i2 (LgK.ls hlg2 hlclm).ls (by omega) hO) (gV pw_517 pw_90 pw_91 pw_32 pw_25) hV_Jx4a65c_get_915e3 qr13 10 hqr14 rfl rfl rfl (Nat.le_of_ble_eq_true rfl) dX9_judgeMethods_18 ⟨Nat.le_of_ble_eq_true rfl, Nat.le_of_ble_eq_true rfl⟩ ⟨Nat.le_of_ble_eq_true rfl, Nat.le_of_ble_eq_true rfl⟩ (fun v12 u10 H locs hw11 hP hD hS => ?_)
        obtain ⟨w, _⟩ := u10
        obtain ⟨hw11, hO⟩ := hw11
        obtain rfl : v12 = some (.ref (itlm i2)) := hw11
        have hO : OKP G h0 a (upd F 2 (nI sz)) R Z B J K2 w := hO.to rfl
        refine W.widen (k := 0) (n := 0) (Nat.le_of_ble_eq_true rfl) (Nat.le_of_ble_eq_true rfl) ?_
        refine W.eq (g2 := F0 m 21 ls [.ref (itlm i2)]) rfl ?_
        have hf15 : K.1 (itlm i2) = 3 := hlclm.T (by omega)
        refine p_cast (C := RX6) (Tc := TX6) (N := 12) (ci := 12) hx hb hown (hq _ pw_515) hE hP hO (by rw [((LgK.T hlg2 (itlm i2)).trans hf15)]; decide) (rep_3 ((LgK.T hlg2 (itlm i2)).trans hf15)) rfl dX9_judgeMethods_21 ?_
        refine lv_astore (lv' := [(4, .ref (itlm i2)), (3, .int (nI i2)), (2, .ref d1), (1, .ref d0), (0, .ref pq)]) hx hb dX9_judgeMethods_24 hl (by decide) rfl (fun ls hl => ?_)
        refine lv_aload_n hx hb dX9_judgeMethods_26 rfl (lv_at hl 3 rfl) ?_
        refine lv_aload hx hb dX9_judgeMethods_27 (lv_at hl 0 rfl) ?_
        refine p_get (v := .int (K2.2.1 6 (itlm i2))) (C := RX6) (Tc := TX6) (N := 12) (ci := 12) hx hb hq pin_wsX60 hown hE hP hO (by rw [((LgK.T hlg2 (itlm i2)).trans hf15)]; decide) (rep_3 ((LgK.T hlg2 (itlm i2)).trans hf15)) rfl 1 (by decide) (hq _ pw_1094) (fun _ h9 => h9) rfl dX9_judgeMethods_29 ?_
        have hO : OKP G h0 a (upd F 2 (nI sz)) R Z B J K2 w := hO.to rfl
        obtain ⟨qr19, hqr20⟩ := p_recv hO (by rw [((LgK.T hlg2 d0).trans hd0)]; decide) (rep_4 ((LgK.T hlg2 d0).trans hd0))
        refine pc_V0 (G := G) (As := [.int (K2.2.1 6 (itlm i2))]) (rest := []) hx hb hml hown hq hE hX pX0_al hP hD hS hA hl.1 (O_own l G h0 a (upd F 2 (nI sz)) R Z B J K2 w d0 (K2.2.1 6 (itlm i2)) g ((LgK.T hlg2 d0).trans hd0) (LgK.wp hlg2 hwp) hO) (gV pw_1099 pw_152 pw_153 pw_146 pw_149) hV_X2_own qr19 2 hqr20 rfl rfl rfl (Nat.le_of_ble_eq_true rfl) dX9_judgeMethods_32 ⟨Nat.le_of_ble_eq_true rfl, Nat.le_of_ble_eq_true rfl⟩ ⟨Nat.le_of_ble_eq_true rfl, Nat.le_of_ble_eq_true rfl⟩ (fun v18 u16 H locs hw17 hP hD hS => ?_)
        obtain ⟨w, o21⟩ := u16
        obtain ⟨hw17, h22, hO⟩ := hw17
        have h22 : MoN K2 o21 := h22
        obtain rfl : v18 = some ((va_rf o21)) := hw17
        have hO : OKP G h0 a (upd F 2 (nI sz)) R Z B J K2 w := hO.to rfl
        refine W.widen (k := 0) (n := 0) (Nat.le_of_ble_eq_true rfl) (Nat.le_of_ble_eq_true rfl) ?_
        refine W.eq (g2 := F0 m 35 ls [(va_rf o21)]) rfl ?_
        rcases o21 with _ | d23
        · have hl : lv_has ls 7 [(4, .ref (itlm i2)), (3, .int (nI i2)), (2, .ref d1), (1, .ref d0), (0, .ref pq)] := hl
          refine W.eq (g2 := F0 m 35 ls [.null]) rfl ?_
          refine lv_astoreN (lv' := [(5, .null), (4, .ref (itlm i2)), (3, .int (nI i2)), (2, .ref d1), (1, .ref d0), (0, .ref pq)]) hx hb dX9_judgeMethods_35 hl (by decide) rfl (fun ls hl => ?_)
          refine lv_aloadN hx hb dX9_judgeMethods_37 (lv_at hl 0 rfl) ?_
          refine lv_ifnonnullN hx hb dX9_judgeMethods_39 ?_
          refine lv_aload_n hx hb dX9_judgeMethods_42 rfl (lv_at hl 5 rfl) ?_
          refine lv_aload_n hx hb dX9_judgeMethods_43 rfl (lv_at hl 4 rfl) ?_
          refine lv_aload hx hb dX9_judgeMethods_44 (lv_at hl 1 rfl) ?_
          refine p_get (v := .int (K2.2.1 6 (itlm i2))) (C := RX6) (Tc := TX6) (N := 12) (ci := 12) hx hb hq pin_wsX60 hown hE hP hO (by rw [((LgK.T hlg2 (itlm i2)).trans hf15)]; decide) (rep_3 ((LgK.T hlg2 (itlm i2)).trans hf15)) rfl 1 (by decide) (hq _ pw_1094) (fun _ h9 => h9) rfl dX9_judgeMethods_46 ?_
          have hO : OKP G h0 a (upd F 2 (nI sz)) R Z B J K2 w := hO.to rfl
          obtain ⟨qr27, hqr28⟩ := p_recv hO (by rw [((LgK.T hlg2 pq).trans hp1)]; decide) (rep_7 ((LgK.T hlg2 pq).trans hp1))
          refine pc_V0 (G := G) (As := [.ref d0, .int (K2.2.1 6 (itlm i2))]) (rest := []) hx hb hml hown hq hE hX pX0_al hP hD hS hA hl.1 (G_firstFrom l G h0 a (upd F 2 (nI sz)) R Z B J K2 w pq dr ml nd d0 (K2.2.1 6 (itlm i2)) g (LgK.ps hlg2 hps).1 (LgK.ps hlg2 hps).2.1 ((LgK.T hlg2 d0).trans hd0) (LgK.wp hlg2 hwp) hO) (gV pw_1148 pw_1149 pw_1150 pw_106 pw_1142) hV_X9_firstFromAbove qr27 6 hqr28 rfl rfl rfl (Nat.le_of_ble_eq_true rfl) dX9_judgeMethods_49 ⟨Nat.le_of_ble_eq_true rfl, Nat.le_of_ble_eq_true rfl⟩ ⟨Nat.le_of_ble_eq_true rfl, Nat.le_of_ble_eq_true rfl⟩ (fun v26 u24 H locs hw25 hP hD hS => ?_)
          obtain ⟨w, o29⟩ := u24
          obtain ⟨hw25, h30, hO⟩ := hw25
          have h30 : MoN K2 o29 := h30
          obtain rfl : v26 = some ((va_rf o29)) := hw25
          have hO : OKP G h0 a (upd F 2 (nI sz)) R Z B J K2 w := hO.to rfl
          refine W.widen (k := 0) (n := 0) (Nat.le_of_ble_eq_true rfl) (Nat.le_of_ble_eq_true rfl) ?_
          refine W.eq (g2 := F0 m 52 ls [(va_rf o29)]) rfl ?_
          rcases o29 with _ | d31
          · have hl : lv_has ls 7 [(5, .null), (4, .ref (itlm i2)), (3, .int (nI i2)), (2, .ref d1), (1, .ref d0), (0, .ref pq)] := hl
            refine W.eq (g2 := F0 m 52 ls [.null]) rfl ?_
            refine lv_goto (tgt := 57) hx hb dX9_judgeMethods_52 (by decide) ?_
            refine lv_astoreN (lv' := [(6, .null), (5, .null), (4, .ref (itlm i2)), (3, .int (nI i2)), (2, .ref d1), (1, .ref d0), (0, .ref pq)]) hx hb dX9_judgeMethods_57 hl (by decide) rfl (fun ls hl => ?_)
            refine lv_aload_n hx hb dX9_judgeMethods_59 rfl (lv_at hl 6 rfl) ?_
            refine lv_aload hx hb dX9_judgeMethods_60 (lv_at hl 2 rfl) ?_
            refine lv_aloadN hx hb dX9_judgeMethods_62 (lv_at hl 0 rfl) ?_
            have hO : OKP G h0 a (upd (upd F 2 (nI sz)) 2 (nI sz)) R Z B J K2 w := hO.to rfl
            obtain ⟨qr35, hqr36⟩ := p_recv hO (by rw [((LgK.T hlg2 pq).trans hp1)]; decide) (rep_7 ((LgK.T hlg2 pq).trans hp1))
            refine pc_V0 (G := G) (As := [.ref (itlm i2), .null]) (rest := []) hx hb hml hown hq hE hX pX0_al hP hD hS hA hl.1 (G_oneSigN l G h0 a (upd F 2 (nI sz)) R Z B J K2 w pq dr ml nd (itlm i2) sz g (LgK.ps hlg2 hps).1 (by omega) ((LgK.T hlg2 (itlm i2)).trans hf15) (LgK.wp hlg2 hwp) hO) (gV pw_1151 pw_1152 pw_1153 pw_106 pw_1147) hV_X9_haveOneSignature qr35 6 hqr36 rfl rfl rfl (Nat.le_of_ble_eq_true rfl) dX9_judgeMethods_64 ⟨Nat.le_of_ble_eq_true rfl, Nat.le_of_ble_eq_true rfl⟩ ⟨Nat.le_of_ble_eq_true rfl, Nat.le_of_ble_eq_true rfl⟩ (fun v34 u32 H locs hw33 hP hD hS => ?_)
            obtain ⟨w, r37⟩ := u32
            obtain ⟨hw33, h38, hO⟩ := hw33
            have h38 : r37 ≤ 1 := h38
            obtain rfl : v34 = some (.int (nI r37)) := hw33
            have hO : OKP G h0 a (upd F 2 (nI sz)) R Z B J K2 w := hO.to rfl
            refine W.widen (k := 0) (n := 0) (Nat.le_of_ble_eq_true rfl) (Nat.le_of_ble_eq_true rfl) ?_
            refine W.eq (g2 := F0 m 67 ls [.int (nI r37)]) rfl ?_
            refine lv_if_ne (tgt := 93) hx hb dX9_judgeMethods_67 (by decide) (fun c39 => ?_) (fun c39 => ?_)
            · have n40 : ¬ (r37 = 0) := fun h9 => c39 ((nI_eq (a := r37) (b := 0) (by omega) (by omega)).mpr h9)
              refine lv_aload_n hx hb dX9_judgeMethods_93 rfl (lv_at hl 4 rfl) ?_
              refine p_get (v := .int (K2.2.1 18 d1)) (C := RX2) (Tc := TX2) (N := 13) (ci := 2) hx hb hq pin_wsX20 hown hE hP hO (by rw [((LgK.T hlg2 d1).trans hd1)]; decide) (rep_4 ((LgK.T hlg2 d1).trans hd1)) rfl 3 (by decide) (hq _ pw_1101) (fun _ h9 => h9) rfl dX9_judgeMethods_94 ?_
              refine lv_if_eq (tgt := 129) hx hb dX9_judgeMethods_97 (by decide) (fun c41 => ?_) (fun c41 => ?_)
              · refine lv_iinc (v := (nI (i2 + 1))) (lv' := [(3, .int (nI (i2 + 1))), (6, .null), (5, .null), (4, .ref (itlm i2)), (2, .ref d1), (1, .ref d0), (0, .ref pq)]) hx hb dX9_judgeMethods_129 hl (k := 3) rfl (nI_1 i2) (by decide) rfl (fun ls hl => ?_)
                refine lv_goto (tgt := 2) hx hb dX9_judgeMethods_132 (by decide) ?_
                have hO : OKP G h0 a (upd F 2 (nI sz)) R Z B J K2 w := hO.to rfl
                exact ih_2 (i2 + 1) K2 _ _ _ _ (by omega) (by omega) hlg2 hP hD hS hO (lv_sub hl [0, 4, 5, 6] rfl)
              · refine lv_aload_n hx hb dX9_judgeMethods_100 rfl (lv_at hl 5 rfl) ?_
                refine p_get (v := .int (K2.2.1 18 d0)) (C := RX2) (Tc := TX2) (N := 13) (ci := 2) hx hb hq pin_wsX20 hown hE hP hO (by rw [((LgK.T hlg2 d0).trans hd0)]; decide) (rep_4 ((LgK.T hlg2 d0).trans hd0)) rfl 3 (by decide) (hq _ pw_1101) (fun _ h9 => h9) rfl dX9_judgeMethods_101 ?_
                refine lv_if_ne (tgt := 129) hx hb dX9_judgeMethods_104 (by decide) (fun c42 => ?_) (fun c42 => ?_)
                · refine lv_iinc (v := (nI (i2 + 1))) (lv' := [(3, .int (nI (i2 + 1))), (6, .null), (5, .null), (4, .ref (itlm i2)), (2, .ref d1), (1, .ref d0), (0, .ref pq)]) hx hb dX9_judgeMethods_129 hl (k := 3) rfl (nI_1 i2) (by decide) rfl (fun ls hl => ?_)
                  refine lv_goto (tgt := 2) hx hb dX9_judgeMethods_132 (by decide) ?_
                  have hO : OKP G h0 a (upd F 2 (nI sz)) R Z B J K2 w := hO.to rfl
                  exact ih_2 (i2 + 1) K2 _ _ _ _ (by omega) (by omega) hlg2 hP hD hS hO (lv_sub hl [0, 4, 5, 6] rfl)
                · refine lv_aload_n hx hb dX9_judgeMethods_107 rfl (lv_at hl 5 rfl) ?_
                  refine lv_aload hx hb dX9_judgeMethods_108 (lv_at hl 2 rfl) ?_
                  refine p_get (v := .int (K2.2.1 6 (itlm i2))) (C := RX6) (Tc := TX6) (N := 12) (ci := 12) hx hb hq pin_wsX60 hown hE hP hO (by rw [((LgK.T hlg2 (itlm i2)).trans hf15)]; decide) (rep_3 ((LgK.T hlg2 (itlm i2)).trans hf15)) rfl 1 (by decide) (hq _ pw_1094) (fun _ h9 => h9) rfl dX9_judgeMethods_110 ?_
                  have hO : OKP G h0 a (upd F 2 (nI sz)) R Z B J K2 w := hO.to rfl
                  obtain ⟨qr46, hqr47⟩ := p_recv hO (by rw [((LgK.T hlg2 d0).trans hd0)]; decide) (rep_4 ((LgK.T hlg2 d0).trans hd0))
                  refine pc_V0 (G := G) (As := [.int (K2.2.1 6 (itlm i2))]) (rest := []) hx hb hml hown hq hE hX pX0_al hP hD hS hA hl.1 (O_nearest l G h0 a (upd F 2 (nI sz)) R Z B J K2 w d0 (K2.2.1 6 (itlm i2)) g rk ((LgK.T hlg2 d0).trans hd0) (LgK.wp hlg2 hwp) (LgK.rko hlg2 hrk) hO) (gV pw_1154 pw_222 pw_223 pw_146 pw_154) hV_X2_nearest qr46 2 hqr47 rfl rfl rfl (Nat.le_of_ble_eq_true rfl) dX9_judgeMethods_113 ⟨Nat.le_of_ble_eq_true rfl, Nat.le_of_ble_eq_true rfl⟩ ⟨Nat.le_of_ble_eq_true rfl, Nat.le_of_ble_eq_true rfl⟩ (fun v45 u43 H locs hw44 hP hD hS => ?_)
                  obtain ⟨w, o48⟩ := u43
                  obtain ⟨hw44, h49, hO⟩ := hw44
                  have h49 : MoN K2 o48 := h49
                  obtain rfl : v45 = some ((va_rf o48)) := hw44
                  have hO : OKP G h0 a (upd F 2 (nI sz)) R Z B J K2 w := hO.to rfl
                  refine W.widen (k := 0) (n := 0) (Nat.le_of_ble_eq_true rfl) (Nat.le_of_ble_eq_true rfl) ?_
                  refine W.eq (g2 := F0 m 116 ls [(va_rf o48)]) rfl ?_
                  rcases o48 with _ | d50
                  · have hl : lv_has ls 7 [(6, .null), (5, .null), (4, .ref (itlm i2)), (3, .int (nI i2)), (2, .ref d1), (1, .ref d0), (0, .ref pq)] := hl
                    refine W.eq (g2 := F0 m 116 ls [.null]) rfl ?_
                    refine lv_ifnonnullN hx hb dX9_judgeMethods_116 ?_
                    refine lv_aload_n hx hb dX9_judgeMethods_119 rfl (lv_at hl 6 rfl) ?_
                    refine lv_bipush (v := 8) hx hb dX9_judgeMethods_120 (by decide) ?_
                    refine lv_aload_n hx hb dX9_judgeMethods_122 rfl (lv_at hl 5 rfl) ?_
                    refine p_get (v := .int (K2.2.1 17 d0)) (C := RX2) (Tc := TX2) (N := 13) (ci := 2) hx hb hq pin_wsX20 hown hE hP hO (by rw [((LgK.T hlg2 d0).trans hd0)]; decide) (rep_4 ((LgK.T hlg2 d0).trans hd0)) rfl 2 (by decide) (hq _ pw_1114) (fun _ h9 => h9) rfl dX9_judgeMethods_123 ?_
                    have hO : OKP G h0 a (upd (upd F 2 (nI sz)) 2 (nI sz)) R Z B J K2 w := hO.to rfl
                    obtain ⟨qr54, hqr55⟩ := p_recv hO (by rw [((LgK.T hlg2 pq).trans hp1)]; decide) (rep_7 ((LgK.T hlg2 pq).trans hp1))
                    refine pc_V0 (G := G) (As := [.int 8, .int (K2.2.1 17 d0)]) (rest := []) hx hb hml hown hq hE hX pX0_al hP hD hS hA hl.1 (G_report l G h0 a (upd F 2 (nI sz)) R Z B J K2 w pq dr ml nd nm cp it s9 8 (K2.2.1 17 d0) sz g (by omega) (LgK.wp hlg2 hwp) (LgK.ps hlg2 hps) hO) (gV pw_1096 pw_1097 pw_1098 pw_106 pw_1084) hV_X9_report qr54 6 hqr55 rfl rfl rfl (Nat.le_of_ble_eq_true rfl) dX9_judgeMethods_126 ⟨Nat.le_of_ble_eq_true rfl, Nat.le_of_ble_eq_true rfl⟩ ⟨Nat.le_of_ble_eq_true rfl, Nat.le_of_ble_eq_true rfl⟩ (fun v53 u51 H locs hw52 hP hD hS => ?_)
                    obtain ⟨w, K56⟩ := u51
                    obtain ⟨hw52, h57, h58, hO⟩ := hw52
                    have h57 : LgK K2 K56 pq := h57
                    have h58 : RpQ 8 K56 pq := h58
                    obtain rfl : v53 = none := hw52
                    have hO : OKP G h0 a (upd F 2 (nI sz)) R Z B J K56 w := hO.to rfl
                    refine W.widen (k := 0) (n := 0) (Nat.le_of_ble_eq_true rfl) (Nat.le_of_ble_eq_true rfl) ?_
                    refine W.eq (g2 := F0 m 129 ls []) rfl ?_
                    have hlg59 : LgK K K56 pq := LgK.trans hlg2 h57
                    refine lv_iinc (v := (nI (i2 + 1))) (lv' := [(3, .int (nI (i2 + 1))), (6, .null), (5, .null), (4, .ref (itlm i2)), (2, .ref d1), (1, .ref d0), (0, .ref pq)]) hx hb dX9_judgeMethods_129 hl (k := 3) rfl (nI_1 i2) (by decide) rfl (fun ls hl => ?_)
                    refine lv_goto (tgt := 2) hx hb dX9_judgeMethods_132 (by decide) ?_
                    have hO : OKP G h0 a (upd F 2 (nI sz)) R Z B J K56 w := hO.to rfl
                    exact ih_2 (i2 + 1) K56 _ _ _ _ (by omega) (by omega) hlg59 hP hD hS hO (lv_sub hl [0, 4, 5, 6] rfl)
                  · have hl : lv_has ls 7 [(6, .null), (5, .null), (4, .ref (itlm i2)), (3, .int (nI i2)), (2, .ref d1), (1, .ref d0), (0, .ref pq)] := hl
                    refine W.eq (g2 := F0 m 116 ls [.ref d50]) rfl ?_
                    have hf60 : K.1 d50 = 3 := (LgK.T hlg2 d50).symm.trans (h49 d50 rfl)
                    refine lv_ifnonnull (tgt := 129) hx hb dX9_judgeMethods_116 (by decide) ?_
                    refine lv_iinc (v := (nI (i2 + 1))) (lv' := [(3, .int (nI (i2 + 1))), (6, .null), (5, .null), (4, .ref (itlm i2)), (2, .ref d1), (1, .ref d0), (0, .ref pq)]) hx hb dX9_judgeMethods_129 hl (k := 3) rfl (nI_1 i2) (by decide) rfl (fun ls hl => ?_)
                    refine lv_goto (tgt := 2) hx hb dX9_judgeMethods_132 (by decide) ?_
                    have hO : OKP G h0 a (upd F 2 (nI sz)) R Z B J K2 w := hO.to rfl
                    exact ih_2 (i2 + 1) K2 _ _ _ _ (by omega) (by omega) hlg2 hP hD hS hO (lv_sub hl [0, 4, 5, 6] rfl)
            · have n61 : r37 = 0 := (nI_eq (a := r37) (b := 0) (by omega) (by omega)).mp c39
              refine lv_aload_n hx hb dX9_judgeMethods_70 rfl (lv_at hl 6 rfl) ?_
              refine lv_bipush (v := 7) hx hb dX9_judgeMethods_71 (by decide) ?_
              refine lv_aloadN hx hb dX9_judgeMethods_73 (lv_at hl 1 rfl) ?_
              refine lv_ifnonnullN hx hb dX9_judgeMethods_75 ?_
              refine lv_aload_n hx hb dX9_judgeMethods_78 rfl (lv_at hl 5 rfl) ?_
              refine p_get (v := .int (K2.2.1 17 d0)) (C := RX2) (Tc := TX2) (N := 13) (ci := 2) hx hb hq pin_wsX20 hown hE hP hO (by rw [((LgK.T hlg2 d0).trans hd0)]; decide) (rep_4 ((LgK.T hlg2 d0).trans hd0)) rfl 2 (by decide) (hq _ pw_1114) (fun _ h9 => h9) rfl dX9_judgeMethods_79 ?_
              refine lv_goto (tgt := 90) hx hb dX9_judgeMethods_82 (by decide) ?_
              have hO : OKP G h0 a (upd (upd F 2 (nI sz)) 2 (nI sz)) R Z B J K2 w := hO.to rfl
              obtain ⟨qr65, hqr66⟩ := p_recv hO (by rw [((LgK.T hlg2 pq).trans hp1)]; decide) (rep_7 ((LgK.T hlg2 pq).trans hp1))
              refine pc_V0 (G := G) (As := [.int 7, .int (K2.2.1 17 d0)]) (rest := []) hx hb hml hown hq hE hX pX0_al hP hD hS hA hl.1 (G_report l G h0 a (upd F 2 (nI sz)) R Z B J K2 w pq dr ml nd nm cp it s9 7 (K2.2.1 17 d0) sz g (by omega) (LgK.wp hlg2 hwp) (LgK.ps hlg2 hps) hO) (gV pw_1096 pw_1097 pw_1098 pw_106 pw_1084) hV_X9_report qr65 6 hqr66 rfl rfl rfl (Nat.le_of_ble_eq_true rfl) dX9_judgeMethods_90 ⟨Nat.le_of_ble_eq_true rfl, Nat.le_of_ble_eq_true rfl⟩ ⟨Nat.le_of_ble_eq_true rfl, Nat.le_of_ble_eq_true rfl⟩ (fun v64 u62 H locs hw63 hP hD hS => ?_)
              obtain ⟨w, K67⟩ := u62
              obtain ⟨hw63, h68, h69, hO⟩ := hw63
              have h68 : LgK K2 K67 pq := h68
              have h69 : RpQ 7 K67 pq := h69
              obtain rfl : v64 = none := hw63
              have hO : OKP G h0 a (upd F 2 (nI sz)) R Z B J K67 w := hO.to rfl
              refine W.widen (k := 0) (n := 0) (Nat.le_of_ble_eq_true rfl) (Nat.le_of_ble_eq_true rfl) ?_
              refine W.eq (g2 := F0 m 93 ls []) rfl ?_
              have hlg70 : LgK K K67 pq := LgK.trans hlg2 h68
              refine lv_aload_n hx hb dX9_judgeMethods_93 rfl (lv_at hl 4 rfl) ?_
              refine p_get (v := .int (K67.2.1 18 d1)) (C := RX2) (Tc := TX2) (N := 13) (ci := 2) hx hb hq pin_wsX20 hown hE hP hO (by rw [((LgK.T hlg70 d1).trans hd1)]; decide) (rep_4 ((LgK.T hlg70 d1).trans hd1)) rfl 3 (by decide) (hq _ pw_1101) (fun _ h9 => h9) rfl dX9_judgeMethods_94 ?_
              refine lv_if_eq (tgt := 129) hx hb dX9_judgeMethods_97 (by decide) (fun c71 => ?_) (fun c71 => ?_)
              · refine lv_iinc (v := (nI (i2 + 1))) (lv' := [(3, .int (nI (i2 + 1))), (6, .null), (5, .null), (4, .ref (itlm i2)), (2, .ref d1), (1, .ref d0), (0, .ref pq)]) hx hb dX9_judgeMethods_129 hl (k := 3) rfl (nI_1 i2) (by decide) rfl (fun ls hl => ?_)
                refine lv_goto (tgt := 2) hx hb dX9_judgeMethods_132 (by decide) ?_
                have hO : OKP G h0 a (upd F 2 (nI sz)) R Z B J K67 w := hO.to rfl
                exact ih_2 (i2 + 1) K67 _ _ _ _ (by omega) (by omega) hlg70 hP hD hS hO (lv_sub hl [0, 4, 5, 6] rfl)
              · refine lv_aload_n hx hb dX9_judgeMethods_100 rfl (lv_at hl 5 rfl) ?_
                refine p_get (v := .int (K67.2.1 18 d0)) (C := RX2) (Tc := TX2) (N := 13) (ci := 2) hx hb hq pin_wsX20 hown hE hP hO (by rw [((LgK.T hlg70 d0).trans hd0)]; decide) (rep_4 ((LgK.T hlg70 d0).trans hd0)) rfl 3 (by decide) (hq _ pw_1101) (fun _ h9 => h9) rfl dX9_judgeMethods_101 ?_
                refine lv_if_ne (tgt := 129) hx hb dX9_judgeMethods_104 (by decide) (fun c72 => ?_) (fun c72 => ?_)
                · refine lv_iinc (v := (nI (i2 + 1))) (lv' := [(3, .int (nI (i2 + 1))), (6, .null), (5, .null), (4, .ref (itlm i2)), (2, .ref d1), (1, .ref d0), (0, .ref pq)]) hx hb dX9_judgeMethods_129 hl (k := 3) rfl (nI_1 i2) (by decide) rfl (fun ls hl => ?_)
                  refine lv_goto (tgt := 2) hx hb dX9_judgeMethods_132 (by decide) ?_
                  have hO : OKP G h0 a (upd F 2 (nI sz)) R Z B J K67 w := hO.to rfl
                  exact ih_2 (i2 + 1) K67 _ _ _ _ (by omega) (by omega) hlg70 hP hD hS hO (lv_sub hl [0, 4, 5, 6] rfl)
                · refine lv_aload_n hx hb dX9_judgeMethods_107 rfl (lv_at hl 5 rfl) ?_
                  refine lv_aload hx hb dX9_judgeMethods_108 (lv_at hl 2 rfl) ?_
                  refine p_get (v := .int (K67.2.1 6 (itlm i2))) (C := RX6) (Tc := TX6) (N := 12) (ci := 12) hx hb hq pin_wsX60 hown hE hP hO (by rw [((LgK.T hlg70 (itlm i2)).trans hf15)]; decide) (rep_3 ((LgK.T hlg70 (itlm i2)).trans hf15)) rfl 1 (by decide) (hq _ pw_1094) (fun _ h9 => h9) rfl dX9_judgeMethods_110 ?_
                  have hO : OKP G h0 a (upd F 2 (nI sz)) R Z B J K67 w := hO.to rfl
                  obtain ⟨qr76, hqr77⟩ := p_recv hO (by rw [((LgK.T hlg70 d0).trans hd0)]; decide) (rep_4 ((LgK.T hlg70 d0).trans hd0))
                  refine pc_V0 (G := G) (As := [.int (K67.2.1 6 (itlm i2))]) (rest := []) hx hb hml hown hq hE hX pX0_al hP hD hS hA hl.1 (O_nearest l G h0 a (upd F 2 (nI sz)) R Z B J K67 w d0 (K67.2.1 6 (itlm i2)) g rk ((LgK.T hlg70 d0).trans hd0) (LgK.wp hlg70 hwp) (LgK.rko hlg70 hrk) hO) (gV pw_1154 pw_222 pw_223 pw_146 pw_154) hV_X2_nearest qr76 2 hqr77 rfl rfl rfl (Nat.le_of_ble_eq_true rfl) dX9_judgeMethods_113 ⟨Nat.le_of_ble_eq_true rfl, Nat.le_of_ble_eq_true rfl⟩ ⟨Nat.le_of_ble_eq_true rfl, Nat.le_of_ble_eq_true rfl⟩ (fun v75 u73 H locs hw74 hP hD hS => ?_)
                  obtain ⟨w, o78⟩ := u73
                  obtain ⟨hw74, h79, hO⟩ := hw74
                  have h79 : MoN K67 o78 := h79
                  obtain rfl : v75 = some ((va_rf o78)) := hw74
                  have hO : OKP G h0 a (upd F 2 (nI sz)) R Z B J K67 w := hO.to rfl
                  refine W.widen (k := 0) (n := 0) (Nat.le_of_ble_eq_true rfl) (Nat.le_of_ble_eq_true rfl) ?_
                  refine W.eq (g2 := F0 m 116 ls [(va_rf o78)]) rfl ?_
                  rcases o78 with _ | d80
                  · have hl : lv_has ls 7 [(6, .null), (5, .null), (4, .ref (itlm i2)), (3, .int (nI i2)), (2, .ref d1), (1, .ref d0), (0, .ref pq)] := hl
                    refine W.eq (g2 := F0 m 116 ls [.null]) rfl ?_
                    refine lv_ifnonnullN hx hb dX9_judgeMethods_116 ?_
                    refine lv_aload_n hx hb dX9_judgeMethods_119 rfl (lv_at hl 6 rfl) ?_
                    refine lv_bipush (v := 8) hx hb dX9_judgeMethods_120 (by decide) ?_
                    refine lv_aload_n hx hb dX9_judgeMethods_122 rfl (lv_at hl 5 rfl) ?_
                    refine p_get (v := .int (K67.2.1 17 d0)) (C := RX2) (Tc := TX2) (N := 13) (ci := 2) hx hb hq pin_wsX20 hown hE hP hO (by rw [((LgK.T hlg70 d0).trans hd0)]; decide) (rep_4 ((LgK.T hlg70 d0).trans hd0)) rfl 2 (by decide) (hq _ pw_1114) (fun _ h9 => h9) rfl dX9_judgeMethods_123 ?_
                    have hO : OKP G h0 a (upd (upd F 2 (nI sz)) 2 (nI sz)) R Z B J K67 w := hO.to rfl
                    obtain ⟨qr84, hqr85⟩ := p_recv hO (by rw [((LgK.T hlg70 pq).trans hp1)]; decide) (rep_7 ((LgK.T hlg70 pq).trans hp1))
                    refine pc_V0 (G := G) (As := [.int 8, .int (K67.2.1 17 d0)]) (rest := []) hx hb hml hown hq hE hX pX0_al hP hD hS hA hl.1 (G_report l G h0 a (upd F 2 (nI sz)) R Z B J K67 w pq dr ml nd nm cp it s9 8 (K67.2.1 17 d0) sz g (by omega) (LgK.wp hlg70 hwp) (LgK.ps hlg70 hps) hO) (gV pw_1096 pw_1097 pw_1098 pw_106 pw_1084) hV_X9_report qr84 6 hqr85 rfl rfl rfl (Nat.le_of_ble_eq_true rfl) dX9_judgeMethods_126 ⟨Nat.le_of_ble_eq_true rfl, Nat.le_of_ble_eq_true rfl⟩ ⟨Nat.le_of_ble_eq_true rfl, Nat.le_of_ble_eq_true rfl⟩ (fun v83 u81 H locs hw82 hP hD hS => ?_)
                    obtain ⟨w, K86⟩ := u81
                    obtain ⟨hw82, h87, h88, hO⟩ := hw82
                    have h87 : LgK K67 K86 pq := h87
                    have h88 : RpQ 8 K86 pq := h88
                    obtain rfl : v83 = none := hw82
                    have hO : OKP G h0 a (upd F 2 (nI sz)) R Z B J K86 w := hO.to rfl
                    refine W.widen (k := 0) (n := 0) (Nat.le_of_ble_eq_true rfl) (Nat.le_of_ble_eq_true rfl) ?_
                    refine W.eq (g2 := F0 m 129 ls []) rfl ?_
                    have hlg89 : LgK K K86 pq := LgK.trans hlg70 h87
                    refine lv_iinc (v := (nI (i2 + 1))) (lv' := [(3, .int (nI (i2 + 1))), (6, .null), (5, .null), (4, .ref (itlm i2)), (2, .ref d1), (1, .ref d0), (0, .ref pq)]) hx hb dX9_judgeMethods_129 hl (k := 3) rfl (nI_1 i2) (by decide) rfl (fun ls hl => ?_)
                    refine lv_goto (tgt := 2) hx hb dX9_judgeMethods_132 (by decide) ?_
                    have hO : OKP G h0 a (upd F 2 (nI sz)) R Z B J K86 w := hO.to rfl
                    exact ih_2 (i2 + 1) K86 _ _ _ _ (by omega) (by omega) hlg89 hP hD hS hO (lv_sub hl [0, 4, 5, 6] rfl)
                  · have hl : lv_has ls 7 [(6, .null), (5, .null), (4, .ref (itlm i2)), (3, .int (nI i2)), (2, .ref d1), (1, .ref d0), (0, .ref pq)] := hl
                    refine W.eq (g2 := F0 m 116 ls [.ref d80]) rfl ?_
                    have hf90 : K.1 d80 = 3 := (LgK.T hlg70 d80).symm.trans (h79 d80 rfl)
                    refine lv_ifnonnull (tgt := 129) hx hb dX9_judgeMethods_116 (by decide) ?_
                    refine lv_iinc (v := (nI (i2 + 1))) (lv' := [(3, .int (nI (i2 + 1))), (6, .null), (5, .null), (4, .ref (itlm i2)), (2, .ref d1), (1, .ref d0), (0, .ref pq)]) hx hb dX9_judgeMethods_129 hl (k := 3) rfl (nI_1 i2) (by decide) rfl (fun ls hl => ?_)
                    refine lv_goto (tgt := 2) hx hb dX9_judgeMethods_132 (by decide) ?_
                    have hO : OKP G h0 a (upd F 2 (nI sz)) R Z B J K67 w := hO.to rfl
                    exact ih_2 (i2 + 1) K67 _ _ _ _ (by omega) (by omega) hlg70 hP hD hS hO (lv_sub hl [0, 4, 5, 6] rfl)
          · have hl : lv_has ls 7 [(5, .null), (4, .ref (itlm i2)), (3, .int (nI i2)), (2, .ref d1), (1, .ref d0), (0, .ref pq)] := hl
            refine W.eq (g2 := F0 m 52 ls [.ref d31]) rfl ?_
            have hf91 : K.1 d31 = 3 := (LgK.T hlg2 d31).symm.trans (h30 d31 rfl)
            refine lv_goto (tgt := 57) hx hb dX9_judgeMethods_52 (by decide) ?_
            refine lv_astore (lv' := [(6, .ref d31), (5, .null), (4, .ref (itlm i2)), (3, .int (nI i2)), (2, .ref d1), (1, .ref d0), (0, .ref pq)]) hx hb dX9_judgeMethods_57 hl (by decide) rfl (fun ls hl => ?_)
            refine lv_aload_n hx hb dX9_judgeMethods_59 rfl (lv_at hl 6 rfl) ?_
            refine lv_aload hx hb dX9_judgeMethods_60 (lv_at hl 2 rfl) ?_
            refine lv_aload hx hb dX9_judgeMethods_62 (lv_at hl 0 rfl) ?_
            have hO : OKP G h0 a (upd (upd F 2 (nI sz)) 2 (nI sz)) R Z B J K2 w := hO.to rfl
            obtain ⟨qr95, hqr96⟩ := p_recv hO (by rw [((LgK.T hlg2 pq).trans hp1)]; decide) (rep_7 ((LgK.T hlg2 pq).trans hp1))
            refine pc_V0 (G := G) (As := [.ref (itlm i2), .ref d31]) (rest := []) hx hb hml hown hq hE hX pX0_al hP hD hS hA hl.1 (G_oneSig l G h0 a (upd F 2 (nI sz)) R Z B J K2 w pq dr ml nd (itlm i2) sz d31 g (LgK.ps hlg2 hps).1 (by omega) ((LgK.T hlg2 (itlm i2)).trans hf15) ((LgK.T hlg2 d31).trans hf91) (LgK.wp hlg2 hwp) hO) (gV pw_1151 pw_1152 pw_1153 pw_106 pw_1147) hV_X9_haveOneSignature qr95 6 hqr96 rfl rfl rfl (Nat.le_of_ble_eq_true rfl) dX9_judgeMethods_64 ⟨Nat.le_of_ble_eq_true rfl, Nat.le_of_ble_eq_true rfl⟩ ⟨Nat.le_of_ble_eq_true rfl, Nat.le_of_ble_eq_true rfl⟩ (fun v94 u92 H locs hw93 hP hD hS => ?_)
            obtain ⟨w, r97⟩ := u92
            obtain ⟨hw93, h98, hO⟩ := hw93
            have h98 : r97 ≤ 1 := h98
            obtain rfl : v94 = some (.int (nI r97)) := hw93
            have hO : OKP G h0 a (upd F 2 (nI sz)) R Z B J K2 w := hO.to rfl
            refine W.widen (k := 0) (n := 0) (Nat.le_of_ble_eq_true rfl) (Nat.le_of_ble_eq_true rfl) ?_
            refine W.eq (g2 := F0 m 67 ls [.int (nI r97)]) rfl ?_
            refine lv_if_ne (tgt := 93) hx hb dX9_judgeMethods_67 (by decide) (fun c99 => ?_) (fun c99 => ?_)
            · have n100 : ¬ (r97 = 0) := fun h9 => c99 ((nI_eq (a := r97) (b := 0) (by omega) (by omega)).mpr h9)
              refine lv_aload_n hx hb dX9_judgeMethods_93 rfl (lv_at hl 4 rfl) ?_
              refine p_get (v := .int (K2.2.1 18 d1)) (C := RX2) (Tc := TX2) (N := 13) (ci := 2) hx hb hq pin_wsX20 hown hE hP hO (by rw [((LgK.T hlg2 d1).trans hd1)]; decide) (rep_4 ((LgK.T hlg2 d1).trans hd1)) rfl 3 (by decide) (hq _ pw_1101) (fun _ h9 => h9) rfl dX9_judgeMethods_94 ?_
              refine lv_if_eq (tgt := 129) hx hb dX9_judgeMethods_97 (by decide) (fun c101 => ?_) (fun c101 => ?_)
              · refine lv_iinc (v := (nI (i2 + 1))) (lv' := [(3, .int (nI (i2 + 1))), (6, .ref d31), (5, .null), (4, .ref (itlm i2)), (2, .ref d1), (1, .ref d0), (0, .ref pq)]) hx hb dX9_judgeMethods_129 hl (k := 3) rfl (nI_1 i2) (by decide) rfl (fun ls hl => ?_)
                refine lv_goto (tgt := 2) hx hb dX9_judgeMethods_132 (by decide) ?_
                have hO : OKP G h0 a (upd F 2 (nI sz)) R Z B J K2 w := hO.to rfl
                exact ih_2 (i2 + 1) K2 _ _ _ _ (by omega) (by omega) hlg2 hP hD hS hO (lv_sub hl [0, 4, 5, 6] rfl)
              · refine lv_aload_n hx hb dX9_judgeMethods_100 rfl (lv_at hl 5 rfl) ?_
                refine p_get (v := .int (K2.2.1 18 d0)) (C := RX2) (Tc := TX2) (N := 13) (ci := 2) hx hb hq pin_wsX20 hown hE hP hO (by rw [((LgK.T hlg2 d0).trans hd0)]; decide) (rep_4 ((LgK.T hlg2 d0).trans hd0)) rfl 3 (by decide) (hq _ pw_1101) (fun _ h9 => h9) rfl dX9_judgeMethods_101 ?_
                refine lv_if_ne (tgt := 129) hx hb dX9_judgeMethods_104 (by decide) (fun c102 => ?_) (fun c102 => ?_)
                · refine lv_iinc (v := (nI (i2 + 1))) (lv' := [(3, .int (nI (i2 + 1))), (6, .ref d31), (5, .null), (4, .ref (itlm i2)), (2, .ref d1), (1, .ref d0), (0, .ref pq)]) hx hb dX9_judgeMethods_129 hl (k := 3) rfl (nI_1 i2) (by decide) rfl (fun ls hl => ?_)
                  refine lv_goto (tgt := 2) hx hb dX9_judgeMethods_132 (by decide) ?_
                  have hO : OKP G h0 a (upd F 2 (nI sz)) R Z B J K2 w := hO.to rfl
                  exact ih_2 (i2 + 1) K2 _ _ _ _ (by omega) (by omega) hlg2 hP hD hS hO (lv_sub hl [0, 4, 5, 6] rfl)
                · refine lv_aload_n hx hb dX9_judgeMethods_107 rfl (lv_at hl 5 rfl) ?_
                  refine lv_aload hx hb dX9_judgeMethods_108 (lv_at hl 2 rfl) ?_
                  refine p_get (v := .int (K2.2.1 6 (itlm i2))) (C := RX6) (Tc := TX6) (N := 12) (ci := 12) hx hb hq pin_wsX60 hown hE hP hO (by rw [((LgK.T hlg2 (itlm i2)).trans hf15)]; decide) (rep_3 ((LgK.T hlg2 (itlm i2)).trans hf15)) rfl 1 (by decide) (hq _ pw_1094) (fun _ h9 => h9) rfl dX9_judgeMethods_110 ?_
                  have hO : OKP G h0 a (upd F 2 (nI sz)) R Z B J K2 w := hO.to rfl
                  obtain ⟨qr106, hqr107⟩ := p_recv hO (by rw [((LgK.T hlg2 d0).trans hd0)]; decide) (rep_4 ((LgK.T hlg2 d0).trans hd0))
                  refine pc_V0 (G := G) (As := [.int (K2.2.1 6 (itlm i2))]) (rest := []) hx hb hml hown hq hE hX pX0_al hP hD hS hA hl.1 (O_nearest l G h0 a (upd F 2 (nI sz)) R Z B J K2 w d0 (K2.2.1 6 (itlm i2)) g rk ((LgK.T hlg2 d0).trans hd0) (LgK.wp hlg2 hwp) (LgK.rko hlg2 hrk) hO) (gV pw_1154 pw_222 pw_223 pw_146 pw_154) hV_X2_nearest qr106 2 hqr107 rfl rfl rfl (Nat.le_of_ble_eq_true rfl) dX9_judgeMethods_113 ⟨Nat.le_of_ble_eq_true rfl, Nat.le_of_ble_eq_true rfl⟩ ⟨Nat.le_of_ble_eq_true rfl, Nat.le_of_ble_eq_true rfl⟩ (fun v105 u103 H locs hw104 hP hD hS => ?_)
                  obtain ⟨w, o108⟩ := u103
                  obtain ⟨hw104, h109, hO⟩ := hw104
                  have h109 : MoN K2 o108 := h109
                  obtain rfl : v105 = some ((va_rf o108)) := hw104
                  have hO : OKP G h0 a (upd F 2 (nI sz)) R Z B J K2 w := hO.to rfl
                  refine W.widen (k := 0) (n := 0) (Nat.le_of_ble_eq_true rfl) (Nat.le_of_ble_eq_true rfl) ?_
                  refine W.eq (g2 := F0 m 116 ls [(va_rf o108)]) rfl ?_
                  rcases o108 with _ | d110
                  · have hl : lv_has ls 7 [(6, .ref d31), (5, .null), (4, .ref (itlm i2)), (3, .int (nI i2)), (2, .ref d1), (1, .ref d0), (0, .ref pq)] := hl
                    refine W.eq (g2 := F0 m 116 ls [.null]) rfl ?_
                    refine lv_ifnonnullN hx hb dX9_judgeMethods_116 ?_
                    refine lv_aload_n hx hb dX9_judgeMethods_119 rfl (lv_at hl 6 rfl) ?_
                    refine lv_bipush (v := 8) hx hb dX9_judgeMethods_120 (by decide) ?_
                    refine lv_aload_n hx hb dX9_judgeMethods_122 rfl (lv_at hl 5 rfl) ?_
                    refine p_get (v := .int (K2.2.1 17 d0)) (C := RX2) (Tc := TX2) (N := 13) (ci := 2) hx hb hq pin_wsX20 hown hE hP hO (by rw [((LgK.T hlg2 d0).trans hd0)]; decide) (rep_4 ((LgK.T hlg2 d0).trans hd0)) rfl 2 (by decide) (hq _ pw_1114) (fun _ h9 => h9) rfl dX9_judgeMethods_123 ?_
                    have hO : OKP G h0 a (upd (upd F 2 (nI sz)) 2 (nI sz)) R Z B J K2 w := hO.to rfl
                    obtain ⟨qr114, hqr115⟩ := p_recv hO (by rw [((LgK.T hlg2 pq).trans hp1)]; decide) (rep_7 ((LgK.T hlg2 pq).trans hp1))
                    refine pc_V0 (G := G) (As := [.int 8, .int (K2.2.1 17 d0)]) (rest := []) hx hb hml hown hq hE hX pX0_al hP hD hS hA hl.1 (G_report l G h0 a (upd F 2 (nI sz)) R Z B J K2 w pq dr ml nd nm cp it s9 8 (K2.2.1 17 d0) sz g (by omega) (LgK.wp hlg2 hwp) (LgK.ps hlg2 hps) hO) (gV pw_1096 pw_1097 pw_1098 pw_106 pw_1084) hV_X9_report qr114 6 hqr115 rfl rfl rfl (Nat.le_of_ble_eq_true rfl) dX9_judgeMethods_126 ⟨Nat.le_of_ble_eq_true rfl, Nat.le_of_ble_eq_true rfl⟩ ⟨Nat.le_of_ble_eq_true rfl, Nat.le_of_ble_eq_true rfl⟩ (fun v113 u111 H locs hw112 hP hD hS => ?_)
                    obtain ⟨w, K116⟩ := u111
                    obtain ⟨hw112, h117, h118, hO⟩ := hw112
                    have h117 : LgK K2 K116 pq := h117
                    have h118 : RpQ 8 K116 pq := h118
                    obtain rfl : v113 = none := hw112
                    have hO : OKP G h0 a (upd F 2 (nI sz)) R Z B J K116 w := hO.to rfl
                    refine W.widen (k := 0) (n := 0) (Nat.le_of_ble_eq_true rfl) (Nat.le_of_ble_eq_true rfl) ?_
                    refine W.eq (g2 := F0 m 129 ls []) rfl ?_
                    have hlg119 : LgK K K116 pq := LgK.trans hlg2 h117
                    refine lv_iinc (v := (nI (i2 + 1))) (lv' := [(3, .int (nI (i2 + 1))), (6, .ref d31), (5, .null), (4, .ref (itlm i2)), (2, .ref d1), (1, .ref d0), (0, .ref pq)]) hx hb dX9_judgeMethods_129 hl (k := 3) rfl (nI_1 i2) (by decide) rfl (fun ls hl => ?_)
                    refine lv_goto (tgt := 2) hx hb dX9_judgeMethods_132 (by decide) ?_
                    have hO : OKP G h0 a (upd F 2 (nI sz)) R Z B J K116 w := hO.to rfl
                    exact ih_2 (i2 + 1) K116 _ _ _ _ (by omega) (by omega) hlg119 hP hD hS hO (lv_sub hl [0, 4, 5, 6] rfl)
                  · have hl : lv_has ls 7 [(6, .ref d31), (5, .null), (4, .ref (itlm i2)), (3, .int (nI i2)), (2, .ref d1), (1, .ref d0), (0, .ref pq)] := hl
                    refine W.eq (g2 := F0 m 116 ls [.ref d110]) rfl ?_
                    have hf120 : K.1 d110 = 3 := (LgK.T hlg2 d110).symm.trans (h109 d110 rfl)
                    refine lv_ifnonnull (tgt := 129) hx hb dX9_judgeMethods_116 (by decide) ?_
                    refine lv_iinc (v := (nI (i2 + 1))) (lv' := [(3, .int (nI (i2 + 1))), (6, .ref d31), (5, .null), (4, .ref (itlm i2)), (2, .ref d1), (1, .ref d0), (0, .ref pq)]) hx hb dX9_judgeMethods_129 hl (k := 3) rfl (nI_1 i2) (by decide) rfl (fun ls hl => ?_)
                    refine lv_goto (tgt := 2) hx hb dX9_judgeMethods_132 (by decide) ?_
                    have hO : OKP G h0 a (upd F 2 (nI sz)) R Z B J K2 w := hO.to rfl
                    exact ih_2 (i2 + 1) K2 _ _ _ _ (by omega) (by omega) hlg2 hP hD hS hO (lv_sub hl [0, 4, 5, 6] rfl)
            · have n121 : r97 = 0 := (nI_eq (a := r97) (b := 0) (by omega) (by omega)).mp c99
              refine lv_aload_n hx hb dX9_judgeMethods_70 rfl (lv_at hl 6 rfl) ?_
              refine lv_bipush (v := 7) hx hb dX9_judgeMethods_71 (by decide) ?_
              refine lv_aloadN hx hb dX9_judgeMethods_73 (lv_at hl 1 rfl) ?_
              refine lv_ifnonnullN hx hb dX9_judgeMethods_75 ?_
              refine lv_aload_n hx hb dX9_judgeMethods_78 rfl (lv_at hl 5 rfl) ?_
              refine p_get (v := .int (K2.2.1 17 d0)) (C := RX2) (Tc := TX2) (N := 13) (ci := 2) hx hb hq pin_wsX20 hown hE hP hO (by rw [((LgK.T hlg2 d0).trans hd0)]; decide) (rep_4 ((LgK.T hlg2 d0).trans hd0)) rfl 2 (by decide) (hq _ pw_1114) (fun _ h9 => h9) rfl dX9_judgeMethods_79 ?_
              refine lv_goto (tgt := 90) hx hb dX9_judgeMethods_82 (by decide) ?_
              have hO : OKP G h0 a (upd (upd F 2 (nI sz)) 2 (nI sz)) R Z B J K2 w := hO.to rfl
              obtain ⟨qr125, hqr126⟩ := p_recv hO (by rw [((LgK.T hlg2 pq).trans hp1)]; decide) (rep_7 ((LgK.T hlg2 pq).trans hp1))
              refine pc_V0 (G := G) (As := [.int 7, .int (K2.2.1 17 d0)]) (rest := []) hx hb hml hown hq hE hX pX0_al hP hD hS hA hl.1 (G_report l G h0 a (upd F 2 (nI sz)) R Z B J K2 w pq dr ml nd nm cp it s9 7 (K2.2.1 17 d0) sz g (by omega) (LgK.wp hlg2 hwp) (LgK.ps hlg2 hps) hO) (gV pw_1096 pw_1097 pw_1098 pw_106 pw_1084) hV_X9_report qr125 6 hqr126 rfl rfl rfl (Nat.le_of_ble_eq_true rfl) dX9_judgeMethods_90 ⟨Nat.le_of_ble_eq_true rfl, Nat.le_of_ble_eq_true rfl⟩ ⟨Nat.le_of_ble_eq_true rfl, Nat.le_of_ble_eq_true rfl⟩ (fun v124 u122 H locs hw123 hP hD hS => ?_)
              obtain ⟨w, K127⟩ := u122
              obtain ⟨hw123, h128, h129, hO⟩ := hw123
              have h128 : LgK K2 K127 pq := h128
              have h129 : RpQ 7 K127 pq := h129
              obtain rfl : v124 = none := hw123
              have hO : OKP G h0 a (upd F 2 (nI sz)) R Z B J K127 w := hO.to rfl
              refine W.widen (k := 0) (n := 0) (Nat.le_of_ble_eq_true rfl) (Nat.le_of_ble_eq_true rfl) ?_
              refine W.eq (g2 := F0 m 93 ls []) rfl ?_
              have hlg130 : LgK K K127 pq := LgK.trans hlg2 h128
              refine lv_aload_n hx hb dX9_judgeMethods_93 rfl (lv_at hl 4 rfl) ?_
              refine p_get (v := .int (K127.2.1 18 d1)) (C := RX2) (Tc := TX2) (N := 13) (ci := 2) hx hb hq pin_wsX20 hown hE hP hO (by rw [((LgK.T hlg130 d1).trans hd1)]; decide) (rep_4 ((LgK.T hlg130 d1).trans hd1)) rfl 3 (by decide) (hq _ pw_1101) (fun _ h9 => h9) rfl dX9_judgeMethods_94 ?_
              refine lv_if_eq (tgt := 129) hx hb dX9_judgeMethods_97 (by decide) (fun c131 => ?_) (fun c131 => ?_)
              · refine lv_iinc (v := (nI (i2 + 1))) (lv' := [(3, .int (nI (i2 + 1))), (6, .ref d31), (5, .null), (4, .ref (itlm i2)), (2, .ref d1), (1, .ref d0), (0, .ref pq)]) hx hb dX9_judgeMethods_129 hl (k := 3) rfl (nI_1 i2) (by decide) rfl (fun ls hl => ?_)
                refine lv_goto (tgt := 2) hx hb dX9_judgeMethods_132 (by decide) ?_
                have hO : OKP G h0 a (upd F 2 (nI sz)) R Z B J K127 w := hO.to rfl
                exact ih_2 (i2 + 1) K127 _ _ _ _ (by omega) (by omega) hlg130 hP hD hS hO (lv_sub hl [0, 4, 5, 6] rfl)
              · refine lv_aload_n hx hb dX9_judgeMethods_100 rfl (lv_at hl 5 rfl) ?_
                refine p_get (v := .int (K127.2.1 18 d0)) (C := RX2) (Tc := TX2) (N := 13) (ci := 2) hx hb hq pin_wsX20 hown hE hP hO (by rw [((LgK.T hlg130 d0).trans hd0)]; decide) (rep_4 ((LgK.T hlg130 d0).trans hd0)) rfl 3 (by decide) (hq _ pw_1101) (fun _ h9 => h9) rfl dX9_judgeMethods_101 ?_
                refine lv_if_ne (tgt := 129) hx hb dX9_judgeMethods_104 (by decide) (fun c132 => ?_) (fun c132 => ?_)
                · refine lv_iinc (v := (nI (i2 + 1))) (lv' := [(3, .int (nI (i2 + 1))), (6, .ref d31), (5, .null), (4, .ref (itlm i2)), (2, .ref d1), (1, .ref d0), (0, .ref pq)]) hx hb dX9_judgeMethods_129 hl (k := 3) rfl (nI_1 i2) (by decide) rfl (fun ls hl => ?_)
                  refine lv_goto (tgt := 2) hx hb dX9_judgeMethods_132 (by decide) ?_
                  have hO : OKP G h0 a (upd F 2 (nI sz)) R Z B J K127 w := hO.to rfl
                  exact ih_2 (i2 + 1) K127 _ _ _ _ (by omega) (by omega) hlg130 hP hD hS hO (lv_sub hl [0, 4, 5, 6] rfl)
                · refine lv_aload_n hx hb dX9_judgeMethods_107 rfl (lv_at hl 5 rfl) ?_
                  refine lv_aload hx hb dX9_judgeMethods_108 (lv_at hl 2 rfl) ?_
                  refine p_get (v := .int (K127.2.1 6 (itlm i2))) (C := RX6) (Tc := TX6) (N := 12) (ci := 12) hx hb hq pin_wsX60 hown hE hP hO (by rw [((LgK.T hlg130 (itlm i2)).trans hf15)]; decide) (rep_3 ((LgK.T hlg130 (itlm i2)).trans hf15)) rfl 1 (by decide) (hq _ pw_1094) (fun _ h9 => h9) rfl dX9_judgeMethods_110 ?_
                  have hO : OKP G h0 a (upd F 2 (nI sz)) R Z B J K127 w := hO.to rfl
                  obtain ⟨qr136, hqr137⟩ := p_recv hO (by rw [((LgK.T hlg130 d0).trans hd0)]; decide) (rep_4 ((LgK.T hlg130 d0).trans hd0))
                  refine pc_V0 (G := G) (As := [.int (K127.2.1 6 (itlm i2))]) (rest := []) hx hb hml hown hq hE hX pX0_al hP hD hS hA hl.1 (O_nearest l G h0 a (upd F 2 (nI sz)) R Z B J K127 w d0 (K127.2.1 6 (itlm i2)) g rk ((LgK.T hlg130 d0).trans hd0) (LgK.wp hlg130 hwp) (LgK.rko hlg130 hrk) hO) (gV pw_1154 pw_222 pw_223 pw_146 pw_154) hV_X2_nearest qr136 2 hqr137 rfl rfl rfl (Nat.le_of_ble_eq_true rfl) dX9_judgeMethods_113 ⟨Nat.le_of_ble_eq_true rfl, Nat.le_of_ble_eq_true rfl⟩ ⟨Nat.le_of_ble_eq_true rfl, Nat.le_of_ble_eq_true rfl⟩ (fun v135 u133 H locs hw134 hP hD hS => ?_)
                  obtain ⟨w, o138⟩ := u133
                  obtain ⟨hw134, h139, hO⟩ := hw134
                  have h139 : MoN K127 o138 := h139
                  obtain rfl : v135 = some ((va_rf o138)) := hw134
                  have hO : OKP G h0 a (upd F 2 (nI sz)) R Z B J K127 w := hO.to rfl
                  refine W.widen (k := 0) (n := 0) (Nat.le_of_ble_eq_true rfl) (Nat.le_of_ble_eq_true rfl) ?_
                  refine W.eq (g2 := F0 m 116 ls [(va_rf o138)]) rfl ?_
                  rcases o138 with _ | d140
                  · have hl : lv_has ls 7 [(6, .ref d31), (5, .null), (4, .ref (itlm i2)), (3, .int (nI i2)), (2, .ref d1), (1, .ref d0), (0, .ref pq)] := hl
                    refine W.eq (g2 := F0 m 116 ls [.null]) rfl ?_
                    refine lv_ifnonnullN hx hb dX9_judgeMethods_116 ?_
                    refine lv_aload_n hx hb dX9_judgeMethods_119 rfl (lv_at hl 6 rfl) ?_
                    refine lv_bipush (v := 8) hx hb dX9_judgeMethods_120 (by decide) ?_
                    refine lv_aload_n hx hb dX9_judgeMethods_122 rfl (lv_at hl 5 rfl) ?_
                    refine p_get (v := .int (K127.2.1 17 d0)) (C := RX2) (Tc := TX2) (N := 13) (ci := 2) hx hb hq pin_wsX20 hown hE hP hO (by rw [((LgK.T hlg130 d0).trans hd0)]; decide) (rep_4 ((LgK.T hlg130 d0).trans hd0)) rfl 2 (by decide) (hq _ pw_1114) (fun _ h9 => h9) rfl dX9_judgeMethods_123 ?_
                    have hO : OKP G h0 a (upd (upd F 2 (nI sz)) 2 (nI sz)) R Z B J K127 w := hO.to rfl
                    obtain ⟨qr144, hqr145⟩ := p_recv hO (by rw [((LgK.T hlg130 pq).trans hp1)]; decide) (rep_7 ((LgK.T hlg130 pq).trans hp1))
                    refine pc_V0 (G := G) (As := [.int 8, .int (K127.2.1 17 d0)]) (rest := []) hx hb hml hown hq hE hX pX0_al hP hD hS hA hl.1 (G_report l G h0 a (upd F 2 (nI sz)) R Z B J K127 w pq dr ml nd nm cp it s9 8 (K127.2.1 17 d0) sz g (by omega) (LgK.wp hlg130 hwp) (LgK.ps hlg130 hps) hO) (gV pw_1096 pw_1097 pw_1098 pw_106 pw_1084) hV_X9_report qr144 6 hqr145 rfl rfl rfl (Nat.le_of_ble_eq_true rfl) dX9_judgeMethods_126 ⟨Nat.le_of_ble_eq_true rfl, Nat.le_of_ble_eq_true rfl⟩ ⟨Nat.le_of_ble_eq_true rfl, Nat.le_of_ble_eq_true rfl⟩ (fun v143 u141 H locs hw142 hP hD hS => ?_)
                    obtain ⟨w, K146⟩ := u141
                    obtain ⟨hw142, h147, h148, hO⟩ := hw142
                    have h147 : LgK K127 K146 pq := h147
                    have h148 : RpQ 8 K146 pq := h148
                    obtain rfl : v143 = none := hw142
                    have hO : OKP G h0 a (upd F 2 (nI sz)) R Z B J K146 w := hO.to rfl
                    refine W.widen (k := 0) (n := 0) (Nat.le_of_ble_eq_true rfl) (Nat.le_of_ble_eq_true rfl) ?_
                    refine W.eq (g2 := F0 m 129 ls []) rfl ?_
                    have hlg149 : LgK K K146 pq := LgK.trans hlg130 h147
                    refine lv_iinc (v := (nI (i2 + 1))) (lv' := [(3, .int (nI (i2 + 1))), (6, .ref d31), (5, .null), (4, .ref (itlm i2)), (2, .ref d1), (1, .ref d0), (0, .ref pq)]) hx hb dX9_judgeMethods_129 hl (k := 3) rfl (nI_1 i2) (by decide) rfl (fun ls hl => ?_)
                    refine lv_goto (tgt := 2) hx hb dX9_judgeMethods_132 (by decide) ?_
                    have hO : OKP G h0 a (upd F 2 (nI sz)) R Z B J K146 w := hO.to rfl
                    exact ih_2 (i2 + 1) K146 _ _ _ _ (by omega) (by omega) hlg149 hP hD hS hO (lv_sub hl [0, 4, 5, 6] rfl)
                  · have hl : lv_has ls 7 [(6, .ref d31), (5, .null), (4, .ref (itlm i2)), (3, .int (nI i2)), (2, .ref d1), (1, .ref d0), (0, .ref pq)] := hl
                    refine W.eq (g2 := F0 m 116 ls [.ref d140]) rfl ?_
                    have hf150 : K.1 d140 = 3 := (LgK.T hlg130 d140).symm.trans (h139 d140 rfl)
                    refine lv_ifnonnull (tgt := 129) hx hb dX9_judgeMethods_116 (by decide) ?_
                    refine lv_iinc (v := (nI (i2 + 1))) (lv' := [(3, .int (nI (i2 + 1))), (6, .ref d31), (5, .null), (4, .ref (itlm i2)), (2, .ref d1), (1, .ref d0), (0, .ref pq)]) hx hb dX9_judgeMethods_129 hl (k := 3) rfl (nI_1 i2) (by decide) rfl (fun ls hl => ?_)
                    refine lv_goto (tgt := 2) hx hb dX9_judgeMethods_132 (by decide) ?_
                    have hO : OKP G h0 a (upd F 2 (nI sz)) R Z B J K127 w := hO.to rfl
                    exact ih_2 (i2 + 1) K127 _ _ _ _ (by omega) (by omega) hlg130 hP hD hS hO (lv_sub hl [0, 4, 5, 6] rfl)
        · have hl : lv_has ls 7 [(4, .ref (itlm i2)), (3, .int (nI i2)), (2, .ref d1), (1, .ref d0), (0, .ref pq)] := hl
          refine W.eq (g2 := F0 m 35 ls [.ref d23]) rfl ?_
          have hf151 : K.1 d23 = 3 := (LgK.T hlg2 d23).symm.trans (h22 d23 rfl)
          refine lv_astore (lv' := [(5, .ref d23), (4, .ref (itlm i2)), (3, .int (nI i2)), (2, .ref d1), (1, .ref d0), (0, .ref pq)]) hx hb dX9_judgeMethods_35 hl (by decide) rfl (fun ls hl => ?_)
          refine lv_aload hx hb dX9_judgeMethods_37 (lv_at hl 0 rfl) ?_
          refine lv_ifnonnull (tgt := 55) hx hb dX9_judgeMethods_39 (by decide) ?_
          refine lv_aload hx hb dX9_judgeMethods_55 (lv_at hl 0 rfl) ?_
          refine lv_astore (lv' := [(6, .ref d23), (5, .ref d23), (4, .ref (itlm i2)), (3, .int (nI i2)), (2, .ref d1), (1, .ref d0), (0, .ref pq)]) hx hb dX9_judgeMethods_57 hl (by decide) rfl (fun ls hl => ?_)
          refine lv_aload_n hx hb dX9_judgeMethods_59 rfl (lv_at hl 6 rfl) ?_
          refine lv_aload hx hb dX9_judgeMethods_60 (lv_at hl 2 rfl) ?_
          refine lv_aload hx hb dX9_judgeMethods_62 (lv_at hl 0 rfl) ?_
          have hO : OKP G h0 a (upd (upd F 2 (nI sz)) 2 (nI sz)) R Z B J K2 w := hO.to rfl
          obtain ⟨qr155, hqr156⟩ := p_recv hO (by rw [((LgK.T hlg2 pq).trans hp1)]; decide) (rep_7 ((LgK.T hlg2 pq).trans hp1))
          refine pc_V0 (G := G) (As := [.ref (itlm i2), .ref d23]) (rest := []) hx hb hml hown hq hE hX pX0_al hP hD hS hA hl.1 (G_oneSig l G h0 a (upd F 2 (nI sz)) R Z B J K2 w pq dr ml nd (itlm i2) sz d23 g (LgK.ps hlg2 hps).1 (by omega) ((LgK.T hlg2 (itlm i2)).trans hf15) ((LgK.T hlg2 d23).trans hf151) (LgK.wp hlg2 hwp) hO) (gV pw_1151 pw_1152 pw_1153 pw_106 pw_1147) hV_X9_haveOneSignature qr155 6 hqr156 rfl rfl rfl (Nat.le_of_ble_eq_true rfl) dX9_judgeMethods_64 ⟨Nat.le_of_ble_eq_true rfl, Nat.le_of_ble_eq_true rfl⟩ ⟨Nat.le_of_ble_eq_true rfl, Nat.le_of_ble_eq_true rfl⟩ (fun v154 u152 H locs hw153 hP hD hS => ?_)
          obtain ⟨w, r157⟩ := u152
          obtain ⟨hw153, h158, hO⟩ := hw153
          have h158 : r157 ≤ 1 := h158
          obtain rfl : v154 = some (.int (nI r157)) := hw153
          have hO : OKP G h0 a (upd F 2 (nI sz)) R Z B J K2 w := hO.to rfl
          refine W.widen (k := 0) (n := 0) (Nat.le_of_ble_eq_true rfl) (Nat.le_of_ble_eq_true rfl) ?_
          refine W.eq (g2 := F0 m 67 ls [.int (nI r157)]) rfl ?_
          refine lv_if_ne (tgt := 93) hx hb dX9_judgeMethods_67 (by decide) (fun c159 => ?_) (fun c159 => ?_)
          · have n160 : ¬ (r157 = 0) := fun h9 => c159 ((nI_eq (a := r157) (b := 0) (by omega) (by omega)).mpr h9)
            refine lv_aload_n hx hb dX9_judgeMethods_93 rfl (lv_at hl 4 rfl) ?_
            refine p_get (v := .int (K2.2.1 18 d1)) (C := RX2) (Tc := TX2) (N := 13) (ci := 2) hx hb hq pin_wsX20 hown hE hP hO (by rw [((LgK.T hlg2 d1).trans hd1)]; decide) (rep_4 ((LgK.T hlg2 d1).trans hd1)) rfl 3 (by decide) (hq _ pw_1101) (fun _ h9 => h9) rfl dX9_judgeMethods_94 ?_
            refine lv_if_eq (tgt := 129) hx hb dX9_judgeMethods_97 (by decide) (fun c161 => ?_) (fun c161 => ?_)
            · refine lv_iinc (v := (nI (i2 + 1))) (lv' := [(3, .int (nI (i2 + 1))), (6, .ref d23), (5, .ref d23), (4, .ref (itlm i2)), (2, .ref d1), (1, .ref d0), (0, .ref pq)]) hx hb dX9_judgeMethods_129 hl (k := 3) rfl (nI_1 i2) (by decide) rfl (fun ls hl => ?_)
              refine lv_goto (tgt := 2) hx hb dX9_judgeMethods_132 (by decide) ?_
              have hO : OKP G h0 a (upd F 2 (nI sz)) R Z B J K2 w := hO.to rfl
              exact ih_2 (i2 + 1) K2 _ _ _ _ (by omega) (by omega) hlg2 hP hD hS hO (lv_sub hl [0, 4, 5, 6] rfl)
            · refine lv_aload_n hx hb dX9_judgeMethods_100 rfl (lv_at hl 5 rfl) ?_
              refine p_get (v := .int (K2.2.1 18 d0)) (C := RX2) (Tc := TX2) (N := 13) (ci := 2) hx hb hq pin_wsX20 hown hE hP hO (by rw [((LgK.T hlg2 d0).trans hd0)]; decide) (rep_4 ((LgK.T hlg2 d0).trans hd0)) rfl 3 (by decide) (hq _ pw_1101) (fun _ h9 => h9) rfl dX9_judgeMethods_101 ?_
              refine lv_if_ne (tgt := 129) hx hb dX9_judgeMethods_104 (by decide) (fun c162 => ?_) (fun c162 => ?_)
              · refine lv_iinc (v := (nI (i2 + 1))) (lv' := [(3, .int (nI (i2 + 1))), (6, .ref d23), (5, .ref d23), (4, .ref (itlm i2)), (2, .ref d1), (1, .ref d0), (0, .ref pq)]) hx hb dX9_judgeMethods_129 hl (k := 3) rfl (nI_1 i2) (by decide) rfl (fun ls hl => ?_)
                refine lv_goto (tgt := 2) hx hb dX9_judgeMethods_132 (by decide) ?_
                have hO : OKP G h0 a (upd F 2 (nI sz)) R Z B J K2 w := hO.to rfl
                exact ih_2 (i2 + 1) K2 _ _ _ _ (by omega) (by omega) hlg2 hP hD hS hO (lv_sub hl [0, 4, 5, 6] rfl)
              · refine lv_aload_n hx hb dX9_judgeMethods_107 rfl (lv_at hl 5 rfl) ?_
                refine lv_aload hx hb dX9_judgeMethods_108 (lv_at hl 2 rfl) ?_
                refine p_get (v := .int (K2.2.1 6 (itlm i2))) (C := RX6) (Tc := TX6) (N := 12) (ci := 12) hx hb hq pin_wsX60 hown hE hP hO (by rw [((LgK.T hlg2 (itlm i2)).trans hf15)]; decide) (rep_3 ((LgK.T hlg2 (itlm i2)).trans hf15)) rfl 1 (by decide) (hq _ pw_1094) (fun _ h9 => h9) rfl dX9_judgeMethods_110 ?_
                have hO : OKP G h0 a (upd F 2 (nI sz)) R Z B J K2 w := hO.to rfl
                obtain ⟨qr166, hqr167⟩ := p_recv hO (by rw [((LgK.T hlg2 d0).trans hd0)]; decide) (rep_4 ((LgK.T hlg2 d0).trans hd0))
                refine pc_V0 (G := G) (As := [.int (K2.2.1 6 (itlm i2))]) (rest := []) hx hb hml hown hq hE hX pX0_al hP hD hS hA hl.1 (O_nearest l G h0 a (upd F 2 (nI sz)) R Z B J K2 w d0 (K2.2.1 6 (itlm i2)) g rk ((LgK.T hlg2 d0).trans hd0) (LgK.wp hlg2 hwp) (LgK.rko hlg2 hrk) hO) (gV pw_1154 pw_222 pw_223 pw_146 pw_154) hV_X2_nearest qr166 2 hqr167 rfl rfl rfl (Nat.le_of_ble_eq_true rfl) dX9_judgeMethods_113 ⟨Nat.le_of_ble_eq_true rfl, Nat.le_of_ble_eq_true rfl⟩ ⟨Nat.le_of_ble_eq_true rfl, Nat.le_of_ble_eq_true rfl⟩ (fun v165 u163 H locs hw164 hP hD hS => ?_)
                obtain ⟨w, o168⟩ := u163
                obtain ⟨hw164, h169, hO⟩ := hw164
                have h169 : MoN K2 o168 := h169
                obtain rfl : v165 = some ((va_rf o168)) := hw164
                have hO : OKP G h0 a (upd F 2 (nI sz)) R Z B J K2 w := hO.to rfl
                refine W.widen (k := 0) (n := 0) (Nat.le_of_ble_eq_true rfl) (Nat.le_of_ble_eq_true rfl) ?_
                refine W.eq (g2 := F0 m 116 ls [(va_rf o168)]) rfl ?_
                rcases o168 with _ | d170
                · have hl : lv_has ls 7 [(6, .ref d23), (5, .ref d23), (4, .ref (itlm i2)), (3, .int (nI i2)), (2, .ref d1), (1, .ref d0), (0, .ref pq)] := hl
                  refine W.eq (g2 := F0 m 116 ls [.null]) rfl ?_
                  refine lv_ifnonnullN hx hb dX9_judgeMethods_116 ?_
                  refine lv_aload_n hx hb dX9_judgeMethods_119 rfl (lv_at hl 6 rfl) ?_
                  refine lv_bipush (v := 8) hx hb dX9_judgeMethods_120 (by decide) ?_
                  refine lv_aload_n hx hb dX9_judgeMethods_122 rfl (lv_at hl 5 rfl) ?_
                  refine p_get (v := .int (K2.2.1 17 d0)) (C := RX2) (Tc := TX2) (N := 13) (ci := 2) hx hb hq pin_wsX20 hown hE hP hO (by rw [((LgK.T hlg2 d0).trans hd0)]; decide) (rep_4 ((LgK.T hlg2 d0).trans hd0)) rfl 2 (by decide) (hq _ pw_1114) (fun _ h9 => h9) rfl dX9_judgeMethods_123 ?_
                  have hO : OKP G h0 a (upd (upd F 2 (nI sz)) 2 (nI sz)) R Z B J K2 w := hO.to rfl
                  obtain ⟨qr174, hqr175⟩ := p_recv hO (by rw [((LgK.T hlg2 pq).trans hp1)]; decide) (rep_7 ((LgK.T hlg2 pq).trans hp1))
                  refine pc_V0 (G := G) (As := [.int 8, .int (K2.2.1 17 d0)]) (rest := []) hx hb hml hown hq hE hX pX0_al hP hD hS hA hl.1 (G_report l G h0 a (upd F 2 (nI sz)) R Z B J K2 w pq dr ml nd nm cp it s9 8 (K2.2.1 17 d0) sz g (by omega) (LgK.wp hlg2 hwp) (LgK.ps hlg2 hps) hO) (gV pw_1096 pw_1097 pw_1098 pw_106 pw_1084) hV_X9_report qr174 6 hqr175 rfl rfl rfl (Nat.le_of_ble_eq_true rfl) dX9_judgeMethods_126 ⟨Nat.le_of_ble_eq_true rfl, Nat.le_of_ble_eq_true rfl⟩ ⟨Nat.le_of_ble_eq_true rfl, Nat.le_of_ble_eq_true rfl⟩ (fun v173 u171 H locs hw172 hP hD hS => ?_)
                  obtain ⟨w, K176⟩ := u171
                  obtain ⟨hw172, h177, h178, hO⟩ := hw172
                  have h177 : LgK K2 K176 pq := h177
                  have h178 : RpQ 8 K176 pq := h178
                  obtain rfl : v173 = none := hw172
                  have hO : OKP G h0 a (upd F 2 (nI sz)) R Z B J K176 w := hO.to rfl
                  refine W.widen (k := 0) (n := 0) (Nat.le_of_ble_eq_true rfl) (Nat.le_of_ble_eq_true rfl) ?_
                  refine W.eq (g2 := F0 m 129 ls []) rfl ?_
                  have hlg179 : LgK K K176 pq := LgK.trans hlg2 h177
                  refine lv_iinc (v := (nI (i2 + 1))) (lv' := [(3, .int (nI (i2 + 1))), (6, .ref d23), (5, .ref d23), (4, .ref (itlm i2)), (2, .ref d1), (1, .ref d0), (0, .ref pq)]) hx hb dX9_judgeMethods_129 hl (k := 3) rfl (nI_1 i2) (by decide) rfl (fun ls hl => ?_)
                  refine lv_goto (tgt := 2) hx hb dX9_judgeMethods_132 (by decide) ?_
                  have hO : OKP G h0 a (upd F 2 (nI sz)) R Z B J K176 w := hO.to rfl
                  exact ih_2 (i2 + 1) K176 _ _ _ _ (by omega) (by omega) hlg179 hP hD hS hO (lv_sub hl [0, 4, 5, 6] rfl)
                · have hl : lv_has ls 7 [(6, .ref d23), (5, .ref d23), (4, .ref (itlm i2)), (3, .int (nI i2)), (2, .ref d1), (1, .ref d0), (0, .ref pq)] := hl
                  refine W.eq (g2 := F0 m 116 ls [.ref d170]) rfl ?_
                  have hf180 : K.1 d170 = 3 := (LgK.T hlg2 d170).symm.trans (h169 d170 rfl)
                  refine lv_ifnonnull (tgt := 129) hx hb dX9_judgeMethods_116 (by decide) ?_
                  refine lv_iinc (v := (nI (i2 + 1))) (lv' := [(3, .int (nI (i2 + 1))), (6, .ref d23), (5, .ref d23), (4, .ref (itlm i2)), (2, .ref d1), (1, .ref d0), (0, .ref pq)]) hx hb dX9_judgeMethods_129 hl (k := 3) rfl (nI_1 i2) (by decide) rfl (fun ls hl => ?_)
                  refine lv_goto (tgt := 2) hx hb dX9_judgeMethods_132 (by decide) ?_
                  have hO : OKP G h0 a (upd F 2 (nI sz)) R Z B J K2 w := hO.to rfl
                  exact ih_2 (i2 + 1) K2 _ _ _ _ (by omega) (by omega) hlg2 hP hD hS hO (lv_sub hl [0, 4, 5, 6] rfl)
          · have n181 : r157 = 0 := (nI_eq (a := r157) (b := 0) (by omega) (by omega)).mp c159
            refine lv_aload_n hx hb dX9_judgeMethods_70 rfl (lv_at hl 6 rfl) ?_
            refine lv_bipush (v := 7) hx hb dX9_judgeMethods_71 (by decide) ?_
            refine lv_aload hx hb dX9_judgeMethods_73 (lv_at hl 1 rfl) ?_
            refine lv_ifnonnull (tgt := 85) hx hb dX9_judgeMethods_75 (by decide) ?_
            refine lv_aload hx hb dX9_judgeMethods_85 (lv_at hl 1 rfl) ?_
            refine p_get (v := .int (K2.2.1 7 d23)) (C := RX6) (Tc := TX6) (N := 12) (ci := 12) hx hb hq pin_wsX60 hown hE hP hO (by rw [((LgK.T hlg2 d23).trans hf151)]; decide) (rep_3 ((LgK.T hlg2 d23).trans hf151)) rfl 2 (by decide) (hq _ pw_1095) (fun _ h9 => h9) rfl dX9_judgeMethods_87 ?_
            have hO : OKP G h0 a (upd (upd F 2 (nI sz)) 2 (nI sz)) R Z B J K2 w := hO.to rfl
            obtain ⟨qr185, hqr186⟩ := p_recv hO (by rw [((LgK.T hlg2 pq).trans hp1)]; decide) (rep_7 ((LgK.T hlg2 pq).trans hp1))
            refine pc_V0 (G := G) (As := [.int 7, .int (K2.2.1 7 d23)]) (rest := []) hx hb hml hown hq hE hX pX0_al hP hD hS hA hl.1 (G_report l G h0 a (upd F 2 (nI sz)) R Z B J K2 w pq dr ml nd nm cp it s9 7 (K2.2.1 7 d23) sz g (by omega) (LgK.wp hlg2 hwp) (LgK.ps hlg2 hps) hO) (gV pw_1096 pw_1097 pw_1098 pw_106 pw_1084) hV_X9_report qr185 6 hqr186 rfl rfl rfl (Nat.le_of_ble_eq_true rfl) dX9_judgeMethods_90 ⟨Nat.le_of_ble_eq_true rfl, Nat.le_of_ble_eq_true rfl⟩ ⟨Nat.le_of_ble_eq_true rfl, Nat.le_of_ble_eq_true rfl⟩ (fun v184 u182 H locs hw183 hP hD hS => ?_)
            obtain ⟨w, K187⟩ := u182
            obtain ⟨hw183, h188, h189, hO⟩ := hw183
            have h188 : LgK K2 K187 pq := h188
            have h189 : RpQ 7 K187 pq := h189
            obtain rfl : v184 = none := hw183
            have hO : OKP G h0 a (upd F 2 (nI sz)) R Z B J K187 w := hO.to rfl
            refine W.widen (k := 0) (n := 0) (Nat.le_of_ble_eq_true rfl) (Nat.le_of_ble_eq_true rfl) ?_
            refine W.eq (g2 := F0 m 93 ls []) rfl ?_
            have hlg190 : LgK K K187 pq := LgK.trans hlg2 h188
            refine lv_aload_n hx hb dX9_judgeMethods_93 rfl (lv_at hl 4 rfl) ?_
            refine p_get (v := .int (K187.2.1 18 d1)) (C := RX2) (Tc := TX2) (N := 13) (ci := 2) hx hb hq pin_wsX20 hown hE hP hO (by rw [((LgK.T hlg190 d1).trans hd1)]; decide) (rep_4 ((LgK.T hlg190 d1).trans hd1)) rfl 3 (by decide) (hq _ pw_1101) (fun _ h9 => h9) rfl dX9_judgeMethods_94 ?_
            refine lv_if_eq (tgt := 129) hx hb dX9_judgeMethods_97 (by decide) (fun c191 => ?_) (fun c191 => ?_)
            · refine lv_iinc (v := (nI (i2 + 1))) (lv' := [(3, .int (nI (i2 + 1))), (6, .ref d23), (5, .ref d23), (4, .ref (itlm i2)), (2, .ref d1), (1, .ref d0), (0, .ref pq)]) hx hb dX9_judgeMethods_129 hl (k := 3) rfl (nI_1 i2) (by decide) rfl (fun ls hl => ?_)
              refine lv_goto (tgt := 2) hx hb dX9_judgeMethods_132 (by decide) ?_
              have hO : OKP G h0 a (upd F 2 (nI sz)) R Z B J K187 w := hO.to rfl
              exact ih_2 (i2 + 1) K187 _ _ _ _ (by omega) (by omega) hlg190 hP hD hS hO (lv_sub hl [0, 4, 5, 6] rfl)
            · refine lv_aload_n hx hb dX9_judgeMethods_100 rfl (lv_at hl 5 rfl) ?_
              refine p_get (v := .int (K187.2.1 18 d0)) (C := RX2) (Tc := TX2) (N := 13) (ci := 2) hx hb hq pin_wsX20 hown hE hP hO (by rw [((LgK.T hlg190 d0).trans hd0)]; decide) (rep_4 ((LgK.T hlg190 d0).trans hd0)) rfl 3 (by decide) (hq _ pw_1101) (fun _ h9 => h9) rfl dX9_judgeMethods_101 ?_
              refine lv_if_ne (tgt := 129) hx hb dX9_judgeMethods_104 (by decide) (fun c192 => ?_) (fun c192 => ?_)
              · refine lv_iinc (v := (nI (i2 + 1))) (lv' := [(3, .int (nI (i2 + 1))), (6, .ref d23), (5, .ref d23), (4, .ref (itlm i2)), (2, .ref d1), (1, .ref d0), (0, .ref pq)]) hx hb dX9_judgeMethods_129 hl (k := 3) rfl (nI_1 i2) (by decide) rfl (fun ls hl => ?_)
                refine lv_goto (tgt := 2) hx hb dX9_judgeMethods_132 (by decide) ?_
                have hO : OKP G h0 a (upd F 2 (nI sz)) R Z B J K187 w := hO.to rfl
                exact ih_2 (i2 + 1) K187 _ _ _ _ (by omega) (by omega) hlg190 hP hD hS hO (lv_sub hl [0, 4, 5, 6] rfl)
              · refine lv_aload_n hx hb dX9_judgeMethods_107 rfl (lv_at hl 5 rfl) ?_
                refine lv_aload hx hb dX9_judgeMethods_108 (lv_at hl 2 rfl) ?_
                refine p_get (v := .int (K187.2.1 6 (itlm i2))) (C := RX6) (Tc := TX6) (N := 12) (ci := 12) hx hb hq pin_wsX60 hown hE hP hO (by rw [((LgK.T hlg190 (itlm i2)).trans hf15)]; decide) (rep_3 ((LgK.T hlg190 (itlm i2)).trans hf15)) rfl 1 (by decide) (hq _ pw_1094) (fun _ h9 => h9) rfl dX9_judgeMethods_110 ?_
                have hO : OKP G h0 a (upd F 2 (nI sz)) R Z B J K187 w := hO.to rfl
                obtain ⟨qr196, hqr197⟩ := p_recv hO (by rw [((LgK.T hlg190 d0).trans hd0)]; decide) (rep_4 ((LgK.T hlg190 d0).trans hd0))
                refine pc_V0 (G := G) (As := [.int (K187.2.1 6 (itlm i2))]) (rest := []) hx hb hml hown hq hE hX pX0_al hP hD hS hA hl.1 (O_nearest l G h0 a (upd F 2 (nI sz)) R Z B J K187 w d0 (K187.2.1 6 (itlm i2)) g rk ((LgK.T hlg190 d0).trans hd0) (LgK.wp hlg190 hwp) (LgK.rko hlg190 hrk) hO) (gV pw_1154 pw_222 pw_223 pw_146 pw_154) hV_X2_nearest qr196 2 hqr197 rfl rfl rfl (Nat.le_of_ble_eq_true rfl) dX9_judgeMethods_113 ⟨Nat.le_of_ble_eq_true rfl, Nat.le_of_ble_eq_true rfl⟩ ⟨Nat.le_of_ble_eq_true rfl, Nat.le_of_ble_eq_true rfl⟩ (fun v195 u193 H locs hw194 hP hD hS => ?_)
                obtain ⟨w, o198⟩ := u193
                obtain ⟨hw194, h199, hO⟩ := hw194
                have h199 : MoN K187 o198 := h199
                obtain rfl : v195 = some ((va_rf o198)) := hw194
                have hO : OKP G h0 a (upd F 2 (nI sz)) R Z B J K187 w := hO.to rfl
                refine W.widen (k := 0) (n := 0) (Nat.le_of_ble_eq_true rfl) (Nat.le_of_ble_eq_true rfl) ?_
                refine W.eq (g2 := F0 m 116 ls [(va_rf o198)]) rfl ?_
                rcases o198 with _ | d200
                · have hl : lv_has ls 7 [(6, .ref d23), (5, .ref d23), (4, .ref (itlm i2)), (3, .int (nI i2)), (2, .ref d1), (1, .ref d0), (0, .ref pq)] := hl
                  refine W.eq (g2 := F0 m 116 ls [.null]) rfl ?_
                  refine lv_ifnonnullN hx hb dX9_judgeMethods_116 ?_
                  refine lv_aload_n hx hb dX9_judgeMethods_119 rfl (lv_at hl 6 rfl) ?_
                  refine lv_bipush (v := 8) hx hb dX9_judgeMethods_120 (by decide) ?_
                  refine lv_aload_n hx hb dX9_judgeMethods_122 rfl (lv_at hl 5 rfl) ?_
                  refine p_get (v := .int (K187.2.1 17 d0)) (C := RX2) (Tc := TX2) (N := 13) (ci := 2) hx hb hq pin_wsX20 hown hE hP hO (by rw [((LgK.T hlg190 d0).trans hd0)]; decide) (rep_4 ((LgK.T hlg190 d0).trans hd0)) rfl 2 (by decide) (hq _ pw_1114) (fun _ h9 => h9) rfl dX9_judgeMethods_123 ?_
                  have hO : OKP G h0 a (upd (upd F 2 (nI sz)) 2 (nI sz)) R Z B J K187 w := hO.to rfl
                  obtain ⟨qr204, hqr205⟩ := p_recv hO (by rw [((LgK.T hlg190 pq).trans hp1)]; decide) (rep_7 ((LgK.T hlg190 pq).trans hp1))
                  refine pc_V0 (G := G) (As := [.int 8, .int (K187.2.1 17 d0)]) (rest := []) hx hb hml hown hq hE hX pX0_al hP hD hS hA hl.1 (G_report l G h0 a (upd F 2 (nI sz)) R Z B J K187 w pq dr ml nd nm cp it s9 8 (K187.2.1 17 d0) sz g (by omega) (LgK.wp hlg190 hwp) (LgK.ps hlg190 hps) hO) (gV pw_1096 pw_1097 pw_1098 pw_106 pw_1084) hV_X9_report qr204 6 hqr205 rfl rfl rfl (Nat.le_of_ble_eq_true rfl) dX9_judgeMethods_126 ⟨Nat.le_of_ble_eq_true rfl, Nat.le_of_ble_eq_true rfl⟩ ⟨Nat.le_of_ble_eq_true rfl, Nat.le_of_ble_eq_true rfl⟩ (fun v203 u201 H locs hw202 hP hD hS => ?_)
                  obtain ⟨w, K206⟩ := u201
                  obtain ⟨hw202, h207, h208, hO⟩ := hw202
                  have h207 : LgK K187 K206 pq := h207
                  have h208 : RpQ 8 K206 pq := h208
                  obtain rfl : v203 = none := hw202
                  have hO : OKP G h0 a (upd F 2 (nI sz)) R Z B J K206 w := hO.to rfl
                  refine W.widen (k := 0) (n := 0) (Nat.le_of_ble_eq_true rfl) (Nat.le_of_ble_eq_true rfl) ?_
                  refine W.eq (g2 := F0 m 129 ls []) rfl ?_
                  have hlg209 : LgK K K206 pq := LgK.trans hlg190 h207
                  refine lv_iinc (v := (nI (i2 + 1))) (lv' := [(3, .int (nI (i2 + 1))), (6, .ref d23), (5, .ref d23), (4, .ref (itlm i2)), (2, .ref d1), (1, .ref d0), (0, .ref pq)]) hx hb dX9_judgeMethods_129 hl (k := 3) rfl (nI_1 i2) (by decide) rfl (fun ls hl => ?_)
                  refine lv_goto (tgt := 2) hx hb dX9_judgeMethods_132 (by decide) ?_
                  have hO : OKP G h0 a (upd F 2 (nI sz)) R Z B J K206 w := hO.to rfl
                  exact ih_2 (i2 + 1) K206 _ _ _ _ (by omega) (by omega) hlg209 hP hD hS hO (lv_sub hl [0, 4, 5, 6] rfl)
                · have hl : lv_has ls 7 [(6, .ref d23), (5, .ref d23), (4, .ref (itlm i2)), (3, .int (nI i2)), (2, .ref d1), (1, .ref d0), (0, .ref pq)] := hl
                  refine W.eq (g2 := F0 m 116 ls [.ref d200]) rfl ?_
                  have hf210 : K.1 d200 = 3 := (LgK.T hlg190 d200).symm.trans (h199 d200 rfl)
                  refine lv_ifnonnull (tgt := 129) hx hb dX9_judgeMethods_116 (by decide) ?_
                  refine lv_iinc (v := (nI (i2 + 1))) (lv' := [(3, .int (nI (i2 + 1))), (6, .ref d23), (5, .ref d23), (4, .ref (itlm i2)), (2, .ref d1), (1, .ref d0), (0, .ref pq)]) hx hb dX9_judgeMethods_129 hl (k := 3) rfl (nI_1 i2) (by decide) rfl (fun ls hl => ?_)
                  refine lv_goto (tgt := 2) hx hb dX9_judgeMethods_132 (by decide) ?_
                  have hO : OKP G h0 a (upd F 2 (nI sz)) R Z B J K187 w := hO.to rfl
                  exact ih_2 (i2 + 1) K187 _ _ _ _ (by omega) (by omega) hlg190 hP hD hS hO (lv_sub hl [0, 4, 5, 6] rfl)
  have hO : OKP G h0 a (upd F 2 (nI sz)) R Z B J K w := hO.to rfl
  exact loop_2 (nlm + 1) 0 K _ _ _ _ (by omega) (by omega) LgK.rfl hP hD hS hO (lv_sub hl [0, 3, 2, 1] rfl)
theorem dX9_thirdRound_0 : decode cX9_thirdRound 0 = .ok (.bipush 7, 2) := by decide +kernel
theorem dX9_thirdRound_2 : decode cX9_thirdRound 2 = .ok (.istore_n 1, 1) := by decide +kernel
theorem dX9_thirdRound_3 : decode cX9_thirdRound 3 = .ok (.iload_n 1, 1) := by decide +kernel
theorem dX9_thirdRound_4 : decode cX9_thirdRound 4 = .ok (.aload_n 0, 1) := by decide +kernel
theorem dX9_thirdRound_5 : decode cX9_thirdRound 5 = .ok (.getfield 33, 3) := by decide +kernel
theorem dX9_thirdRound_8 : decode cX9_thirdRound 8 = .ok (.if_icmp .ge 63, 3) := by decide +kernel
theorem dX9_thirdRound_71 : decode cX9_thirdRound 71 = .ok (.aload_n 0, 1) := by decide +kernel
theorem dX9_thirdRound_72 : decode cX9_thirdRound 72 = .ok (.aload_n 0, 1) := by decide +kernel
theorem dX9_thirdRound_73 : decode cX9_thirdRound 73 = .ok (.bipush 36, 2) := by decide +kernel
theorem dX9_thirdRound_75 : decode cX9_thirdRound 75 = .ok (.invokevirtual 116, 3) := by decide +kernel
theorem dX9_thirdRound_78 : decode cX9_thirdRound 78 = .ok (.invokevirtual 160, 3) := by decide +kernel
theorem dX9_thirdRound_81 : decode cX9_thirdRound 81 = .ok (.astore_n 1, 1) := by decide +kernel
theorem dX9_thirdRound_82 : decode cX9_thirdRound 82 = .ok (.aload_n 1, 1) := by decide +kernel
theorem dX9_thirdRound_83 : decode cX9_thirdRound 83 = .ok (.ifnull 10, 3) := by decide +kernel
theorem dX9_thirdRound_93 : decode cX9_thirdRound 93 = .ok (.aconst_null, 1) := by decide +kernel
theorem dX9_thirdRound_94 : decode cX9_thirdRound 94 = .ok (.goto 9, 3) := by decide +kernel
theorem dX9_thirdRound_103 : decode cX9_thirdRound 103 = .ok (.astore_n 2, 1) := by decide +kernel
theorem dX9_thirdRound_104 : decode cX9_thirdRound 104 = .ok (.aload_n 2, 1) := by decide +kernel
theorem dX9_thirdRound_105 : decode cX9_thirdRound 105 = .ok (.ifnull 29, 3) := by decide +kernel
theorem dX9_thirdRound_134 : decode cX9_thirdRound 134 = .ok (.aload_n 0, 1) := by decide +kernel
theorem dX9_thirdRound_135 : decode cX9_thirdRound 135 = .ok (.bipush 9, 2) := by decide +kernel
theorem dX9_thirdRound_137 : decode cX9_thirdRound 137 = .ok (.aload_n 0, 1) := by decide +kernel
theorem dX9_thirdRound_138 : decode cX9_thirdRound 138 = .ok (.getfield 9, 3) := by decide +kernel
theorem dX9_thirdRound_141 : decode cX9_thirdRound 141 = .ok (.getfield 126, 3) := by decide +kernel
theorem dX9_thirdRound_144 : decode cX9_thirdRound 144 = .ok (.invokevirtual 87, 3) := by decide +kernel
theorem dX9_thirdRound_147 : decode cX9_thirdRound 147 = .ok (.return_, 1) := by decide +kernel
theorem dX9_thirdRound_86 : decode cX9_thirdRound 86 = .ok (.aload_n 1, 1) := by decide +kernel
theorem dX9_thirdRound_87 : decode cX9_thirdRound 87 = .ok (.getfield 164, 3) := by decide +kernel
theorem dX9_thirdRound_90 : decode cX9_thirdRound 90 = .ok (.ifCond .eq 7, 3) := by decide +kernel
theorem dX9_thirdRound_97 : decode cX9_thirdRound 97 = .ok (.aload_n 1, 1) := by decide +kernel
theorem dX9_thirdRound_98 : decode cX9_thirdRound 98 = .ok (.bipush 37, 2) := by decide +kernel
theorem dX9_thirdRound_100 : decode cX9_thirdRound 100 = .ok (.invokevirtual 188, 3) := by decide +kernel
theorem dX9_thirdRound_108 : decode cX9_thirdRound 108 = .ok (.aload_n 0, 1) := by decide +kernel
theorem dX9_thirdRound_109 : decode cX9_thirdRound 109 = .ok (.getfield 9, 3) := by decide +kernel
theorem dX9_thirdRound_112 : decode cX9_thirdRound 112 = .ok (.aload_n 2, 1) := by decide +kernel
theorem dX9_thirdRound_113 : decode cX9_thirdRound 113 = .ok (.getfield 191, 3) := by decide +kernel
theorem dX9_thirdRound_116 : decode cX9_thirdRound 116 = .ok (.invokevirtual 194, 3) := by decide +kernel
theorem dX9_thirdRound_119 : decode cX9_thirdRound 119 = .ok (.bipush 60, 2) := by decide +kernel
theorem dX9_thirdRound_121 : decode cX9_thirdRound 121 = .ok (.if_icmp .ne 13, 3) := by decide +kernel
theorem dX9_thirdRound_124 : decode cX9_thirdRound 124 = .ok (.aload_n 2, 1) := by decide +kernel
theorem dX9_thirdRound_125 : decode cX9_thirdRound 125 = .ok (.getfield 197, 3) := by decide +kernel
theorem dX9_thirdRound_128 : decode cX9_thirdRound 128 = .ok (.invokevirtual 45, 3) := by decide +kernel
theorem dX9_thirdRound_131 : decode cX9_thirdRound 131 = .ok (.ifCond .eq 16, 3) := by decide +kernel
theorem dX9_thirdRound_11 : decode cX9_thirdRound 11 = .ok (.aload_n 0, 1) := by decide +kernel
theorem dX9_thirdRound_12 : decode cX9_thirdRound 12 = .ok (.getfield 17, 3) := by decide +kernel
theorem dX9_thirdRound_15 : decode cX9_thirdRound 15 = .ok (.iload_n 1, 1) := by decide +kernel
theorem dX9_thirdRound_16 : decode cX9_thirdRound 16 = .ok (.aaload, 1) := by decide +kernel
theorem dX9_thirdRound_17 : decode cX9_thirdRound 17 = .ok (.astore_n 2, 1) := by decide +kernel
theorem dX9_thirdRound_18 : decode cX9_thirdRound 18 = .ok (.iconst 0, 1) := by decide +kernel
theorem dX9_thirdRound_19 : decode cX9_thirdRound 19 = .ok (.istore_n 3, 1) := by decide +kernel
theorem dX9_thirdRound_20 : decode cX9_thirdRound 20 = .ok (.iload_n 3, 1) := by decide +kernel
theorem dX9_thirdRound_21 : decode cX9_thirdRound 21 = .ok (.aload_n 0, 1) := by decide +kernel
theorem dX9_thirdRound_22 : decode cX9_thirdRound 22 = .ok (.getfield 33, 3) := by decide +kernel
theorem dX9_thirdRound_25 : decode cX9_thirdRound 25 = .ok (.if_icmp .ge 40, 3) := by decide +kernel
theorem dX9_thirdRound_65 : decode cX9_thirdRound 65 = .ok (.iinc 1 1, 3) := by decide +kernel
theorem dX9_thirdRound_68 : decode cX9_thirdRound 68 = .ok (.goto (-65), 3) := by decide +kernel
theorem dX9_thirdRound_28 : decode cX9_thirdRound 28 = .ok (.aload_n 0, 1) := by decide +kernel
theorem dX9_thirdRound_29 : decode cX9_thirdRound 29 = .ok (.iload_n 3, 1) := by decide +kernel
theorem dX9_thirdRound_30 : decode cX9_thirdRound 30 = .ok (.iload_n 1, 1) := by decide +kernel
theorem dX9_thirdRound_31 : decode cX9_thirdRound 31 = .ok (.invokevirtual 65, 3) := by decide +kernel
theorem dX9_thirdRound_34 : decode cX9_thirdRound 34 = .ok (.ifCond .eq 25, 3) := by decide +kernel
theorem dX9_thirdRound_59 : decode cX9_thirdRound 59 = .ok (.iinc 3 1, 3) := by decide +kernel
theorem dX9_thirdRound_62 : decode cX9_thirdRound 62 = .ok (.goto (-42), 3) := by decide +kernel
theorem dX9_thirdRound_37 : decode cX9_thirdRound 37 = .ok (.aload_n 0, 1) := by decide +kernel
theorem dX9_thirdRound_38 : decode cX9_thirdRound 38 = .ok (.aload_n 2, 1) := by decide +kernel
theorem dX9_thirdRound_39 : decode cX9_thirdRound 39 = .ok (.aload_n 0, 1) := by decide +kernel
theorem dX9_thirdRound_40 : decode cX9_thirdRound 40 = .ok (.getfield 17, 3) := by decide +kernel
theorem dX9_thirdRound_43 : decode cX9_thirdRound 43 = .ok (.iload_n 3, 1) := by decide +kernel
theorem dX9_thirdRound_44 : decode cX9_thirdRound 44 = .ok (.aaload, 1) := by decide +kernel
theorem dX9_thirdRound_45 : decode cX9_thirdRound 45 = .ok (.invokevirtual 181, 3) := by decide +kernel
theorem dX9_thirdRound_48 : decode cX9_thirdRound 48 = .ok (.aload_n 0, 1) := by decide +kernel
theorem dX9_thirdRound_49 : decode cX9_thirdRound 49 = .ok (.aload_n 2, 1) := by decide +kernel
theorem dX9_thirdRound_50 : decode cX9_thirdRound 50 = .ok (.aload_n 0, 1) := by decide +kernel
theorem dX9_thirdRound_51 : decode cX9_thirdRound 51 = .ok (.getfield 17, 3) := by decide +kernel
theorem dX9_thirdRound_54 : decode cX9_thirdRound 54 = .ok (.iload_n 3, 1) := by decide +kernel
theorem dX9_thirdRound_55 : decode cX9_thirdRound 55 = .ok (.aaload, 1) := by decide +kernel
theorem dX9_thirdRound_56 : decode cX9_thirdRound 56 = .ok (.invokevirtual 185, 3) := by decide +kernel
theorem hV_X9_judgeFields : yX9_judgeFields.cls = RX9 ∧ yX9_judgeFields.cls ≠ "java/lang/invoke/MethodHandle" ∧ yX9_judgeFields.cls ≠ "java/lang/invoke/VarHandle" ∧ (parseMethodDescriptor yX9_judgeFields.desc).map (fun d => d.parameters.length) = some 2 := by decide +kernel
theorem hV_X9_judgeMethods : yX9_judgeMethods.cls = RX9 ∧ yX9_judgeMethods.cls ≠ "java/lang/invoke/MethodHandle" ∧ yX9_judgeMethods.cls ≠ "java/lang/invoke/VarHandle" ∧ (parseMethodDescriptor yX9_judgeMethods.desc).map (fun d => d.parameters.length) = some 2 := by decide +kernel
set_option maxHeartbeats 40000000 in
set_option maxRecDepth 100000 in
theorem G_thirdRound (l : Launch) (G : pT) (h0 : Nat) (a : Nat → Nat) (F : Nat → Int32) (R : Nat → Value) (Z : Int64) (B : Nat → Nat → Int32) (J : Nat → Nat → Int64) (K : PK) (w : va_W) (pq : Nat) (dr : Nat) (ml : Nat) (nd : Nat) (nm : Nat) (cp : Nat) (it : Nat → Nat) (s9 : Nat) (sz : Nat) (g : Nat → Nat → Nat) (rk : Nat → Nat) (hsz : sz ≤ 5000) (hwp : WPr G K g) (hps : PgT G K g (a 1) pq dr ml nd nm cp it s9) (hrk : RkO K rk) (hO : OKP G h0 a (upd F 2 (nI sz)) R Z B J K w) : PM l G pX0 yX9_thirdRound cX9_thirdRound 4 none ({ frames := 8, cells := 0, slots := 0, locals := 196 }) [.ref pq] w (fun (v : Option Value) (u : va_W × (PK)) => v = none ∧ (LgK K u.2 pq) ∧ (OKP G h0 a (upd F 2 (nI sz)) R Z B J u.2 u.1)) (fun u => u.1) := by
  intro sz
  refine Met.ofW (cc := cX9_thirdRound) (maxL := 4) (ret := none) (by decide) rfl ?_
  intro p e s m args below meth c s₁ B9 hml hv
  obtain ⟨rfl, hsz, hP, hD0, hE, hX⟩ := hv
  have hx := B9.exec
  have hb := B9.bytes
  have hr := B9.returns
  have hts := atoms_spec (ws := Cond.code yX9_thirdRound cX9_thirdRound 4 none :: pw) B9.pre
  have hq : ∀ w ∈ pw, w.before _ s = true := fun w h => hts w (List.mem_cons_of_mem _ h)
  have hown : s.vm.findClass RX9 = some m.cls := findClass_of_methodNamed B9.named
  have hlocks := B9.notSynchronized
  subst hsz
  have hD := hD0.self (sz := s.heap.size)
  have hA : ∀ q : Nat, s.heap.size ≤ q → va_A w s.heap.size q := fun q h => Or.inr h
  generalize va_A w s.heap.size = A at hD hE hA ⊢
  have hS : va_S A s.heap s.heap [] := va_S.rf
  have hl := lv_entry ([.ref pq]) (n := 4) (Nat.le_of_ble_eq_true rfl)
  rw [lg_entry_eq]
  generalize (lg_sl ([.ref pq]) ++ List.replicate (4 - (lg_sl ([.ref pq])).length) Slot.unset).toArray = ls at hl ⊢
  have hl : lv_has ls 4 [(0, .ref pq)] := hl
  have hp1 := hps.1.1
  have hp2 := hps.1.2.1
  have hp3 := hps.1.2.2.1
  have hp4 := hps.1.2.2.2.1
  have hp5 := hps.1.2.2.2.2.1
  have hp6 := hps.1.2.2.2.2.2.1
  have hp8 := hps.1.2.2.2.2.2.2.2.1
  have hp9 := hps.1.2.2.2.2.2.2.2.2
  refine lv_bipush (v := 7) hx hb dX9_thirdRound_0 (by decide) ?_
  refine lv_istore_n (lv' := [(1, .int 7), (0, .ref pq)]) hx hb dX9_thirdRound_2 rfl hl (by decide) rfl (fun ls hl => ?_)
  have loop_2 : ∀ (n_2 : Nat) (i2 : Nat) (K2 : PK) (H : Heap) (locs : List Loc) (ls : Array Slot) (w : va_W), i2 ≤ nd → nd + 1 ≤ i2 + n_2 → (LgK K K2 pq) → va_P G.1 pCl w H → va_D A w → va_S A s.heap H locs → OKP G h0 a (upd F 2 (nI sz)) R Z B J K2 w → lv_has ls 4 [(1, .int (nI i2)), (0, .ref pq)] → W p l e (headSpec (Cond.code yX9_thirdRound cX9_thirdRound 4 none :: pw) ({ frames := 8, cells := 0, slots := 0, locals := 196 } : Room)).room s m ([.ref pq] : List Value).toArray below meth c H locs 0 0 (MQ below (pQ G A (fun (v : Option Value) (u : va_W × (PK)) => v = none ∧ (LgK K u.2 pq) ∧ (OKP G h0 a (upd F 2 (nI sz)) R Z B J u.2 u.1)) (fun u => u.1)) ([.ref pq] : List Value).toArray s ({ frames := 8, cells := 0, slots := 0, locals := 196 } : Room).cells ({ frames := 8, cells := 0, slots := 0, locals := 196 } : Room).slots A) (F0 m 3 ls []) := by
    intro n_2
    induction n_2 with
    | zero => intro i2 K2 H locs ls w hk_2 hn_2; omega
    | succ n_2 ih_2 =>
      intro i2 K2 H locs ls w hk_2 hn_2 hlg2 hP hD hS hO hl
      refine lv_iload_n hx hb dX9_thirdRound_3 rfl (lv_at hl 0 rfl) ?_
      refine lv_aload_n hx hb dX9_thirdRound_4 rfl (lv_at hl 1 rfl) ?_
      refine p_get (v := .int (nI nd)) (C := RX9) (Tc := TX9) (N := 5) (ci := 6) hx hb hq pin_wsX90 hown hE hP hO (by rw [((LgK.T hlg2 pq).trans hp1)]; decide) (rep_7 ((LgK.T hlg2 pq).trans hp1)) rfl 2 (by decide) (hq _ pw_14) (fun _ h9 => h9) (congrArg (fun z => some (Value.int z)) ((LgK.I hlg2 24 pq (by decide)).trans hp8)) dX9_thirdRound_5 ?_
      refine lv_icmp_ge (tgt := 71) hx hb dX9_thirdRound_8 (by decide) (fun c1 => ?_) (fun c1 => ?_)
      · have n2 : nd ≤ i2 := (nI_leI (a := nd) (b := i2) (by omega) (by omega)).mp c1
        refine lv_aload_n hx hb dX9_thirdRound_71 rfl (lv_at hl 1 rfl) ?_
        refine lv_aload_n hx hb dX9_thirdRound_72 rfl (lv_at hl 1 rfl) ?_
        refine lv_bipush (v := 36) hx hb dX9_thirdRound_73 (by decide) ?_
        have hO : OKP G h0 a (upd F 2 (nI sz)) R Z B J K2 w := hO.to rfl
        obtain ⟨qr6, hqr7⟩ := p_recv hO (by rw [((LgK.T hlg2 pq).trans hp1)]; decide) (rep_7 ((LgK.T hlg2 pq).trans hp1))
        refine pc_V0 (G := G) (As := [.int 36]) (rest := [.ref pq]) hx hb hml hown hq hE hX pX0_al hP hD hS hA hl.1 (G_find l G h0 a (upd F 2 (nI sz)) R Z B J K2 w pq dr ml nd 36 g (LgK.ps hlg2 hps).1 (LgK.ps hlg2 hps).2.1 hO) (gV pw_1102 pw_585 pw_586 pw_106 pw_509) hV_X9_find qr6 6 hqr7 rfl rfl rfl (Nat.le_of_ble_eq_true rfl) dX9_thirdRound_75 ⟨Nat.le_of_ble_eq_true rfl, Nat.le_of_ble_eq_true rfl⟩ ⟨Nat.le_of_ble_eq_true rfl, Nat.le_of_ble_eq_true rfl⟩ (fun v5 u3 H locs hw4 hP hD hS => ?_)
        obtain ⟨w, r8⟩ := u3
        obtain ⟨hw4, h9, hO⟩ := hw4
        have h9 : FnQ r8 nd := h9
        obtain rfl : v5 = some (.int r8) := hw4
        have hO : OKP G h0 a (upd F 2 (nI sz)) R Z B J K2 w := hO.to rfl
        refine W.widen (k := 0) (n := 0) (Nat.le_of_ble_eq_true rfl) (Nat.le_of_ble_eq_true rfl) ?_
        refine W.eq (g2 := F0 m 78 ls [.int r8, .ref pq]) rfl ?_
        have hO : OKP G h0 a (upd F 2 (nI sz)) R Z B J K2 w := hO.to rfl
        obtain ⟨qr13, hqr14⟩ := p_recv hO (by rw [((LgK.T hlg2 pq).trans hp1)]; decide) (rep_7 ((LgK.T hlg2 pq).trans hp1))
        refine pc_V0 (G := G) (As := [.int r8]) (rest := []) hx hb hml hown hq hE hX pX0_al hP hD hS hA hl.1 (G_decl l G h0 a (upd F 2 (nI sz)) R Z B J K2 w pq dr ml nd r8 g (LgK.ps hlg2 hps).1 (LgK.ps hlg2 hps).2.1 hO) (gV pw_1103 pw_182 pw_183 pw_106 pw_13) hV_X9_decl qr13 6 hqr14 rfl rfl rfl (Nat.le_of_ble_eq_true rfl) dX9_thirdRound_78 ⟨Nat.le_of_ble_eq_true rfl, Nat.le_of_ble_eq_true rfl⟩ ⟨Nat.le_of_ble_eq_true rfl, Nat.le_of_ble_eq_true rfl⟩ (fun v12 u10 H locs hw11 hP hD hS => ?_)
        obtain ⟨w, o15⟩ := u10
        obtain ⟨hw11, h16, h17, hO⟩ := hw11
        have h16 : DoN K2 o15 := h16
        have h17 : DoK K2 dr nd r8 o15 := h17
        obtain rfl : v12 = some ((va_rf o15)) := hw11
        have hO : OKP G h0 a (upd F 2 (nI sz)) R Z B J K2 w := hO.to rfl
        refine W.widen (k := 0) (n := 0) (Nat.le_of_ble_eq_true rfl) (Nat.le_of_ble_eq_true rfl) ?_
        refine W.eq (g2 := F0 m 81 ls [(va_rf o15)]) rfl ?_
        rcases o15 with _ | d18
        · have hl : lv_has ls 4 [(1, .int (nI i2)), (0, .ref pq)] := hl
          refine W.eq (g2 := F0 m 81 ls [.null]) rfl ?_
          refine lv_astore_nN (lv' := [(1, .null), (0, .ref pq)]) hx hb dX9_thirdRound_81 rfl hl (by decide) rfl (fun ls hl => ?_)
          refine lv_aload_nN hx hb dX9_thirdRound_82 rfl (lv_at hl 0 rfl) ?_
          refine lv_ifnullN (tgt := 93) hx hb dX9_thirdRound_83 (by decide) ?_
          refine lv_null hx hb dX9_thirdRound_93 ?_
          refine lv_goto (tgt := 103) hx hb dX9_thirdRound_94 (by decide) ?_
          refine lv_astore_nN (lv' := [(2, .null), (1, .null), (0, .ref pq)]) hx hb dX9_thirdRound_103 rfl hl (by decide) rfl (fun ls hl => ?_)
          refine lv_aload_nN hx hb dX9_thirdRound_104 rfl (lv_at hl 0 rfl) ?_
          refine lv_ifnullN (tgt := 134) hx hb dX9_thirdRound_105 (by decide) ?_
          refine lv_aload_n hx hb dX9_thirdRound_134 rfl (lv_at hl 2 rfl) ?_
          refine lv_bipush (v := 9) hx hb dX9_thirdRound_135 (by decide) ?_
          refine lv_aload_n hx hb dX9_thirdRound_137 rfl (lv_at hl 2 rfl) ?_
          refine p_get (v := .ref (a 1)) (C := RX9) (Tc := TX9) (N := 5) (ci := 6) hx hb hq pin_wsX90 hown hE hP hO (by rw [((LgK.T hlg2 pq).trans hp1)]; decide) (rep_7 ((LgK.T hlg2 pq).trans hp1)) rfl 0 (by decide) (hq _ pw_784) (fun _ h9 => h9) (congrArg (fun z => some (va_rf z)) ((LgK.C hlg2 18 pq).trans hp2)) dX9_thirdRound_138 ?_
          refine c_get (v := .int (nI sz)) (C := RX10) (Tc := TX10) (N := 15) (ci := 7) hx hb hq pin_wsX100 hown hE hP hO 2 (sg_2 G h0 a _ _ _ _ _) rfl 8 (by decide) (hq _ pw_1115) (fun _ h9 => h9) rfl dX9_thirdRound_141 ?_
          have hO : OKP G h0 a (upd (upd F 2 (nI sz)) 2 (nI sz)) R Z B J K2 w := hO.to rfl
          obtain ⟨qr22, hqr23⟩ := p_recv hO (by rw [((LgK.T hlg2 pq).trans hp1)]; decide) (rep_7 ((LgK.T hlg2 pq).trans hp1))
          refine pc_V0 (G := G) (As := [.int 9, .int (nI sz)]) (rest := []) hx hb hml hown hq hE hX pX0_al hP hD hS hA hl.1 (G_report l G h0 a (upd F 2 (nI sz)) R Z B J K2 w pq dr ml nd nm cp it s9 9 (nI sz) sz g (by omega) (LgK.wp hlg2 hwp) (LgK.ps hlg2 hps) hO) (gV pw_1096 pw_1097 pw_1098 pw_106 pw_1084) hV_X9_report qr22 6 hqr23 rfl rfl rfl (Nat.le_of_ble_eq_true rfl) dX9_thirdRound_144 ⟨Nat.le_of_ble_eq_true rfl, Nat.le_of_ble_eq_true rfl⟩ ⟨Nat.le_of_ble_eq_true rfl, Nat.le_of_ble_eq_true rfl⟩ (fun v21 u19 H locs hw20 hP hD hS => ?_)
          obtain ⟨w, K24⟩ := u19
          obtain ⟨hw20, h25, h26, hO⟩ := hw20
          have h25 : LgK K2 K24 pq := h25
          have h26 : RpQ 9 K24 pq := h26
          obtain rfl : v21 = none := hw20
          have hO : OKP G h0 a (upd F 2 (nI sz)) R Z B J K24 w := hO.to rfl
          refine W.widen (k := 0) (n := 0) (Nat.le_of_ble_eq_true rfl) (Nat.le_of_ble_eq_true rfl) ?_
          refine W.eq (g2 := F0 m 147 ls []) rfl ?_
          have hlg27 : LgK K K24 pq := LgK.trans hlg2 h25
          have hz28 : LgK K K24 pq := hlg27
          have hO : OKP G h0 a (upd F 2 (nI sz)) R Z B J K24 w := hO.to rfl
          exact W.vret hx hb hr (fun t99 ht99 hW99 => ⟨⟨_, (w, K24), rfl, ⟨rfl, hz28, hO⟩, by rw [ht99]; exact hP, hD⟩, hS.F ht99⟩) hS.2.2 dX9_thirdRound_147
        · have hl : lv_has ls 4 [(1, .int (nI i2)), (0, .ref pq)] := hl
          refine W.eq (g2 := F0 m 81 ls [.ref d18]) rfl ?_
          have hf29 : K.1 d18 = 4 := (LgK.T hlg2 d18).symm.trans (h16 d18 rfl)
          refine lv_astore_n (lv' := [(1, .ref d18), (0, .ref pq)]) hx hb dX9_thirdRound_81 rfl hl (by decide) rfl (fun ls hl => ?_)
          refine lv_aload_n hx hb dX9_thirdRound_82 rfl (lv_at hl 0 rfl) ?_
          refine lv_ifnull hx hb dX9_thirdRound_83 ?_
          refine lv_aload_n hx hb dX9_thirdRound_86 rfl (lv_at hl 0 rfl) ?_
          refine p_get (v := .int (K2.2.1 18 d18)) (C := RX2) (Tc := TX2) (N := 13) (ci := 2) hx hb hq pin_wsX20 hown hE hP hO (by rw [((LgK.T hlg2 d18).trans hf29)]; decide) (rep_4 ((LgK.T hlg2 d18).trans hf29)) rfl 3 (by decide) (hq _ pw_1101) (fun _ h9 => h9) rfl dX9_thirdRound_87 ?_
          refine lv_if_eq (tgt := 97) hx hb dX9_thirdRound_90 (by decide) (fun c30 => ?_) (fun c30 => ?_)
          · refine lv_aload_n hx hb dX9_thirdRound_97 rfl (lv_at hl 0 rfl) ?_
            refine lv_bipush (v := 37) hx hb dX9_thirdRound_98 (by decide) ?_
            have hO : OKP G h0 a (upd F 2 (nI sz)) R Z B J K2 w := hO.to rfl
            obtain ⟨qr34, hqr35⟩ := p_recv hO (by rw [((LgK.T hlg2 d18).trans hf29)]; decide) (rep_4 ((LgK.T hlg2 d18).trans hf29))
            refine pc_V0 (G := G) (As := [.int 37]) (rest := []) hx hb hml hown hq hE hX pX0_al hP hD hS hA hl.1 (O_nearest l G h0 a (upd F 2 (nI sz)) R Z B J K2 w d18 37 g rk ((LgK.T hlg2 d18).trans hf29) (LgK.wp hlg2 hwp) (LgK.rko hlg2 hrk) hO) (gV pw_1154 pw_222 pw_223 pw_146 pw_154) hV_X2_nearest qr34 2 hqr35 rfl rfl rfl (Nat.le_of_ble_eq_true rfl) dX9_thirdRound_100 ⟨Nat.le_of_ble_eq_true rfl, Nat.le_of_ble_eq_true rfl⟩ ⟨Nat.le_of_ble_eq_true rfl, Nat.le_of_ble_eq_true rfl⟩ (fun v33 u31 H locs hw32 hP hD hS => ?_)
            obtain ⟨w, o36⟩ := u31
            obtain ⟨hw32, h37, hO⟩ := hw32
            have h37 : MoN K2 o36 := h37
            obtain rfl : v33 = some ((va_rf o36)) := hw32
            have hO : OKP G h0 a (upd F 2 (nI sz)) R Z B J K2 w := hO.to rfl
            refine W.widen (k := 0) (n := 0) (Nat.le_of_ble_eq_true rfl) (Nat.le_of_ble_eq_true rfl) ?_
            refine W.eq (g2 := F0 m 103 ls [(va_rf o36)]) rfl ?_
            rcases o36 with _ | d38
            · have hl : lv_has ls 4 [(1, .ref d18), (0, .ref pq)] := hl
              refine W.eq (g2 := F0 m 103 ls [.null]) rfl ?_
              refine lv_astore_nN (lv' := [(2, .null), (1, .ref d18), (0, .ref pq)]) hx hb dX9_thirdRound_103 rfl hl (by decide) rfl (fun ls hl => ?_)
              refine lv_aload_nN hx hb dX9_thirdRound_104 rfl (lv_at hl 0 rfl) ?_
              refine lv_ifnullN (tgt := 134) hx hb dX9_thirdRound_105 (by decide) ?_
              refine lv_aload_n hx hb dX9_thirdRound_134 rfl (lv_at hl 2 rfl) ?_
              refine lv_bipush (v := 9) hx hb dX9_thirdRound_135 (by decide) ?_
              refine lv_aload_n hx hb dX9_thirdRound_137 rfl (lv_at hl 2 rfl) ?_
              refine p_get (v := .ref (a 1)) (C := RX9) (Tc := TX9) (N := 5) (ci := 6) hx hb hq pin_wsX90 hown hE hP hO (by rw [((LgK.T hlg2 pq).trans hp1)]; decide) (rep_7 ((LgK.T hlg2 pq).trans hp1)) rfl 0 (by decide) (hq _ pw_784) (fun _ h9 => h9) (congrArg (fun z => some (va_rf z)) ((LgK.C hlg2 18 pq).trans hp2)) dX9_thirdRound_138 ?_
              refine c_get (v := .int (nI sz)) (C := RX10) (Tc := TX10) (N := 15) (ci := 7) hx hb hq pin_wsX100 hown hE hP hO 2 (sg_2 G h0 a _ _ _ _ _) rfl 8 (by decide) (hq _ pw_1115) (fun _ h9 => h9) rfl dX9_thirdRound_141 ?_
              have hO : OKP G h0 a (upd (upd F 2 (nI sz)) 2 (nI sz)) R Z B J K2 w := hO.to rfl
              obtain ⟨qr42, hqr43⟩ := p_recv hO (by rw [((LgK.T hlg2 pq).trans hp1)]; decide) (rep_7 ((LgK.T hlg2 pq).trans hp1))
              refine pc_V0 (G := G) (As := [.int 9, .int (nI sz)]) (rest := []) hx hb hml hown hq hE hX pX0_al hP hD hS hA hl.1 (G_report l G h0 a (upd F 2 (nI sz)) R Z B J K2 w pq dr ml nd nm cp it s9 9 (nI sz) sz g (by omega) (LgK.wp hlg2 hwp) (LgK.ps hlg2 hps) hO) (gV pw_1096 pw_1097 pw_1098 pw_106 pw_1084) hV_X9_report qr42 6 hqr43 rfl rfl rfl (Nat.le_of_ble_eq_true rfl) dX9_thirdRound_144 ⟨Nat.le_of_ble_eq_true rfl, Nat.le_of_ble_eq_true rfl⟩ ⟨Nat.le_of_ble_eq_true rfl, Nat.le_of_ble_eq_true rfl⟩ (fun v41 u39 H locs hw40 hP hD hS => ?_)
              obtain ⟨w, K44⟩ := u39
              obtain ⟨hw40, h45, h46, hO⟩ := hw40
              have h45 : LgK K2 K44 pq := h45
              have h46 : RpQ 9 K44 pq := h46
              obtain rfl : v41 = none := hw40
              have hO : OKP G h0 a (upd F 2 (nI sz)) R Z B J K44 w := hO.to rfl
              refine W.widen (k := 0) (n := 0) (Nat.le_of_ble_eq_true rfl) (Nat.le_of_ble_eq_true rfl) ?_
              refine W.eq (g2 := F0 m 147 ls []) rfl ?_
              have hlg47 : LgK K K44 pq := LgK.trans hlg2 h45
              have hz48 : LgK K K44 pq := hlg47
              have hO : OKP G h0 a (upd F 2 (nI sz)) R Z B J K44 w := hO.to rfl
              exact W.vret hx hb hr (fun t99 ht99 hW99 => ⟨⟨_, (w, K44), rfl, ⟨rfl, hz48, hO⟩, by rw [ht99]; exact hP, hD⟩, hS.F ht99⟩) hS.2.2 dX9_thirdRound_147
            · have hl : lv_has ls 4 [(1, .ref d18), (0, .ref pq)] := hl
              refine W.eq (g2 := F0 m 103 ls [.ref d38]) rfl ?_
              have hf49 : K.1 d38 = 3 := (LgK.T hlg2 d38).symm.trans (h37 d38 rfl)
              obtain ⟨lp, hflp, htlp, hrlp, holp⟩ := (hwp.2.2.2 d38 hf49).1
              obtain ⟨nlp, itlp, cplp, hlclp, hnblp, hcblp⟩ := hwp.2.1 lp htlp
              rw [hrlp] at hlclp hnblp
              have hnclp := hlclp.2.2.1
              have hnblp : nlp ≤ 5000 := hnblp
              have hlclp : LsC G K lp 1 nlp itlp cplp := hlclp
              refine lv_astore_n (lv' := [(2, .ref d38), (1, .ref d18), (0, .ref pq)]) hx hb dX9_thirdRound_103 rfl hl (by decide) rfl (fun ls hl => ?_)
              refine lv_aload_n hx hb dX9_thirdRound_104 rfl (lv_at hl 0 rfl) ?_
              refine lv_ifnull hx hb dX9_thirdRound_105 ?_
              refine lv_aload_n hx hb dX9_thirdRound_108 rfl (lv_at hl 2 rfl) ?_
              refine p_get (v := .ref (a 1)) (C := RX9) (Tc := TX9) (N := 5) (ci := 6) hx hb hq pin_wsX90 hown hE hP hO (by rw [((LgK.T hlg2 pq).trans hp1)]; decide) (rep_7 ((LgK.T hlg2 pq).trans hp1)) rfl 0 (by decide) (hq _ pw_784) (fun _ h9 => h9) (congrArg (fun z => some (va_rf z)) ((LgK.C hlg2 18 pq).trans hp2)) dX9_thirdRound_109 ?_
              refine lv_aload_n hx hb dX9_thirdRound_112 rfl (lv_at hl 0 rfl) ?_
              refine p_get (v := .int (K2.2.1 8 d38)) (C := RX6) (Tc := TX6) (N := 12) (ci := 12) hx hb hq pin_wsX60 hown hE hP hO (by rw [((LgK.T hlg2 d38).trans hf49)]; decide) (rep_3 ((LgK.T hlg2 d38).trans hf49)) rfl 3 (by decide) (hq _ pw_1143) (fun _ h9 => h9) rfl dX9_thirdRound_113 ?_
              have hO : OKW G h0 a (upd (upd F 2 (nI sz)) 2 (nI sz)) R Z B J K2.1 (fun q99 x99 => x99 = rep G a K2 q99) w := hO.to rfl
              obtain ⟨_, qr53, hqr54⟩ := hO.2.1 2 _ (sg_2 G h0 a _ _ _ _ _)
              refine pc_V0 (G := G) (As := [.int (K2.2.1 8 d38)]) (rest := []) hx hb hml hown hq hE hX pX0_al hP hD hS hA hl.1 (K_typeAt l G h0 a (upd F 2 (nI sz)) R Z B J K2.1 (fun q99 x99 => x99 = rep G a K2 q99) w (K2.2.1 8 d38) sz (by omega) hO) (gV pw_1146 pw_93 pw_94 pw_59 pw_36) hV_X10_typeAt qr53 7 hqr54 rfl rfl rfl (Nat.le_of_ble_eq_true rfl) dX9_thirdRound_116 ⟨Nat.le_of_ble_eq_true rfl, Nat.le_of_ble_eq_true rfl⟩ ⟨Nat.le_of_ble_eq_true rfl, Nat.le_of_ble_eq_true rfl⟩ (fun v52 u50 H locs hw51 hP hD hS => ?_)
              obtain ⟨w, r55⟩ := u50
              obtain ⟨hw51, hO⟩ := hw51
              obtain rfl : v52 = some (.int r55) := hw51
              have hO : OKP G h0 a (upd F 2 (nI sz)) R Z B J K2 w := hO.to rfl
              refine W.widen (k := 0) (n := 0) (Nat.le_of_ble_eq_true rfl) (Nat.le_of_ble_eq_true rfl) ?_
              refine W.eq (g2 := F0 m 119 ls [.int r55]) rfl ?_
              refine lv_bipush (v := 60) hx hb dX9_thirdRound_119 (by decide) ?_
              refine lv_icmp_ne (tgt := 134) hx hb dX9_thirdRound_121 (by decide) (fun c56 => ?_) (fun c56 => ?_)
              · refine lv_aload_n hx hb dX9_thirdRound_134 rfl (lv_at hl 2 rfl) ?_
                refine lv_bipush (v := 9) hx hb dX9_thirdRound_135 (by decide) ?_
                refine lv_aload_n hx hb dX9_thirdRound_137 rfl (lv_at hl 2 rfl) ?_
                refine p_get (v := .ref (a 1)) (C := RX9) (Tc := TX9) (N := 5) (ci := 6) hx hb hq pin_wsX90 hown hE hP hO (by rw [((LgK.T hlg2 pq).trans hp1)]; decide) (rep_7 ((LgK.T hlg2 pq).trans hp1)) rfl 0 (by decide) (hq _ pw_784) (fun _ h9 => h9) (congrArg (fun z => some (va_rf z)) ((LgK.C hlg2 18 pq).trans hp2)) dX9_thirdRound_138 ?_
                refine c_get (v := .int (nI sz)) (C := RX10) (Tc := TX10) (N := 15) (ci := 7) hx hb hq pin_wsX100 hown hE hP hO 2 (sg_2 G h0 a _ _ _ _ _) rfl 8 (by decide) (hq _ pw_1115) (fun _ h9 => h9) rfl dX9_thirdRound_141 ?_
                have hO : OKP G h0 a (upd (upd F 2 (nI sz)) 2 (nI sz)) R Z B J K2 w := hO.to rfl
                obtain ⟨qr60, hqr61⟩ := p_recv hO (by rw [((LgK.T hlg2 pq).trans hp1)]; decide) (rep_7 ((LgK.T hlg2 pq).trans hp1))
                refine pc_V0 (G := G) (As := [.int 9, .int (nI sz)]) (rest := []) hx hb hml hown hq hE hX pX0_al hP hD hS hA hl.1 (G_report l G h0 a (upd F 2 (nI sz)) R Z B J K2 w pq dr ml nd nm cp it s9 9 (nI sz) sz g (by omega) (LgK.wp hlg2 hwp) (LgK.ps hlg2 hps) hO) (gV pw_1096 pw_1097 pw_1098 pw_106 pw_1084) hV_X9_report qr60 6 hqr61 rfl rfl rfl (Nat.le_of_ble_eq_true rfl) dX9_thirdRound_144 ⟨Nat.le_of_ble_eq_true rfl, Nat.le_of_ble_eq_true rfl⟩ ⟨Nat.le_of_ble_eq_true rfl, Nat.le_of_ble_eq_true rfl⟩ (fun v59 u57 H locs hw58 hP hD hS => ?_)
                obtain ⟨w, K62⟩ := u57
                obtain ⟨hw58, h63, h64, hO⟩ := hw58
                have h63 : LgK K2 K62 pq := h63
                have h64 : RpQ 9 K62 pq := h64
                obtain rfl : v59 = none := hw58
                have hO : OKP G h0 a (upd F 2 (nI sz)) R Z B J K62 w := hO.to rfl
                refine W.widen (k := 0) (n := 0) (Nat.le_of_ble_eq_true rfl) (Nat.le_of_ble_eq_true rfl) ?_
                refine W.eq (g2 := F0 m 147 ls []) rfl ?_
                have hlg65 : LgK K K62 pq := LgK.trans hlg2 h63
                have hz66 : LgK K K62 pq := hlg65
                have hO : OKP G h0 a (upd F 2 (nI sz)) R Z B J K62 w := hO.to rfl
                exact W.vret hx hb hr (fun t99 ht99 hW99 => ⟨⟨_, (w, K62), rfl, ⟨rfl, hz66, hO⟩, by rw [ht99]; exact hP, hD⟩, hS.F ht99⟩) hS.2.2 dX9_thirdRound_147
              · refine lv_aload_n hx hb dX9_thirdRound_124 rfl (lv_at hl 0 rfl) ?_
                refine p_get (v := .ref lp) (C := RX6) (Tc := TX6) (N := 12) (ci := 12) hx hb hq pin_wsX60 hown hE hP hO (by rw [((LgK.T hlg2 d38).trans hf49)]; decide) (rep_3 ((LgK.T hlg2 d38).trans hf49)) rfl 4 (by decide) (hq _ pw_1144) (fun _ h9 => h9) (congrArg (fun z => some (va_rf z)) ((LgK.C hlg2 6 d38).trans hflp)) dX9_thirdRound_125 ?_
                have hO : OKP G h0 a (upd F 2 (nI sz)) R Z B J K2 w := hO.to rfl
                obtain ⟨qr70, hqr71⟩ := p_recv hO (by rw [((LgK.T hlg2 lp).trans htlp)]; decide) (rep_5 ((LgK.T hlg2 lp).trans htlp))
                refine pc_V0 (G := G) (As := []) (rest := []) hx hb hml hown hq hE hX pX0_al hP hD hS hA hl.1 (L_size l G h0 a (upd F 2 (nI sz)) R Z B J K2 w lp 1 nlp itlp (LgK.ls hlg2 hlclp).ls hO) (gV pw_516 pw_87 pw_88 pw_32 pw_16) hV_Jx4a65c_size_8abf5 qr70 10 hqr71 rfl rfl rfl (Nat.le_of_ble_eq_true rfl) dX9_thirdRound_128 ⟨Nat.le_of_ble_eq_true rfl, Nat.le_of_ble_eq_true rfl⟩ ⟨Nat.le_of_ble_eq_true rfl, Nat.le_of_ble_eq_true rfl⟩ (fun v69 u67 H locs hw68 hP hD hS => ?_)
                obtain ⟨w, _⟩ := u67
                obtain ⟨hw68, hO⟩ := hw68
                obtain rfl : v69 = some (.int (nI nlp)) := hw68
                have hO : OKP G h0 a (upd F 2 (nI sz)) R Z B J K2 w := hO.to rfl
                refine W.widen (k := 0) (n := 0) (Nat.le_of_ble_eq_true rfl) (Nat.le_of_ble_eq_true rfl) ?_
                refine W.eq (g2 := F0 m 131 ls [.int (nI nlp)]) rfl ?_
                refine lv_if_eq (tgt := 147) hx hb dX9_thirdRound_131 (by decide) (fun c72 => ?_) (fun c72 => ?_)
                · have n73 : nlp = 0 := (nI_eq (a := nlp) (b := 0) (by omega) (by omega)).mp c72
                  have hz74 : LgK K K2 pq := hlg2
                  have hO : OKP G h0 a (upd F 2 (nI sz)) R Z B J K2 w := hO.to rfl
                  exact W.vret hx hb hr (fun t99 ht99 hW99 => ⟨⟨_, (w, K2), rfl, ⟨rfl, hz74, hO⟩, by rw [ht99]; exact hP, hD⟩, hS.F ht99⟩) hS.2.2 dX9_thirdRound_147
                · have n75 : ¬ (nlp = 0) := fun h9 => c72 ((nI_eq (a := nlp) (b := 0) (by omega) (by omega)).mpr h9)
                  refine lv_aload_n hx hb dX9_thirdRound_134 rfl (lv_at hl 2 rfl) ?_
                  refine lv_bipush (v := 9) hx hb dX9_thirdRound_135 (by decide) ?_
                  refine lv_aload_n hx hb dX9_thirdRound_137 rfl (lv_at hl 2 rfl) ?_
                  refine p_get (v := .ref (a 1)) (C := RX9) (Tc := TX9) (N := 5) (ci := 6) hx hb hq pin_wsX90 hown hE hP hO (by rw [((LgK.T hlg2 pq).trans hp1)]; decide) (rep_7 ((LgK.T hlg2 pq).trans hp1)) rfl 0 (by decide) (hq _ pw_784) (fun _ h9 => h9) (congrArg (fun z => some (va_rf z)) ((LgK.C hlg2 18 pq).trans hp2)) dX9_thirdRound_138 ?_
                  refine c_get (v := .int (nI sz)) (C := RX10) (Tc := TX10) (N := 15) (ci := 7) hx hb hq pin_wsX100 hown hE hP hO 2 (sg_2 G h0 a _ _ _ _ _) rfl 8 (by decide) (hq _ pw_1115) (fun _ h9 => h9) rfl dX9_thirdRound_141 ?_
                  have hO : OKP G h0 a (upd (upd F 2 (nI sz)) 2 (nI sz)) R Z B J K2 w := hO.to rfl
                  obtain ⟨qr79, hqr80⟩ := p_recv hO (by rw [((LgK.T hlg2 pq).trans hp1)]; decide) (rep_7 ((LgK.T hlg2 pq).trans hp1))
                  refine pc_V0 (G := G) (As := [.int 9, .int (nI sz)]) (rest := []) hx hb hml hown hq hE hX pX0_al hP hD hS hA hl.1 (G_report l G h0 a (upd F 2 (nI sz)) R Z B J K2 w pq dr ml nd nm cp it s9 9 (nI sz) sz g (by omega) (LgK.wp hlg2 hwp) (LgK.ps hlg2 hps) hO) (gV pw_1096 pw_1097 pw_1098 pw_106 pw_1084) hV_X9_report qr79 6 hqr80 rfl rfl rfl (Nat.le_of_ble_eq_true rfl) dX9_thirdRound_144 ⟨Nat.le_of_ble_eq_true rfl, Nat.le_of_ble_eq_true rfl⟩ ⟨Nat.le_of_ble_eq_true rfl, Nat.le_of_ble_eq_true rfl⟩ (fun v78 u76 H locs hw77 hP hD hS => ?_)
                  obtain ⟨w, K81⟩ := u76
                  obtain ⟨hw77, h82, h83, hO⟩ := hw77
                  have h82 : LgK K2 K81 pq := h82
                  have h83 : RpQ 9 K81 pq := h83
                  obtain rfl : v78 = none := hw77
                  have hO : OKP G h0 a (upd F 2 (nI sz)) R Z B J K81 w := hO.to rfl
                  refine W.widen (k := 0) (n := 0) (Nat.le_of_ble_eq_true rfl) (Nat.le_of_ble_eq_true rfl) ?_
                  refine W.eq (g2 := F0 m 147 ls []) rfl ?_
                  have hlg84 : LgK K K81 pq := LgK.trans hlg2 h82
                  have hz85 : LgK K K81 pq := hlg84
                  have hO : OKP G h0 a (upd F 2 (nI sz)) R Z B J K81 w := hO.to rfl
                  exact W.vret hx hb hr (fun t99 ht99 hW99 => ⟨⟨_, (w, K81), rfl, ⟨rfl, hz85, hO⟩, by rw [ht99]; exact hP, hD⟩, hS.F ht99⟩) hS.2.2 dX9_thirdRound_147
          · refine lv_null hx hb dX9_thirdRound_93 ?_
            refine lv_goto (tgt := 103) hx hb dX9_thirdRound_94 (by decide) ?_
            refine lv_astore_nN (lv' := [(2, .null), (1, .ref d18), (0, .ref pq)]) hx hb dX9_thirdRound_103 rfl hl (by decide) rfl (fun ls hl => ?_)
            refine lv_aload_nN hx hb dX9_thirdRound_104 rfl (lv_at hl 0 rfl) ?_
            refine lv_ifnullN (tgt := 134) hx hb dX9_thirdRound_105 (by decide) ?_
            refine lv_aload_n hx hb dX9_thirdRound_134 rfl (lv_at hl 2 rfl) ?_
            refine lv_bipush (v := 9) hx hb dX9_thirdRound_135 (by decide) ?_
            refine lv_aload_n hx hb dX9_thirdRound_137 rfl (lv_at hl 2 rfl) ?_
            refine p_get (v := .ref (a 1)) (C := RX9) (Tc := TX9) (N := 5) (ci := 6) hx hb hq pin_wsX90 hown hE hP hO (by rw [((LgK.T hlg2 pq).trans hp1)]; decide) (rep_7 ((LgK.T hlg2 pq).trans hp1)) rfl 0 (by decide) (hq _ pw_784) (fun _ h9 => h9) (congrArg (fun z => some (va_rf z)) ((LgK.C hlg2 18 pq).trans hp2)) dX9_thirdRound_138 ?_
            refine c_get (v := .int (nI sz)) (C := RX10) (Tc := TX10) (N := 15) (ci := 7) hx hb hq pin_wsX100 hown hE hP hO 2 (sg_2 G h0 a _ _ _ _ _) rfl 8 (by decide) (hq _ pw_1115) (fun _ h9 => h9) rfl dX9_thirdRound_141 ?_
            have hO : OKP G h0 a (upd (upd F 2 (nI sz)) 2 (nI sz)) R Z B J K2 w := hO.to rfl
            obtain ⟨qr89, hqr90⟩ := p_recv hO (by rw [((LgK.T hlg2 pq).trans hp1)]; decide) (rep_7 ((LgK.T hlg2 pq).trans hp1))
            refine pc_V0 (G := G) (As := [.int 9, .int (nI sz)]) (rest := []) hx hb hml hown hq hE hX pX0_al hP hD hS hA hl.1 (G_report l G h0 a (upd F 2 (nI sz)) R Z B J K2 w pq dr ml nd nm cp it s9 9 (nI sz) sz g (by omega) (LgK.wp hlg2 hwp) (LgK.ps hlg2 hps) hO) (gV pw_1096 pw_1097 pw_1098 pw_106 pw_1084) hV_X9_report qr89 6 hqr90 rfl rfl rfl (Nat.le_of_ble_eq_true rfl) dX9_thirdRound_144 ⟨Nat.le_of_ble_eq_true rfl, Nat.le_of_ble_eq_true rfl⟩ ⟨Nat.le_of_ble_eq_true rfl, Nat.le_of_ble_eq_true rfl⟩ (fun v88 u86 H locs hw87 hP hD hS => ?_)
            obtain ⟨w, K91⟩ := u86
            obtain ⟨hw87, h92, h93, hO⟩ := hw87
            have h92 : LgK K2 K91 pq := h92
            have h93 : RpQ 9 K91 pq := h93
            obtain rfl : v88 = none := hw87
            have hO : OKP G h0 a (upd F 2 (nI sz)) R Z B J K91 w := hO.to rfl
            refine W.widen (k := 0) (n := 0) (Nat.le_of_ble_eq_true rfl) (Nat.le_of_ble_eq_true rfl) ?_
            refine W.eq (g2 := F0 m 147 ls []) rfl ?_
            have hlg94 : LgK K K91 pq := LgK.trans hlg2 h92
            have hz95 : LgK K K91 pq := hlg94
            have hO : OKP G h0 a (upd F 2 (nI sz)) R Z B J K91 w := hO.to rfl
            exact W.vret hx hb hr (fun t99 ht99 hW99 => ⟨⟨_, (w, K91), rfl, ⟨rfl, hz95, hO⟩, by rw [ht99]; exact hP, hD⟩, hS.F ht99⟩) hS.2.2 dX9_thirdRound_147
      · have n96 : ¬ (nd ≤ i2) := fun h9 => c1 ((nI_leI (a := nd) (b := i2) (by omega) (by omega)).mpr h9)
        refine lv_aload_n hx hb dX9_thirdRound_11 rfl (lv_at hl 1 rfl) ?_
        refine p_get (v := .ref dr) (C := RX9) (Tc := TX9) (N := 5) (ci := 6) hx hb hq pin_wsX90 hown hE hP hO (by rw [((LgK.T hlg2 pq).trans hp1)]; decide) (rep_7 ((LgK.T hlg2 pq).trans hp1)) rfl 1 (by decide) (hq _ pw_15) (fun _ h9 => h9) (congrArg (fun z => some (va_rf z)) ((LgK.C hlg2 14 pq).trans hp3)) dX9_thirdRound_12 ?_
        refine lv_iload_n hx hb dX9_thirdRound_15 rfl (lv_at hl 0 rfl) ?_
        refine p_ald8 hx hb hE hP hO ((LgK.T hlg2 dr).trans hp4) (vp_in_nI (by omega) (by omega)) dX9_thirdRound_16 ?_
        rw [nI_clamp (show i2 < 2 ^ 31 by omega)]
        obtain ⟨d97, hd98, hd99, hd100, hd101⟩ := hps.2.1 i2 (by omega)
        have hd102 : K2.2.2.2.2.1 dr i2 = some d97 := by rw [LgK.E hlg2]; exact hd98
        rw [hd102]
        refine W.eq (g2 := F0 m 17 ls [.ref d97]) rfl ?_
        refine lv_astore_n (lv' := [(2, .ref d97), (1, .int (nI i2)), (0, .ref pq)]) hx hb dX9_thirdRound_17 rfl hl (by decide) rfl (fun ls hl => ?_)
        refine lv_iconst (v := 0) hx hb dX9_thirdRound_18 (by decide) ?_
        refine lv_istore_n (lv' := [(3, .int 0), (2, .ref d97), (1, .int (nI i2)), (0, .ref pq)]) hx hb dX9_thirdRound_19 rfl hl (by decide) rfl (fun ls hl => ?_)
        have loop_3 : ∀ (n_3 : Nat) (i3 : Nat) (K3 : PK) (d3 : Nat) (H : Heap) (locs : List Loc) (ls : Array Slot) (w : va_W), i3 ≤ nd → nd + 1 ≤ i3 + n_3 → (LgK K K3 pq) → (K.1 d3 = 4) → va_P G.1 pCl w H → va_D A w → va_S A s.heap H locs → OKP G h0 a (upd F 2 (nI sz)) R Z B J K3 w → lv_has ls 4 [(3, .int (nI i3)), (2, .ref d3), (1, .int (nI i2)), (0, .ref pq)] → W p l e (headSpec (Cond.code yX9_thirdRound cX9_thirdRound 4 none :: pw) ({ frames := 8, cells := 0, slots := 0, locals := 196 } : Room)).room s m ([.ref pq] : List Value).toArray below meth c H locs 0 0 (MQ below (pQ G A (fun (v : Option Value) (u : va_W × (PK)) => v = none ∧ (LgK K u.2 pq) ∧ (OKP G h0 a (upd F 2 (nI sz)) R Z B J u.2 u.1)) (fun u => u.1)) ([.ref pq] : List Value).toArray s ({ frames := 8, cells := 0, slots := 0, locals := 196 } : Room).cells ({ frames := 8, cells := 0, slots := 0, locals := 196 } : Room).slots A) (F0 m 20 ls []) := by
          intro n_3
          induction n_3 with
          | zero => intro i3 K3 d3 H locs ls w hk_3 hn_3; omega
          | succ n_3 ih_3 =>
            intro i3 K3 d3 H locs ls w hk_3 hn_3 hlg3 hd3 hP hD hS hO hl
            refine lv_iload_n hx hb dX9_thirdRound_20 rfl (lv_at hl 0 rfl) ?_
            refine lv_aload_n hx hb dX9_thirdRound_21 rfl (lv_at hl 3 rfl) ?_
            refine p_get (v := .int (nI nd)) (C := RX9) (Tc := TX9) (N := 5) (ci := 6) hx hb hq pin_wsX90 hown hE hP hO (by rw [((LgK.T hlg3 pq).trans hp1)]; decide) (rep_7 ((LgK.T hlg3 pq).trans hp1)) rfl 2 (by decide) (hq _ pw_14) (fun _ h9 => h9) (congrArg (fun z => some (Value.int z)) ((LgK.I hlg3 24 pq (by decide)).trans hp8)) dX9_thirdRound_22 ?_
            refine lv_icmp_ge (tgt := 65) hx hb dX9_thirdRound_25 (by decide) (fun c103 => ?_) (fun c103 => ?_)
            · have n104 : nd ≤ i3 := (nI_leI (a := nd) (b := i3) (by omega) (by omega)).mp c103
              refine lv_iinc (v := (nI (i2 + 1))) (lv' := [(1, .int (nI (i2 + 1))), (3, .int (nI i3)), (2, .ref d3), (0, .ref pq)]) hx hb dX9_thirdRound_65 hl (k := 2) rfl (nI_1 i2) (by decide) rfl (fun ls hl => ?_)
              refine lv_goto (tgt := 3) hx hb dX9_thirdRound_68 (by decide) ?_
              have hO : OKP G h0 a (upd F 2 (nI sz)) R Z B J K3 w := hO.to rfl
              exact ih_2 (i2 + 1) K3 _ _ _ _ (by omega) (by omega) hlg3 hP hD hS hO (lv_sub hl [0, 3] rfl)
            · have n105 : ¬ (nd ≤ i3) := fun h9 => c103 ((nI_leI (a := nd) (b := i3) (by omega) (by omega)).mpr h9)
              refine lv_aload_n hx hb dX9_thirdRound_28 rfl (lv_at hl 3 rfl) ?_
              refine lv_iload_n hx hb dX9_thirdRound_29 rfl (lv_at hl 0 rfl) ?_
              refine lv_iload_n hx hb dX9_thirdRound_30 rfl (lv_at hl 2 rfl) ?_
              have hO : OKP G h0 a (upd F 2 (nI sz)) R Z B J K3 w := hO.to rfl
              obtain ⟨qr109, hqr110⟩ := p_recv hO (by rw [((LgK.T hlg3 pq).trans hp1)]; decide) (rep_7 ((LgK.T hlg3 pq).trans hp1))
              refine pc_V0 (G := G) (As := [.int (nI i3), .int (nI i2)]) (rest := []) hx hb hml hown hq hE hX pX0_al hP hD hS hA hl.1 (G_isAbove l G h0 a (upd F 2 (nI sz)) R Z B J K3 w pq dr ml nd (nI i3) (nI i2) g (LgK.ps hlg3 hps).1 (LgK.ps hlg3 hps).2.1 hO) (gV pw_107 pw_108 pw_109 pw_106 pw_101) hV_X9_isAbove qr109 6 hqr110 rfl rfl rfl (Nat.le_of_ble_eq_true rfl) dX9_thirdRound_31 ⟨Nat.le_of_ble_eq_true rfl, Nat.le_of_ble_eq_true rfl⟩ ⟨Nat.le_of_ble_eq_true rfl, Nat.le_of_ble_eq_true rfl⟩ (fun v108 u106 H locs hw107 hP hD hS => ?_)
              obtain ⟨w, r111⟩ := u106
              obtain ⟨hw107, h112, h113, hO⟩ := hw107
              have h112 : r111 ≤ 1 := h112
              have h113 : AbQ K3 dr nd (nI i3) (nI i2) r111 := h113
              obtain rfl : v108 = some (.int (nI r111)) := hw107
              have hO : OKP G h0 a (upd F 2 (nI sz)) R Z B J K3 w := hO.to rfl
              refine W.widen (k := 0) (n := 0) (Nat.le_of_ble_eq_true rfl) (Nat.le_of_ble_eq_true rfl) ?_
              refine W.eq (g2 := F0 m 34 ls [.int (nI r111)]) rfl ?_
              refine lv_if_eq (tgt := 59) hx hb dX9_thirdRound_34 (by decide) (fun c114 => ?_) (fun c114 => ?_)
              · have n115 : r111 = 0 := (nI_eq (a := r111) (b := 0) (by omega) (by omega)).mp c114
                refine lv_iinc (v := (nI (i3 + 1))) (lv' := [(3, .int (nI (i3 + 1))), (2, .ref d3), (1, .int (nI i2)), (0, .ref pq)]) hx hb dX9_thirdRound_59 hl (k := 0) rfl (nI_1 i3) (by decide) rfl (fun ls hl => ?_)
                refine lv_goto (tgt := 20) hx hb dX9_thirdRound_62 (by decide) ?_
                have hO : OKP G h0 a (upd F 2 (nI sz)) R Z B J K3 w := hO.to rfl
                exact ih_3 (i3 + 1) K3 d3 _ _ _ _ (by omega) (by omega) hlg3 hd3 hP hD hS hO (lv_sub hl [0, 1, 2, 3] rfl)
              · have n116 : ¬ (r111 = 0) := fun h9 => c114 ((nI_eq (a := r111) (b := 0) (by omega) (by omega)).mpr h9)
                refine lv_aload_n hx hb dX9_thirdRound_37 rfl (lv_at hl 3 rfl) ?_
                refine lv_aload_n hx hb dX9_thirdRound_38 rfl (lv_at hl 1 rfl) ?_
                refine lv_aload_n hx hb dX9_thirdRound_39 rfl (lv_at hl 3 rfl) ?_
                refine p_get (v := .ref dr) (C := RX9) (Tc := TX9) (N := 5) (ci := 6) hx hb hq pin_wsX90 hown hE hP hO (by rw [((LgK.T hlg3 pq).trans hp1)]; decide) (rep_7 ((LgK.T hlg3 pq).trans hp1)) rfl 1 (by decide) (hq _ pw_15) (fun _ h9 => h9) (congrArg (fun z => some (va_rf z)) ((LgK.C hlg3 14 pq).trans hp3)) dX9_thirdRound_40 ?_
                refine lv_iload_n hx hb dX9_thirdRound_43 rfl (lv_at hl 0 rfl) ?_
                refine p_ald8 hx hb hE hP hO ((LgK.T hlg3 dr).trans hp4) (vp_in_nI (by omega) (by omega)) dX9_thirdRound_44 ?_
                rw [nI_clamp (show i3 < 2 ^ 31 by omega)]
                obtain ⟨d117, hd118, hd119, hd120, hd121⟩ := hps.2.1 i3 (by omega)
                have hd122 : K3.2.2.2.2.1 dr i3 = some d117 := by rw [LgK.E hlg3]; exact hd118
                rw [hd122]
                refine W.eq (g2 := F0 m 45 ls [.ref d117, .ref d3, .ref pq]) rfl ?_
                have hO : OKP G h0 a (upd (upd F 2 (nI sz)) 2 (nI sz)) R Z B J K3 w := hO.to rfl
                obtain ⟨qr126, hqr127⟩ := p_recv hO (by rw [((LgK.T hlg3 pq).trans hp1)]; decide) (rep_7 ((LgK.T hlg3 pq).trans hp1))
                refine pc_V0 (G := G) (As := [.ref d3, .ref d117]) (rest := []) hx hb hml hown hq hE hX pX0_al hP hD hS hA hl.1 (G_judgeFields l G h0 a (upd F 2 (nI sz)) R Z B J K3 w pq dr ml nd nm cp it s9 d3 d117 sz g (by omega) (LgK.wp hlg3 hwp) (LgK.ps hlg3 hps) ((LgK.T hlg3 d3).trans hd3) ((LgK.T hlg3 d117).trans hd119) hO) (gV pw_1156 pw_1157 pw_1158 pw_106 pw_1141) hV_X9_judgeFields qr126 6 hqr127 rfl rfl rfl (Nat.le_of_ble_eq_true rfl) dX9_thirdRound_45 ⟨Nat.le_of_ble_eq_true rfl, Nat.le_of_ble_eq_true rfl⟩ ⟨Nat.le_of_ble_eq_true rfl, Nat.le_of_ble_eq_true rfl⟩ (fun v125 u123 H locs hw124 hP hD hS => ?_)
                obtain ⟨w, K128⟩ := u123
                obtain ⟨hw124, h129, hO⟩ := hw124
                have h129 : LgK K3 K128 pq := h129
                obtain rfl : v125 = none := hw124
                have hO : OKP G h0 a (upd F 2 (nI sz)) R Z B J K128 w := hO.to rfl
                refine W.widen (k := 0) (n := 0) (Nat.le_of_ble_eq_true rfl) (Nat.le_of_ble_eq_true rfl) ?_
                refine W.eq (g2 := F0 m 48 ls []) rfl ?_
                have hlg130 : LgK K K128 pq := LgK.trans hlg3 h129
                refine lv_aload_n hx hb dX9_thirdRound_48 rfl (lv_at hl 3 rfl) ?_
                refine lv_aload_n hx hb dX9_thirdRound_49 rfl (lv_at hl 1 rfl) ?_
                refine lv_aload_n hx hb dX9_thirdRound_50 rfl (lv_at hl 3 rfl) ?_
                refine p_get (v := .ref dr) (C := RX9) (Tc := TX9) (N := 5) (ci := 6) hx hb hq pin_wsX90 hown hE hP hO (by rw [((LgK.T hlg130 pq).trans hp1)]; decide) (rep_7 ((LgK.T hlg130 pq).trans hp1)) rfl 1 (by decide) (hq _ pw_15) (fun _ h9 => h9) (congrArg (fun z => some (va_rf z)) ((LgK.C hlg130 14 pq).trans hp3)) dX9_thirdRound_51 ?_
                refine lv_iload_n hx hb dX9_thirdRound_54 rfl (lv_at hl 0 rfl) ?_
                refine p_ald8 hx hb hE hP hO ((LgK.T hlg130 dr).trans hp4) (vp_in_nI (by omega) (by omega)) dX9_thirdRound_55 ?_
                rw [nI_clamp (show i3 < 2 ^ 31 by omega)]
                obtain ⟨d131, hd132, hd133, hd134, hd135⟩ := hps.2.1 i3 (by omega)
                have hd136 : K128.2.2.2.2.1 dr i3 = some d131 := by rw [LgK.E hlg130]; exact hd132
                rw [hd136]
                refine W.eq (g2 := F0 m 56 ls [.ref d131, .ref d3, .ref pq]) rfl ?_
                have hO : OKP G h0 a (upd (upd F 2 (nI sz)) 2 (nI sz)) R Z B J K128 w := hO.to rfl
                obtain ⟨qr140, hqr141⟩ := p_recv hO (by rw [((LgK.T hlg130 pq).trans hp1)]; decide) (rep_7 ((LgK.T hlg130 pq).trans hp1))
                refine pc_V0 (G := G) (As := [.ref d3, .ref d131]) (rest := []) hx hb hml hown hq hE hX pX0_al hP hD hS hA hl.1 (G_judgeMethods l G h0 a (upd F 2 (nI sz)) R Z B J K128 w pq dr ml nd nm cp it s9 d3 d131 sz g rk (by omega) (LgK.wp hlg130 hwp) (LgK.ps hlg130 hps) ((LgK.T hlg130 d3).trans hd3) ((LgK.T hlg130 d131).trans hd133) (LgK.rko hlg130 hrk) hO) (gV pw_1159 pw_1160 pw_1161 pw_106 pw_1155) hV_X9_judgeMethods qr140 6 hqr141 rfl rfl rfl (Nat.le_of_ble_eq_true rfl) dX9_thirdRound_56 ⟨Nat.le_of_ble_eq_true rfl, Nat.le_of_ble_eq_true rfl⟩ ⟨Nat.le_of_ble_eq_true rfl, Nat.le_of_ble_eq_true rfl⟩ (fun v139 u137 H locs hw138 hP hD hS => ?_)
                obtain ⟨w, K142⟩ := u137
                obtain ⟨hw138, h143, hO⟩ := hw138
                have h143 : LgK K128 K142 pq := h143
                obtain rfl : v139 = none := hw138
                have hO : OKP G h0 a (upd F 2 (nI sz)) R Z B J K142 w := hO.to rfl
                refine W.widen (k := 0) (n := 0) (Nat.le_of_ble_eq_true rfl) (Nat.le_of_ble_eq_true rfl) ?_
                refine W.eq (g2 := F0 m 59 ls []) rfl ?_
                have hlg144 : LgK K K142 pq := LgK.trans hlg130 h143
                refine lv_iinc (v := (nI (i3 + 1))) (lv' := [(3, .int (nI (i3 + 1))), (2, .ref d3), (1, .int (nI i2)), (0, .ref pq)]) hx hb dX9_thirdRound_59 hl (k := 0) rfl (nI_1 i3) (by decide) rfl (fun ls hl => ?_)
                refine lv_goto (tgt := 20) hx hb dX9_thirdRound_62 (by decide) ?_
                have hO : OKP G h0 a (upd F 2 (nI sz)) R Z B J K142 w := hO.to rfl
                exact ih_3 (i3 + 1) K142 d3 _ _ _ _ (by omega) (by omega) hlg144 hd3 hP hD hS hO (lv_sub hl [0, 1, 2, 3] rfl)
        have hO : OKP G h0 a (upd F 2 (nI sz)) R Z B J K2 w := hO.to rfl
        exact loop_3 (nd + 1) 0 K2 d97 _ _ _ _ (by omega) (by omega) hlg2 hd99 hP hD hS hO (lv_sub hl [0, 1, 2, 3] rfl)
  have hO : OKP G h0 a (upd F 2 (nI sz)) R Z B J K w := hO.to rfl
  exact loop_2 (nd + 1) 7 K _ _ _ _ (by omega) (by omega) LgK.rfl hP hD hS hO (lv_sub hl [0, 1] rfl)
