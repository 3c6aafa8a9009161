theorem dX9_settle_0 : decode cX9_settle 0 = .ok (.aload_n 0, 1) := by decide +kernel
theorem dX9_settle_1 : decode cX9_settle 1 = .ok (.getfield 38, 3) := by decide +kernel
theorem dX9_settle_4 : decode cX9_settle 4 = .ok (.ldc 37, 2) := by decide +kernel
theorem dX9_settle_6 : decode cX9_settle 6 = .ok (.if_icmp .eq 24, 3) := by decide +kernel
theorem dX9_settle_30 : decode cX9_settle 30 = .ok (.return_, 1) := by decide +kernel
theorem dX9_settle_9 : decode cX9_settle 9 = .ok (.aload_n 0, 1) := by decide +kernel
theorem dX9_settle_10 : decode cX9_settle 10 = .ok (.getfield 9, 3) := by decide +kernel
theorem dX9_settle_13 : decode cX9_settle 13 = .ok (.aload_n 0, 1) := by decide +kernel
theorem dX9_settle_14 : decode cX9_settle 14 = .ok (.getfield 38, 3) := by decide +kernel
theorem dX9_settle_17 : decode cX9_settle 17 = .ok (.putfield 106, 3) := by decide +kernel
theorem dX9_settle_20 : decode cX9_settle 20 = .ok (.new 109, 3) := by decide +kernel
theorem dX9_settle_23 : decode cX9_settle 23 = .ok (.dup, 1) := by decide +kernel
theorem dX9_settle_24 : decode cX9_settle 24 = .ok (.ldc 111, 2) := by decide +kernel
theorem dX9_settle_26 : decode cX9_settle 26 = .ok (.invokespecial 113, 3) := by decide +kernel
theorem dX9_settle_29 : decode cX9_settle 29 = .ok (.athrow, 1) := by decide +kernel
set_option maxHeartbeats 6000000 in
set_option maxRecDepth 100000 in
theorem G_settle (l : Launch) (G : pT) (h0 : Nat) (a : Nat → Nat) (F : Nat → Int32) (R : Nat → Value) (Z : Int64) (B : Nat → Nat → Int32) (J : Nat → Nat → Int64) (K : PK) (w : va_W) (pq : Nat) (dr : Nat) (ml : Nat) (nd : Nat) (sz : Nat) (g : Nat → Nat → Nat) (hsz : sz ≤ 5000) (hpb : PgB K g (a 1) pq dr ml nd) (hO : OKP G h0 a (upd F 2 (nI sz)) R Z B J K w) (hl0 : l.stackTraces = false) : PBn l G pX0 yX9_settle cX9_settle 1 none ({ frames := 6, cells := 1, slots := 6, locals := 100 }) [.ref pq] w (fun (v : Option Value) (u : va_W × (Unit)) => v = none ∧ (K.2.1 25 pq = 2147483647) ∧ (OKP G h0 a (upd F 2 (nI sz)) R Z B J K u.1)) (fun u => u.1) (fun (u : va_W × (Unit)) => 0) (fun (u : va_W × (Unit)) => 0) (fun (u : va_W × (Nat → Int32) × (Nat → Value) × (Nat → Nat → Int32)) => ThQ G h0 a (upd F 2 (nI sz)) R Z B J u) (fun u => u.1) := by
  intro sz
  refine vx_ofW (cc := cX9_settle) (maxL := 1) (ret := none) (by decide) rfl ?_
  intro p e s m args below meth c s₁ B9 hml hnt hv
  obtain ⟨rfl, hsz, hP, hD0, hE, hX⟩ := hv
  have hx := B9.exec
  have hb := B9.bytes
  have hr := B9.returns
  have hts := atoms_spec (ws := Cond.code yX9_settle cX9_settle 1 none :: pw) B9.pre
  have hq : ∀ w ∈ pw, w.before _ s = true := fun w h => hts w (List.mem_cons_of_mem _ h)
  have hown : s.vm.findClass RX9 = some m.cls := findClass_of_methodNamed B9.named
  have hlocks := B9.notSynchronized
  subst hsz
  have hD := hD0.self (sz := s.heap.size)
  have hA : ∀ q : Nat, s.heap.size ≤ q → va_A w s.heap.size q := fun q h => Or.inr h
  generalize va_A w s.heap.size = A at hD hE hA ⊢
  have hS : va_S A s.heap s.heap [] := va_S.rf
  have hl := lv_entry ([.ref pq]) (n := 1) (Nat.le_of_ble_eq_true rfl)
  rw [lg_entry_eq]
  generalize (lg_sl ([.ref pq]) ++ List.replicate (1 - (lg_sl ([.ref pq])).length) Slot.unset).toArray = ls at hl ⊢
  have hl : lv_has ls 1 [(0, .ref pq)] := hl
  have hp1 := hpb.1
  have hp2 := hpb.2.1
  have hp3 := hpb.2.2.1
  have hp4 := hpb.2.2.2.1
  have hp5 := hpb.2.2.2.2.1
  have hp6 := hpb.2.2.2.2.2.1
  have hp8 := hpb.2.2.2.2.2.2.2.1
  have hp9 := hpb.2.2.2.2.2.2.2.2
  refine lv_aload_n hx hb dX9_settle_0 rfl (lv_at hl 0 rfl) ?_
  refine p_get (v := .int (K.2.1 25 pq)) (C := RX9) (Tc := TX9) (N := 5) (ci := 6) hx hb hq pin_wsX90 hown hE hP hO (by rw [hp1]; decide) (rep_7 hp1) rfl 4 (by decide) (hq _ pw_1080) (fun _ h9 => h9) rfl dX9_settle_1 ?_
  refine lv_ldc (v := 2147483647) hx hb hown (hq _ pw_1079) dX9_settle_4 ?_
  refine lv_icmp_eq (tgt := 30) hx hb dX9_settle_6 (by decide) (fun c1 => ?_) (fun c1 => ?_)
  · refine W_size (fun hz1 hz2 => ?_)
    refine vx_ret ?_
    have hz2 : K.2.1 25 pq = 2147483647 := c1
    have hO : OKP G h0 a (upd F 2 (nI sz)) R Z B J K w := hO.to rfl
    refine W.widen (k := 1) (n := 6) (by omega) (by omega) ?_
    have hzz1 : s.heap.size ≤ s.heap.size + (0) := (by have z : 0 ≤ 0 := (by omega); omega)
    have hzz2 : hSl s.heap ≤ hSl s.heap + (0) := (by have z : 0 ≤ 0 := (by omega); omega)
    exact W.vret hx hb hr (fun t99 ht99 hW99 => ⟨⟨_, (w, ()), rfl, ⟨rfl, hz2, hO⟩, by rw [ht99]; exact hP, hD, by rw [ht99]; exact hzz1, by rw [ht99]; exact hzz2⟩, hS.F ht99⟩) hS.2.2 dX9_settle_30
  · refine lv_aload_n hx hb dX9_settle_9 rfl (lv_at hl 0 rfl) ?_
    refine p_get (v := .ref (a 1)) (C := RX9) (Tc := TX9) (N := 5) (ci := 6) hx hb hq pin_wsX90 hown hE hP hO (by rw [hp1]; decide) (rep_7 hp1) rfl 0 (by decide) (hq _ pw_784) (fun _ h9 => h9) (congrArg (fun z => some (va_rf z)) hp2) dX9_settle_10 ?_
    refine lv_aload_n hx hb dX9_settle_13 rfl (lv_at hl 0 rfl) ?_
    refine p_get (v := .int (K.2.1 25 pq)) (C := RX9) (Tc := TX9) (N := 5) (ci := 6) hx hb hq pin_wsX90 hown hE hP hO (by rw [hp1]; decide) (rep_7 hp1) rfl 4 (by decide) (hq _ pw_1080) (fun _ h9 => h9) rfl dX9_settle_14 ?_
    refine c_put (v := .int (K.2.1 25 pq)) (ty := .int) (C := RX10) (Tc := TX10) (N := 15) (ci := 7) hx hb hq pin_wsX100 tyX10 tyX10_ok nmX10 hown hE hP hD hS hO 2 (sg_2 G h0 a _ _ _ _ _) rfl 14 (by decide) (hq _ pw_1131) (fun _ h9 => h9) rfl (by decide +kernel) rfl rfl (Nat.le_of_ble_eq_true rfl) (sf_4 G h0 a _ _ _ _ _ (K.2.1 25 pq)) dX9_settle_17 (fun H locs w hP hD hS hO => ?_)
    have hO9 : OKP G h0 a (upd (upd F 2 (nI sz)) 4 (K.2.1 25 pq)) R Z B J K w := hO.to rfl
    exact pb_throw (w, (upd (upd F 2 (nI sz)) 4 (K.2.1 25 pq)), R, B) (ThQ.of (Thx.f Thx.rfl (by omega)) RhX.rfl hO9) hx hb hl0 hown hq hE xf_IS pw_1130 pw_45 (hE.2.2.1 12 (by decide)) xw_1 xb_1 hE.pc.1 xg_1 hnt hlocks hml hl.1 hP hD hS dX9_settle_20 dX9_settle_23 dX9_settle_24 dX9_settle_26 dX9_settle_29 (Nat.le_of_ble_eq_true rfl) (Nat.le_of_ble_eq_true rfl) (by show 0 + 1 ≤ 1; omega) (by show 0 + 6 ≤ 6; omega) (by show 0 + 1 ≤ 1; omega) (by show 0 + 6 ≤ 6; omega)
theorem dX9_resolveTypes_0 : decode cX9_resolveTypes 0 = .ok (.iconst 0, 1) := by decide +kernel
theorem dX9_resolveTypes_1 : decode cX9_resolveTypes 1 = .ok (.istore_n 1, 1) := by decide +kernel
theorem dX9_resolveTypes_2 : decode cX9_resolveTypes 2 = .ok (.iload_n 1, 1) := by decide +kernel
theorem dX9_resolveTypes_3 : decode cX9_resolveTypes 3 = .ok (.aload_n 0, 1) := by decide +kernel
theorem dX9_resolveTypes_4 : decode cX9_resolveTypes 4 = .ok (.getfield 9, 3) := by decide +kernel
theorem dX9_resolveTypes_7 : decode cX9_resolveTypes 7 = .ok (.getfield 126, 3) := by decide +kernel
theorem dX9_resolveTypes_10 : decode cX9_resolveTypes 10 = .ok (.if_icmp .ge 147, 3) := by decide +kernel
theorem dX9_resolveTypes_157 : decode cX9_resolveTypes 157 = .ok (.return_, 1) := by decide +kernel
theorem dX9_resolveTypes_13 : decode cX9_resolveTypes 13 = .ok (.bipush 63, 2) := by decide +kernel
theorem dX9_resolveTypes_15 : decode cX9_resolveTypes 15 = .ok (.istore_n 2, 1) := by decide +kernel
theorem dX9_resolveTypes_16 : decode cX9_resolveTypes 16 = .ok (.aload_n 0, 1) := by decide +kernel
theorem dX9_resolveTypes_17 : decode cX9_resolveTypes 17 = .ok (.getfield 9, 3) := by decide +kernel
theorem dX9_resolveTypes_20 : decode cX9_resolveTypes 20 = .ok (.iload_n 1, 1) := by decide +kernel
theorem dX9_resolveTypes_21 : decode cX9_resolveTypes 21 = .ok (.invokevirtual 127, 3) := by decide +kernel
theorem dX9_resolveTypes_24 : decode cX9_resolveTypes 24 = .ok (.ifCond .eq 19, 3) := by decide +kernel
theorem dX9_resolveTypes_43 : decode cX9_resolveTypes 43 = .ok (.aload_n 0, 1) := by decide +kernel
theorem dX9_resolveTypes_44 : decode cX9_resolveTypes 44 = .ok (.getfield 9, 3) := by decide +kernel
theorem dX9_resolveTypes_47 : decode cX9_resolveTypes 47 = .ok (.iload_n 1, 1) := by decide +kernel
theorem dX9_resolveTypes_48 : decode cX9_resolveTypes 48 = .ok (.invokevirtual 168, 3) := by decide +kernel
theorem dX9_resolveTypes_51 : decode cX9_resolveTypes 51 = .ok (.bipush 13, 2) := by decide +kernel
theorem dX9_resolveTypes_53 : decode cX9_resolveTypes 53 = .ok (.if_icmp .eq 15, 3) := by decide +kernel
theorem dX9_resolveTypes_68 : decode cX9_resolveTypes 68 = .ok (.aload_n 0, 1) := by decide +kernel
theorem dX9_resolveTypes_69 : decode cX9_resolveTypes 69 = .ok (.getfield 9, 3) := by decide +kernel
theorem dX9_resolveTypes_72 : decode cX9_resolveTypes 72 = .ok (.iload_n 1, 1) := by decide +kernel
theorem dX9_resolveTypes_73 : decode cX9_resolveTypes 73 = .ok (.invokevirtual 168, 3) := by decide +kernel
theorem dX9_resolveTypes_76 : decode cX9_resolveTypes 76 = .ok (.bipush 13, 2) := by decide +kernel
theorem dX9_resolveTypes_78 : decode cX9_resolveTypes 78 = .ok (.if_icmp .ne 8, 3) := by decide +kernel
theorem dX9_resolveTypes_86 : decode cX9_resolveTypes 86 = .ok (.bipush 61, 2) := by decide +kernel
theorem dX9_resolveTypes_88 : decode cX9_resolveTypes 88 = .ok (.istore_n 2, 1) := by decide +kernel
theorem dX9_resolveTypes_89 : decode cX9_resolveTypes 89 = .ok (.aload_n 0, 1) := by decide +kernel
theorem dX9_resolveTypes_90 : decode cX9_resolveTypes 90 = .ok (.getfield 9, 3) := by decide +kernel
theorem dX9_resolveTypes_93 : decode cX9_resolveTypes 93 = .ok (.iload_n 1, 1) := by decide +kernel
theorem dX9_resolveTypes_94 : decode cX9_resolveTypes 94 = .ok (.iconst 1, 1) := by decide +kernel
theorem dX9_resolveTypes_95 : decode cX9_resolveTypes 95 = .ok (.iadd, 1) := by decide +kernel
theorem dX9_resolveTypes_96 : decode cX9_resolveTypes 96 = .ok (.invokevirtual 168, 3) := by decide +kernel
theorem dX9_resolveTypes_99 : decode cX9_resolveTypes 99 = .ok (.bipush 36, 2) := by decide +kernel
theorem dX9_resolveTypes_101 : decode cX9_resolveTypes 101 = .ok (.if_icmp .ne 22, 3) := by decide +kernel
theorem dX9_resolveTypes_123 : decode cX9_resolveTypes 123 = .ok (.iconst 0, 1) := by decide +kernel
theorem dX9_resolveTypes_124 : decode cX9_resolveTypes 124 = .ok (.istore_n 3, 1) := by decide +kernel
theorem dX9_resolveTypes_125 : decode cX9_resolveTypes 125 = .ok (.aload_n 0, 1) := by decide +kernel
theorem dX9_resolveTypes_126 : decode cX9_resolveTypes 126 = .ok (.getfield 9, 3) := by decide +kernel
theorem dX9_resolveTypes_129 : decode cX9_resolveTypes 129 = .ok (.iload_n 1, 1) := by decide +kernel
theorem dX9_resolveTypes_130 : decode cX9_resolveTypes 130 = .ok (.iload_n 3, 1) := by decide +kernel
theorem dX9_resolveTypes_131 : decode cX9_resolveTypes 131 = .ok (.ifCond .eq 16, 3) := by decide +kernel
theorem dX9_resolveTypes_147 : decode cX9_resolveTypes 147 = .ok (.iload_n 2, 1) := by decide +kernel
theorem dX9_resolveTypes_148 : decode cX9_resolveTypes 148 = .ok (.invokevirtual 171, 3) := by decide +kernel
theorem dX9_resolveTypes_151 : decode cX9_resolveTypes 151 = .ok (.iinc 1 1, 3) := by decide +kernel
theorem dX9_resolveTypes_154 : decode cX9_resolveTypes 154 = .ok (.goto (-152), 3) := by decide +kernel
theorem dX9_resolveTypes_104 : decode cX9_resolveTypes 104 = .ok (.aload_n 0, 1) := by decide +kernel
theorem dX9_resolveTypes_105 : decode cX9_resolveTypes 105 = .ok (.getfield 9, 3) := by decide +kernel
theorem dX9_resolveTypes_108 : decode cX9_resolveTypes 108 = .ok (.iload_n 1, 1) := by decide +kernel
theorem dX9_resolveTypes_109 : decode cX9_resolveTypes 109 = .ok (.iconst 2, 1) := by decide +kernel
theorem dX9_resolveTypes_110 : decode cX9_resolveTypes 110 = .ok (.iadd, 1) := by decide +kernel
theorem dX9_resolveTypes_111 : decode cX9_resolveTypes 111 = .ok (.invokevirtual 168, 3) := by decide +kernel
theorem dX9_resolveTypes_114 : decode cX9_resolveTypes 114 = .ok (.bipush 37, 2) := by decide +kernel
theorem dX9_resolveTypes_116 : decode cX9_resolveTypes 116 = .ok (.if_icmp .ne 7, 3) := by decide +kernel
theorem dX9_resolveTypes_119 : decode cX9_resolveTypes 119 = .ok (.iconst 1, 1) := by decide +kernel
theorem dX9_resolveTypes_120 : decode cX9_resolveTypes 120 = .ok (.goto 4, 3) := by decide +kernel
theorem dX9_resolveTypes_134 : decode cX9_resolveTypes 134 = .ok (.iload_n 2, 1) := by decide +kernel
theorem dX9_resolveTypes_135 : decode cX9_resolveTypes 135 = .ok (.bipush 63, 2) := by decide +kernel
theorem dX9_resolveTypes_137 : decode cX9_resolveTypes 137 = .ok (.if_icmp .eq 10, 3) := by decide +kernel
theorem dX9_resolveTypes_140 : decode cX9_resolveTypes 140 = .ok (.bipush 64, 2) := by decide +kernel
theorem dX9_resolveTypes_142 : decode cX9_resolveTypes 142 = .ok (.iload_n 2, 1) := by decide +kernel
theorem dX9_resolveTypes_143 : decode cX9_resolveTypes 143 = .ok (.iadd, 1) := by decide +kernel
theorem dX9_resolveTypes_144 : decode cX9_resolveTypes 144 = .ok (.goto 4, 3) := by decide +kernel
theorem dX9_resolveTypes_81 : decode cX9_resolveTypes 81 = .ok (.bipush 60, 2) := by decide +kernel
theorem dX9_resolveTypes_83 : decode cX9_resolveTypes 83 = .ok (.goto 5, 3) := by decide +kernel
theorem dX9_resolveTypes_56 : decode cX9_resolveTypes 56 = .ok (.aload_n 0, 1) := by decide +kernel
theorem dX9_resolveTypes_57 : decode cX9_resolveTypes 57 = .ok (.getfield 9, 3) := by decide +kernel
theorem dX9_resolveTypes_60 : decode cX9_resolveTypes 60 = .ok (.iload_n 1, 1) := by decide +kernel
theorem dX9_resolveTypes_61 : decode cX9_resolveTypes 61 = .ok (.invokevirtual 168, 3) := by decide +kernel
theorem dX9_resolveTypes_64 : decode cX9_resolveTypes 64 = .ok (.iconst 1, 1) := by decide +kernel
theorem dX9_resolveTypes_65 : decode cX9_resolveTypes 65 = .ok (.if_icmp .ne 24, 3) := by decide +kernel
theorem dX9_resolveTypes_27 : decode cX9_resolveTypes 27 = .ok (.aload_n 0, 1) := by decide +kernel
theorem dX9_resolveTypes_28 : decode cX9_resolveTypes 28 = .ok (.aload_n 0, 1) := by decide +kernel
theorem dX9_resolveTypes_29 : decode cX9_resolveTypes 29 = .ok (.getfield 9, 3) := by decide +kernel
theorem dX9_resolveTypes_32 : decode cX9_resolveTypes 32 = .ok (.iload_n 1, 1) := by decide +kernel
theorem dX9_resolveTypes_33 : decode cX9_resolveTypes 33 = .ok (.invokevirtual 41, 3) := by decide +kernel
theorem dX9_resolveTypes_36 : decode cX9_resolveTypes 36 = .ok (.invokevirtual 116, 3) := by decide +kernel
theorem dX9_resolveTypes_39 : decode cX9_resolveTypes 39 = .ok (.istore_n 2, 1) := by decide +kernel
theorem dX9_resolveTypes_40 : decode cX9_resolveTypes 40 = .ok (.goto 49, 3) := by decide +kernel
theorem hV_X10_giveType : yX10_giveType.cls = RX10 ∧ yX10_giveType.cls ≠ "java/lang/invoke/MethodHandle" ∧ yX10_giveType.cls ≠ "java/lang/invoke/VarHandle" ∧ (parseMethodDescriptor yX10_giveType.desc).map (fun d => d.parameters.length) = some 2 := by decide +kernel
theorem dX9_judgeFields_0 : decode cX9_judgeFields 0 = .ok (.iconst 0, 1) := by decide +kernel
theorem dX9_judgeFields_1 : decode cX9_judgeFields 1 = .ok (.istore_n 3, 1) := by decide +kernel
theorem dX9_judgeFields_2 : decode cX9_judgeFields 2 = .ok (.iload_n 3, 1) := by decide +kernel
theorem dX9_judgeFields_3 : decode cX9_judgeFields 3 = .ok (.aload_n 1, 1) := by decide +kernel
theorem dX9_judgeFields_4 : decode cX9_judgeFields 4 = .ok (.getfield 134, 3) := by decide +kernel
theorem dX9_judgeFields_7 : decode cX9_judgeFields 7 = .ok (.invokevirtual 45, 3) := by decide +kernel
theorem dX9_judgeFields_10 : decode cX9_judgeFields 10 = .ok (.if_icmp .ge 81, 3) := by decide +kernel
theorem dX9_judgeFields_91 : decode cX9_judgeFields 91 = .ok (.return_, 1) := by decide +kernel
theorem dX9_judgeFields_13 : decode cX9_judgeFields 13 = .ok (.iconst 0, 1) := by decide +kernel
theorem dX9_judgeFields_14 : decode cX9_judgeFields 14 = .ok (.istore 4, 2) := by decide +kernel
theorem dX9_judgeFields_16 : decode cX9_judgeFields 16 = .ok (.iload 4, 2) := by decide +kernel
theorem dX9_judgeFields_18 : decode cX9_judgeFields 18 = .ok (.aload_n 2, 1) := by decide +kernel
theorem dX9_judgeFields_19 : decode cX9_judgeFields 19 = .ok (.getfield 134, 3) := by decide +kernel
theorem dX9_judgeFields_22 : decode cX9_judgeFields 22 = .ok (.invokevirtual 45, 3) := by decide +kernel
theorem dX9_judgeFields_25 : decode cX9_judgeFields 25 = .ok (.if_icmp .ge 60, 3) := by decide +kernel
theorem dX9_judgeFields_85 : decode cX9_judgeFields 85 = .ok (.iinc 3 1, 3) := by decide +kernel
theorem dX9_judgeFields_88 : decode cX9_judgeFields 88 = .ok (.goto (-86), 3) := by decide +kernel
theorem dX9_judgeFields_28 : decode cX9_judgeFields 28 = .ok (.aload_n 1, 1) := by decide +kernel
theorem dX9_judgeFields_29 : decode cX9_judgeFields 29 = .ok (.getfield 134, 3) := by decide +kernel
theorem dX9_judgeFields_32 : decode cX9_judgeFields 32 = .ok (.iload_n 3, 1) := by decide +kernel
theorem dX9_judgeFields_33 : decode cX9_judgeFields 33 = .ok (.invokevirtual 48, 3) := by decide +kernel
theorem dX9_judgeFields_36 : decode cX9_judgeFields 36 = .ok (.checkcast 137, 3) := by decide +kernel
theorem dX9_judgeFields_39 : decode cX9_judgeFields 39 = .ok (.getfield 139, 3) := by decide +kernel
theorem dX9_judgeFields_42 : decode cX9_judgeFields 42 = .ok (.aload_n 2, 1) := by decide +kernel
theorem dX9_judgeFields_43 : decode cX9_judgeFields 43 = .ok (.getfield 134, 3) := by decide +kernel
theorem dX9_judgeFields_46 : decode cX9_judgeFields 46 = .ok (.iload 4, 2) := by decide +kernel
theorem dX9_judgeFields_48 : decode cX9_judgeFields 48 = .ok (.invokevirtual 48, 3) := by decide +kernel
theorem dX9_judgeFields_51 : decode cX9_judgeFields 51 = .ok (.checkcast 137, 3) := by decide +kernel
theorem dX9_judgeFields_54 : decode cX9_judgeFields 54 = .ok (.getfield 139, 3) := by decide +kernel
theorem dX9_judgeFields_57 : decode cX9_judgeFields 57 = .ok (.if_icmp .ne 22, 3) := by decide +kernel
theorem dX9_judgeFields_79 : decode cX9_judgeFields 79 = .ok (.iinc 4 1, 3) := by decide +kernel
theorem dX9_judgeFields_82 : decode cX9_judgeFields 82 = .ok (.goto (-66), 3) := by decide +kernel
theorem dX9_judgeFields_60 : decode cX9_judgeFields 60 = .ok (.aload_n 0, 1) := by decide +kernel
theorem dX9_judgeFields_61 : decode cX9_judgeFields 61 = .ok (.iconst 3, 1) := by decide +kernel
theorem dX9_judgeFields_62 : decode cX9_judgeFields 62 = .ok (.aload_n 1, 1) := by decide +kernel
theorem dX9_judgeFields_63 : decode cX9_judgeFields 63 = .ok (.getfield 134, 3) := by decide +kernel
theorem dX9_judgeFields_66 : decode cX9_judgeFields 66 = .ok (.iload_n 3, 1) := by decide +kernel
theorem dX9_judgeFields_67 : decode cX9_judgeFields 67 = .ok (.invokevirtual 48, 3) := by decide +kernel
theorem dX9_judgeFields_70 : decode cX9_judgeFields 70 = .ok (.checkcast 137, 3) := by decide +kernel
theorem dX9_judgeFields_73 : decode cX9_judgeFields 73 = .ok (.getfield 140, 3) := by decide +kernel
theorem dX9_judgeFields_76 : decode cX9_judgeFields 76 = .ok (.invokevirtual 87, 3) := by decide +kernel
theorem dX9_judgeMethods_0 : decode cX9_judgeMethods 0 = .ok (.iconst 0, 1) := by decide +kernel
theorem dX9_judgeMethods_1 : decode cX9_judgeMethods 1 = .ok (.istore_n 3, 1) := by decide +kernel
theorem dX9_judgeMethods_2 : decode cX9_judgeMethods 2 = .ok (.iload_n 3, 1) := by decide +kernel
theorem dX9_judgeMethods_3 : decode cX9_judgeMethods 3 = .ok (.aload_n 2, 1) := by decide +kernel
theorem dX9_judgeMethods_4 : decode cX9_judgeMethods 4 = .ok (.getfield 141, 3) := by decide +kernel
theorem dX9_judgeMethods_7 : decode cX9_judgeMethods 7 = .ok (.invokevirtual 45, 3) := by decide +kernel
theorem dX9_judgeMethods_10 : decode cX9_judgeMethods 10 = .ok (.if_icmp .ge 125, 3) := by decide +kernel
theorem dX9_judgeMethods_135 : decode cX9_judgeMethods 135 = .ok (.return_, 1) := by decide +kernel
theorem dX9_judgeMethods_13 : decode cX9_judgeMethods 13 = .ok (.aload_n 2, 1) := by decide +kernel
theorem dX9_judgeMethods_14 : decode cX9_judgeMethods 14 = .ok (.getfield 141, 3) := by decide +kernel
theorem dX9_judgeMethods_17 : decode cX9_judgeMethods 17 = .ok (.iload_n 3, 1) := by decide +kernel
theorem dX9_judgeMethods_18 : decode cX9_judgeMethods 18 = .ok (.invokevirtual 48, 3) := by decide +kernel
theorem dX9_judgeMethods_21 : decode cX9_judgeMethods 21 = .ok (.checkcast 52, 3) := by decide +kernel
theorem dX9_judgeMethods_24 : decode cX9_judgeMethods 24 = .ok (.astore 4, 2) := by decide +kernel
theorem dX9_judgeMethods_26 : decode cX9_judgeMethods 26 = .ok (.aload_n 1, 1) := by decide +kernel
theorem dX9_judgeMethods_27 : decode cX9_judgeMethods 27 = .ok (.aload 4, 2) := by decide +kernel
theorem dX9_judgeMethods_29 : decode cX9_judgeMethods 29 = .ok (.getfield 142, 3) := by decide +kernel
theorem dX9_judgeMethods_32 : decode cX9_judgeMethods 32 = .ok (.invokevirtual 143, 3) := by decide +kernel
theorem dX9_judgeMethods_35 : decode cX9_judgeMethods 35 = .ok (.astore 5, 2) := by decide +kernel
theorem dX9_judgeMethods_37 : decode cX9_judgeMethods 37 = .ok (.aload 5, 2) := by decide +kernel
theorem dX9_judgeMethods_39 : decode cX9_judgeMethods 39 = .ok (.ifnonnull 16, 3) := by decide +kernel
theorem dX9_judgeMethods_42 : decode cX9_judgeMethods 42 = .ok (.aload_n 0, 1) := by decide +kernel
theorem dX9_judgeMethods_43 : decode cX9_judgeMethods 43 = .ok (.aload_n 1, 1) := by decide +kernel
theorem dX9_judgeMethods_44 : decode cX9_judgeMethods 44 = .ok (.aload 4, 2) := by decide +kernel
theorem dX9_judgeMethods_46 : decode cX9_judgeMethods 46 = .ok (.getfield 142, 3) := by decide +kernel
theorem dX9_judgeMethods_49 : decode cX9_judgeMethods 49 = .ok (.invokevirtual 200, 3) := by decide +kernel
theorem dX9_judgeMethods_52 : decode cX9_judgeMethods 52 = .ok (.goto 5, 3) := by decide +kernel
theorem dX9_judgeMethods_57 : decode cX9_judgeMethods 57 = .ok (.astore 6, 2) := by decide +kernel
theorem dX9_judgeMethods_59 : decode cX9_judgeMethods 59 = .ok (.aload_n 0, 1) := by decide +kernel
theorem dX9_judgeMethods_60 : decode cX9_judgeMethods 60 = .ok (.aload 4, 2) := by decide +kernel
theorem dX9_judgeMethods_62 : decode cX9_judgeMethods 62 = .ok (.aload 6, 2) := by decide +kernel
theorem dX9_judgeMethods_64 : decode cX9_judgeMethods 64 = .ok (.invokevirtual 204, 3) := by decide +kernel
theorem dX9_judgeMethods_67 : decode cX9_judgeMethods 67 = .ok (.ifCond .ne 26, 3) := by decide +kernel
theorem dX9_judgeMethods_93 : decode cX9_judgeMethods 93 = .ok (.aload_n 2, 1) := by decide +kernel
theorem dX9_judgeMethods_94 : decode cX9_judgeMethods 94 = .ok (.getfield 164, 3) := by decide +kernel
theorem dX9_judgeMethods_97 : decode cX9_judgeMethods 97 = .ok (.ifCond .eq 32, 3) := by decide +kernel
theorem dX9_judgeMethods_129 : decode cX9_judgeMethods 129 = .ok (.iinc 3 1, 3) := by decide +kernel
theorem dX9_judgeMethods_132 : decode cX9_judgeMethods 132 = .ok (.goto (-130), 3) := by decide +kernel
theorem dX9_judgeMethods_100 : decode cX9_judgeMethods 100 = .ok (.aload_n 1, 1) := by decide +kernel
theorem dX9_judgeMethods_101 : decode cX9_judgeMethods 101 = .ok (.getfield 164, 3) := by decide +kernel
theorem dX9_judgeMethods_104 : decode cX9_judgeMethods 104 = .ok (.ifCond .ne 25, 3) := by decide +kernel
theorem dX9_judgeMethods_107 : decode cX9_judgeMethods 107 = .ok (.aload_n 1, 1) := by decide +kernel
theorem dX9_judgeMethods_108 : decode cX9_judgeMethods 108 = .ok (.aload 4, 2) := by decide +kernel
theorem dX9_judgeMethods_110 : decode cX9_judgeMethods 110 = .ok (.getfield 142, 3) := by decide +kernel
theorem dX9_judgeMethods_113 : decode cX9_judgeMethods 113 = .ok (.invokevirtual 188, 3) := by decide +kernel
theorem dX9_judgeMethods_116 : decode cX9_judgeMethods 116 = .ok (.ifnonnull 13, 3) := by decide +kernel
theorem dX9_judgeMethods_119 : decode cX9_judgeMethods 119 = .ok (.aload_n 0, 1) := by decide +kernel
theorem dX9_judgeMethods_120 : decode cX9_judgeMethods 120 = .ok (.bipush 8, 2) := by decide +kernel
theorem dX9_judgeMethods_122 : decode cX9_judgeMethods 122 = .ok (.aload_n 1, 1) := by decide +kernel
theorem dX9_judgeMethods_123 : decode cX9_judgeMethods 123 = .ok (.getfield 84, 3) := by decide +kernel
theorem dX9_judgeMethods_126 : decode cX9_judgeMethods 126 = .ok (.invokevirtual 87, 3) := by decide +kernel
theorem dX9_judgeMethods_70 : decode cX9_judgeMethods 70 = .ok (.aload_n 0, 1) := by decide +kernel
theorem dX9_judgeMethods_71 : decode cX9_judgeMethods 71 = .ok (.bipush 7, 2) := by decide +kernel
theorem dX9_judgeMethods_73 : decode cX9_judgeMethods 73 = .ok (.aload 5, 2) := by decide +kernel
theorem dX9_judgeMethods_75 : decode cX9_judgeMethods 75 = .ok (.ifnonnull 10, 3) := by decide +kernel
theorem dX9_judgeMethods_78 : decode cX9_judgeMethods 78 = .ok (.aload_n 1, 1) := by decide +kernel
theorem dX9_judgeMethods_79 : decode cX9_judgeMethods 79 = .ok (.getfield 84, 3) := by decide +kernel
theorem dX9_judgeMethods_82 : decode cX9_judgeMethods 82 = .ok (.goto 8, 3) := by decide +kernel
theorem dX9_judgeMethods_90 : decode cX9_judgeMethods 90 = .ok (.invokevirtual 87, 3) := by decide +kernel
theorem dX9_judgeMethods_55 : decode cX9_judgeMethods 55 = .ok (.aload 5, 2) := by decide +kernel
theorem dX9_judgeMethods_85 : decode cX9_judgeMethods 85 = .ok (.aload 5, 2) := by decide +kernel
theorem dX9_judgeMethods_87 : decode cX9_judgeMethods 87 = .ok (.getfield 147, 3) := by decide +kernel
theorem hV_X9_firstFromAbove : yX9_firstFromAbove.cls = RX9 ∧ yX9_firstFromAbove.cls ≠ "java/lang/invoke/MethodHandle" ∧ yX9_firstFromAbove.cls ≠ "java/lang/invoke/VarHandle" ∧ (parseMethodDescriptor yX9_firstFromAbove.desc).map (fun d => d.parameters.length) = some 2 := by decide +kernel
theorem hV_X9_haveOneSignature : yX9_haveOneSignature.cls = RX9 ∧ yX9_haveOneSignature.cls ≠ "java/lang/invoke/MethodHandle" ∧ yX9_haveOneSignature.cls ≠ "java/lang/invoke/VarHandle" ∧ (parseMethodDescriptor yX9_haveOneSignature.desc).map (fun d => d.parameters.length) = some 2 := by decide +kernel
theorem hV_X2_nearest : yX2_nearest.cls = RX2 ∧ yX2_nearest.cls ≠ "java/lang/invoke/MethodHandle" ∧ yX2_nearest.cls ≠ "java/lang/invoke/VarHandle" ∧ (parseMethodDescriptor yX2_nearest.desc).map (fun d => d.parameters.length) = some 1 := by decide +kernel
theorem dX9_thirdRound_0 : decode cX9_thirdRound 0 = .ok (.bipush 7, 2) := by decide +kernel
theorem dX9_thirdRound_2 : decode cX9_thirdRound 2 = .ok (.istore_n 1, 1) := by decide +kernel
theorem dX9_thirdRound_3 : decode cX9_thirdRound 3 = .ok (.iload_n 1, 1) := by decide +kernel
theorem dX9_thirdRound_4 : decode cX9_thirdRound 4 = .ok (.aload_n 0, 1) := by decide +kernel
theorem dX9_thirdRound_5 : decode cX9_thirdRound 5 = .ok (.getfield 33, 3) := by decide +kernel
theorem dX9_thirdRound_8 : decode cX9_thirdRound 8 = .ok (.if_icmp .ge 63, 3) := by decide +kernel
theorem dX9_thirdRound_71 : decode cX9_thirdRound 71 = .ok (.aload_n 0, 1) := by decide +kernel
theorem dX9_thirdRound_72 : decode cX9_thirdRound 72 = .ok (.aload_n 0, 1) := by decide +kernel
theorem dX9_thirdRound_73 : decode cX9_thirdRound 73 = .ok (.bipush 36, 2) := by decide +kernel
theorem dX9_thirdRound_75 : decode cX9_thirdRound 75 = .ok (.invokevirtual 116, 3) := by decide +kernel
theorem dX9_thirdRound_78 : decode cX9_thirdRound 78 = .ok (.invokevirtual 160, 3) := by decide +kernel
theorem dX9_thirdRound_81 : decode cX9_thirdRound 81 = .ok (.astore_n 1, 1) := by decide +kernel
theorem dX9_thirdRound_82 : decode cX9_thirdRound 82 = .ok (.aload_n 1, 1) := by decide +kernel
theorem dX9_thirdRound_83 : decode cX9_thirdRound 83 = .ok (.ifnull 10, 3) := by decide +kernel
theorem dX9_thirdRound_93 : decode cX9_thirdRound 93 = .ok (.aconst_null, 1) := by decide +kernel
theorem dX9_thirdRound_94 : decode cX9_thirdRound 94 = .ok (.goto 9, 3) := by decide +kernel
theorem dX9_thirdRound_103 : decode cX9_thirdRound 103 = .ok (.astore_n 2, 1) := by decide +kernel
theorem dX9_thirdRound_104 : decode cX9_thirdRound 104 = .ok (.aload_n 2, 1) := by decide +kernel
theorem dX9_thirdRound_105 : decode cX9_thirdRound 105 = .ok (.ifnull 29, 3) := by decide +kernel
theorem dX9_thirdRound_134 : decode cX9_thirdRound 134 = .ok (.aload_n 0, 1) := by decide +kernel
theorem dX9_thirdRound_135 : decode cX9_thirdRound 135 = .ok (.bipush 9, 2) := by decide +kernel
theorem dX9_thirdRound_137 : decode cX9_thirdRound 137 = .ok (.aload_n 0, 1) := by decide +kernel
theorem dX9_thirdRound_138 : decode cX9_thirdRound 138 = .ok (.getfield 9, 3) := by decide +kernel
theorem dX9_thirdRound_141 : decode cX9_thirdRound 141 = .ok (.getfield 126, 3) := by decide +kernel
theorem dX9_thirdRound_144 : decode cX9_thirdRound 144 = .ok (.invokevirtual 87, 3) := by decide +kernel
theorem dX9_thirdRound_147 : decode cX9_thirdRound 147 = .ok (.return_, 1) := by decide +kernel
theorem dX9_thirdRound_86 : decode cX9_thirdRound 86 = .ok (.aload_n 1, 1) := by decide +kernel
theorem dX9_thirdRound_87 : decode cX9_thirdRound 87 = .ok (.getfield 164, 3) := by decide +kernel
theorem dX9_thirdRound_90 : decode cX9_thirdRound 90 = .ok (.ifCond .eq 7, 3) := by decide +kernel
theorem dX9_thirdRound_97 : decode cX9_thirdRound 97 = .ok (.aload_n 1, 1) := by decide +kernel
theorem dX9_thirdRound_98 : decode cX9_thirdRound 98 = .ok (.bipush 37, 2) := by decide +kernel
theorem dX9_thirdRound_100 : decode cX9_thirdRound 100 = .ok (.invokevirtual 188, 3) := by decide +kernel
theorem dX9_thirdRound_108 : decode cX9_thirdRound 108 = .ok (.aload_n 0, 1) := by decide +kernel
theorem dX9_thirdRound_109 : decode cX9_thirdRound 109 = .ok (.getfield 9, 3) := by decide +kernel
theorem dX9_thirdRound_112 : decode cX9_thirdRound 112 = .ok (.aload_n 2, 1) := by decide +kernel
theorem dX9_thirdRound_113 : decode cX9_thirdRound 113 = .ok (.getfield 191, 3) := by decide +kernel
theorem dX9_thirdRound_116 : decode cX9_thirdRound 116 = .ok (.invokevirtual 194, 3) := by decide +kernel
theorem dX9_thirdRound_119 : decode cX9_thirdRound 119 = .ok (.bipush 60, 2) := by decide +kernel
theorem dX9_thirdRound_121 : decode cX9_thirdRound 121 = .ok (.if_icmp .ne 13, 3) := by decide +kernel
theorem dX9_thirdRound_124 : decode cX9_thirdRound 124 = .ok (.aload_n 2, 1) := by decide +kernel
theorem dX9_thirdRound_125 : decode cX9_thirdRound 125 = .ok (.getfield 197, 3) := by decide +kernel
theorem dX9_thirdRound_128 : decode cX9_thirdRound 128 = .ok (.invokevirtual 45, 3) := by decide +kernel
theorem dX9_thirdRound_131 : decode cX9_thirdRound 131 = .ok (.ifCond .eq 16, 3) := by decide +kernel
theorem dX9_thirdRound_11 : decode cX9_thirdRound 11 = .ok (.aload_n 0, 1) := by decide +kernel
theorem dX9_thirdRound_12 : decode cX9_thirdRound 12 = .ok (.getfield 17, 3) := by decide +kernel
theorem dX9_thirdRound_15 : decode cX9_thirdRound 15 = .ok (.iload_n 1, 1) := by decide +kernel
theorem dX9_thirdRound_16 : decode cX9_thirdRound 16 = .ok (.aaload, 1) := by decide +kernel
theorem dX9_thirdRound_17 : decode cX9_thirdRound 17 = .ok (.astore_n 2, 1) := by decide +kernel
theorem dX9_thirdRound_18 : decode cX9_thirdRound 18 = .ok (.iconst 0, 1) := by decide +kernel
theorem dX9_thirdRound_19 : decode cX9_thirdRound 19 = .ok (.istore_n 3, 1) := by decide +kernel
theorem dX9_thirdRound_20 : decode cX9_thirdRound 20 = .ok (.iload_n 3, 1) := by decide +kernel
theorem dX9_thirdRound_21 : decode cX9_thirdRound 21 = .ok (.aload_n 0, 1) := by decide +kernel
theorem dX9_thirdRound_22 : decode cX9_thirdRound 22 = .ok (.getfield 33, 3) := by decide +kernel
theorem dX9_thirdRound_25 : decode cX9_thirdRound 25 = .ok (.if_icmp .ge 40, 3) := by decide +kernel
theorem dX9_thirdRound_65 : decode cX9_thirdRound 65 = .ok (.iinc 1 1, 3) := by decide +kernel
theorem dX9_thirdRound_68 : decode cX9_thirdRound 68 = .ok (.goto (-65), 3) := by decide +kernel
theorem dX9_thirdRound_28 : decode cX9_thirdRound 28 = .ok (.aload_n 0, 1) := by decide +kernel
theorem dX9_thirdRound_29 : decode cX9_thirdRound 29 = .ok (.iload_n 3, 1) := by decide +kernel
theorem dX9_thirdRound_30 : decode cX9_thirdRound 30 = .ok (.iload_n 1, 1) := by decide +kernel
theorem dX9_thirdRound_31 : decode cX9_thirdRound 31 = .ok (.invokevirtual 65, 3) := by decide +kernel
theorem dX9_thirdRound_34 : decode cX9_thirdRound 34 = .ok (.ifCond .eq 25, 3) := by decide +kernel
theorem dX9_thirdRound_59 : decode cX9_thirdRound 59 = .ok (.iinc 3 1, 3) := by decide +kernel
theorem dX9_thirdRound_62 : decode cX9_thirdRound 62 = .ok (.goto (-42), 3) := by decide +kernel
theorem dX9_thirdRound_37 : decode cX9_thirdRound 37 = .ok (.aload_n 0, 1) := by decide +kernel
theorem dX9_thirdRound_38 : decode cX9_thirdRound 38 = .ok (.aload_n 2, 1) := by decide +kernel
theorem dX9_thirdRound_39 : decode cX9_thirdRound 39 = .ok (.aload_n 0, 1) := by decide +kernel
theorem dX9_thirdRound_40 : decode cX9_thirdRound 40 = .ok (.getfield 17, 3) := by decide +kernel
theorem dX9_thirdRound_43 : decode cX9_thirdRound 43 = .ok (.iload_n 3, 1) := by decide +kernel
theorem dX9_thirdRound_44 : decode cX9_thirdRound 44 = .ok (.aaload, 1) := by decide +kernel
theorem dX9_thirdRound_45 : decode cX9_thirdRound 45 = .ok (.invokevirtual 181, 3) := by decide +kernel
theorem dX9_thirdRound_48 : decode cX9_thirdRound 48 = .ok (.aload_n 0, 1) := by decide +kernel
theorem dX9_thirdRound_49 : decode cX9_thirdRound 49 = .ok (.aload_n 2, 1) := by decide +kernel
theorem dX9_thirdRound_50 : decode cX9_thirdRound 50 = .ok (.aload_n 0, 1) := by decide +kernel
theorem dX9_thirdRound_51 : decode cX9_thirdRound 51 = .ok (.getfield 17, 3) := by decide +kernel
theorem dX9_thirdRound_54 : decode cX9_thirdRound 54 = .ok (.iload_n 3, 1) := by decide +kernel
theorem dX9_thirdRound_55 : decode cX9_thirdRound 55 = .ok (.aaload, 1) := by decide +kernel
theorem dX9_thirdRound_56 : decode cX9_thirdRound 56 = .ok (.invokevirtual 185, 3) := by decide +kernel
theorem hV_X9_judgeFields : yX9_judgeFields.cls = RX9 ∧ yX9_judgeFields.cls ≠ "java/lang/invoke/MethodHandle" ∧ yX9_judgeFields.cls ≠ "java/lang/invoke/VarHandle" ∧ (parseMethodDescriptor yX9_judgeFields.desc).map (fun d => d.parameters.length) = some 2 := by decide +kernel
theorem hV_X9_judgeMethods : yX9_judgeMethods.cls = RX9 ∧ yX9_judgeMethods.cls ≠ "java/lang/invoke/MethodHandle" ∧ yX9_judgeMethods.cls ≠ "java/lang/invoke/VarHandle" ∧ (parseMethodDescriptor yX9_judgeMethods.desc).map (fun d => d.parameters.length) = some 2 := by decide +kernel