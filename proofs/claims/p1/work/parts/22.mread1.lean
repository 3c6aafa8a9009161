theorem dX12_cut_0 : decode cX12_cut 0 = .ok (.aload_n 0, 1) := by decide +kernel
theorem dX12_cut_1 : decode cX12_cut 1 = .ok (.iconst 0, 1) := by decide +kernel
theorem dX12_cut_2 : decode cX12_cut 2 = .ok (.putfield 277, 3) := by decide +kernel
theorem dX12_cut_5 : decode cX12_cut 5 = .ok (.aload_n 0, 1) := by decide +kernel
theorem dX12_cut_6 : decode cX12_cut 6 = .ok (.iconst 0, 1) := by decide +kernel
theorem dX12_cut_7 : decode cX12_cut 7 = .ok (.putfield 280, 3) := by decide +kernel
theorem dX12_cut_10 : decode cX12_cut 10 = .ok (.aload_n 0, 1) := by decide +kernel
theorem dX12_cut_11 : decode cX12_cut 11 = .ok (.ldc_w 292, 3) := by decide +kernel
theorem dX12_cut_14 : decode cX12_cut 14 = .ok (.invokevirtual 294, 3) := by decide +kernel
theorem dX12_cut_17 : decode cX12_cut 17 = .ok (.aload_n 0, 1) := by decide +kernel
theorem dX12_cut_18 : decode cX12_cut 18 = .ok (.ldc_w 298, 3) := by decide +kernel
theorem dX12_cut_21 : decode cX12_cut 21 = .ok (.invokevirtual 294, 3) := by decide +kernel
theorem dX12_cut_24 : decode cX12_cut 24 = .ok (.aload_n 0, 1) := by decide +kernel
theorem dX12_cut_25 : decode cX12_cut 25 = .ok (.ldc_w 300, 3) := by decide +kernel
theorem dX12_cut_28 : decode cX12_cut 28 = .ok (.invokevirtual 294, 3) := by decide +kernel
theorem dX12_cut_31 : decode cX12_cut 31 = .ok (.aload_n 0, 1) := by decide +kernel
theorem dX12_cut_32 : decode cX12_cut 32 = .ok (.ldc_w 302, 3) := by decide +kernel
theorem dX12_cut_35 : decode cX12_cut 35 = .ok (.invokevirtual 294, 3) := by decide +kernel
theorem dX12_cut_38 : decode cX12_cut 38 = .ok (.aload_n 0, 1) := by decide +kernel
theorem dX12_cut_39 : decode cX12_cut 39 = .ok (.ldc_w 304, 3) := by decide +kernel
theorem dX12_cut_42 : decode cX12_cut 42 = .ok (.invokevirtual 294, 3) := by decide +kernel
theorem dX12_cut_45 : decode cX12_cut 45 = .ok (.aload_n 0, 1) := by decide +kernel
theorem dX12_cut_46 : decode cX12_cut 46 = .ok (.ldc_w 306, 3) := by decide +kernel
theorem dX12_cut_49 : decode cX12_cut 49 = .ok (.invokevirtual 294, 3) := by decide +kernel
theorem dX12_cut_52 : decode cX12_cut 52 = .ok (.aload_n 0, 1) := by decide +kernel
theorem dX12_cut_53 : decode cX12_cut 53 = .ok (.ldc_w 308, 3) := by decide +kernel
theorem dX12_cut_56 : decode cX12_cut 56 = .ok (.invokevirtual 294, 3) := by decide +kernel
theorem dX12_cut_59 : decode cX12_cut 59 = .ok (.aload_n 0, 1) := by decide +kernel
theorem dX12_cut_60 : decode cX12_cut 60 = .ok (.ldc_w 310, 3) := by decide +kernel
theorem dX12_cut_63 : decode cX12_cut 63 = .ok (.invokevirtual 294, 3) := by decide +kernel
theorem dX12_cut_66 : decode cX12_cut 66 = .ok (.aload_n 0, 1) := by decide +kernel
theorem dX12_cut_67 : decode cX12_cut 67 = .ok (.ldc_w 312, 3) := by decide +kernel
theorem dX12_cut_70 : decode cX12_cut 70 = .ok (.invokevirtual 294, 3) := by decide +kernel
theorem dX12_cut_73 : decode cX12_cut 73 = .ok (.aload_n 0, 1) := by decide +kernel
theorem dX12_cut_74 : decode cX12_cut 74 = .ok (.iconst 0, 1) := by decide +kernel
theorem dX12_cut_75 : decode cX12_cut 75 = .ok (.putfield 314, 3) := by decide +kernel
theorem dX12_cut_78 : decode cX12_cut 78 = .ok (.iconst 0, 1) := by decide +kernel
theorem dX12_cut_79 : decode cX12_cut 79 = .ok (.istore_n 1, 1) := by decide +kernel
theorem dX12_cut_80 : decode cX12_cut 80 = .ok (.iconst 1, 1) := by decide +kernel
theorem dX12_cut_81 : decode cX12_cut 81 = .ok (.istore_n 2, 1) := by decide +kernel
theorem dX12_cut_82 : decode cX12_cut 82 = .ok (.iload_n 2, 1) := by decide +kernel
theorem dX12_cut_83 : decode cX12_cut 83 = .ok (.ifCond .eq 471, 3) := by decide +kernel
theorem dX12_cut_86 : decode cX12_cut 86 = .ok (.aload_n 0, 1) := by decide +kernel
theorem dX12_cut_87 : decode cX12_cut 87 = .ok (.iload_n 1, 1) := by decide +kernel
theorem dX12_cut_88 : decode cX12_cut 88 = .ok (.invokevirtual 283, 3) := by decide +kernel
theorem dX12_cut_91 : decode cX12_cut 91 = .ok (.bipush 9, 2) := by decide +kernel
theorem dX12_cut_93 : decode cX12_cut 93 = .ok (.if_icmp .eq 33, 3) := by decide +kernel
theorem dX12_cut_96 : decode cX12_cut 96 = .ok (.aload_n 0, 1) := by decide +kernel
theorem dX12_cut_97 : decode cX12_cut 97 = .ok (.iload_n 1, 1) := by decide +kernel
theorem dX12_cut_98 : decode cX12_cut 98 = .ok (.invokevirtual 283, 3) := by decide +kernel
theorem dX12_cut_101 : decode cX12_cut 101 = .ok (.bipush 10, 2) := by decide +kernel
theorem dX12_cut_103 : decode cX12_cut 103 = .ok (.if_icmp .eq 23, 3) := by decide +kernel
theorem dX12_cut_106 : decode cX12_cut 106 = .ok (.aload_n 0, 1) := by decide +kernel
theorem dX12_cut_107 : decode cX12_cut 107 = .ok (.iload_n 1, 1) := by decide +kernel
theorem dX12_cut_108 : decode cX12_cut 108 = .ok (.invokevirtual 283, 3) := by decide +kernel
theorem dX12_cut_111 : decode cX12_cut 111 = .ok (.bipush 13, 2) := by decide +kernel
theorem dX12_cut_113 : decode cX12_cut 113 = .ok (.if_icmp .eq 13, 3) := by decide +kernel
theorem dX12_cut_116 : decode cX12_cut 116 = .ok (.aload_n 0, 1) := by decide +kernel
theorem dX12_cut_117 : decode cX12_cut 117 = .ok (.iload_n 1, 1) := by decide +kernel
theorem dX12_cut_118 : decode cX12_cut 118 = .ok (.invokevirtual 283, 3) := by decide +kernel
theorem dX12_cut_121 : decode cX12_cut 121 = .ok (.bipush 32, 2) := by decide +kernel
theorem dX12_cut_123 : decode cX12_cut 123 = .ok (.if_icmp .ne 9, 3) := by decide +kernel
theorem dX12_cut_132 : decode cX12_cut 132 = .ok (.aload_n 0, 1) := by decide +kernel
theorem dX12_cut_133 : decode cX12_cut 133 = .ok (.iload_n 1, 1) := by decide +kernel
theorem dX12_cut_134 : decode cX12_cut 134 = .ok (.invokevirtual 283, 3) := by decide +kernel
theorem dX12_cut_137 : decode cX12_cut 137 = .ok (.bipush 47, 2) := by decide +kernel
theorem dX12_cut_139 : decode cX12_cut 139 = .ok (.if_icmp .ne 39, 3) := by decide +kernel
theorem dX12_cut_178 : decode cX12_cut 178 = .ok (.iload_n 1, 1) := by decide +kernel
theorem dX12_cut_179 : decode cX12_cut 179 = .ok (.iconst 1, 1) := by decide +kernel
theorem dX12_cut_180 : decode cX12_cut 180 = .ok (.iadd, 1) := by decide +kernel
theorem dX12_cut_181 : decode cX12_cut 181 = .ok (.istore_n 3, 1) := by decide +kernel
theorem dX12_cut_182 : decode cX12_cut 182 = .ok (.iconst 0, 1) := by decide +kernel
theorem dX12_cut_183 : decode cX12_cut 183 = .ok (.istore 4, 2) := by decide +kernel
theorem dX12_cut_185 : decode cX12_cut 185 = .ok (.iconst 0, 1) := by decide +kernel
theorem dX12_cut_186 : decode cX12_cut 186 = .ok (.istore 5, 2) := by decide +kernel
theorem dX12_cut_188 : decode cX12_cut 188 = .ok (.iload_n 1, 1) := by decide +kernel
theorem dX12_cut_189 : decode cX12_cut 189 = .ok (.aload_n 0, 1) := by decide +kernel
theorem dX12_cut_190 : decode cX12_cut 190 = .ok (.getfield 258, 3) := by decide +kernel
theorem dX12_cut_193 : decode cX12_cut 193 = .ok (.if_icmp .lt 8, 3) := by decide +kernel
theorem dX12_cut_196 : decode cX12_cut 196 = .ok (.iload_n 1, 1) := by decide +kernel
theorem dX12_cut_197 : decode cX12_cut 197 = .ok (.istore_n 3, 1) := by decide +kernel
theorem dX12_cut_198 : decode cX12_cut 198 = .ok (.goto 274, 3) := by decide +kernel
theorem dX12_cut_472 : decode cX12_cut 472 = .ok (.aload_n 0, 1) := by decide +kernel
theorem dX12_cut_473 : decode cX12_cut 473 = .ok (.getfield 16, 3) := by decide +kernel
theorem dX12_cut_476 : decode cX12_cut 476 = .ok (.aload_n 0, 1) := by decide +kernel
theorem dX12_cut_477 : decode cX12_cut 477 = .ok (.getfield 314, 3) := by decide +kernel
theorem dX12_cut_480 : decode cX12_cut 480 = .ok (.iload 4, 2) := by decide +kernel
theorem dX12_cut_482 : decode cX12_cut 482 = .ok (.iastore, 1) := by decide +kernel
theorem dX12_cut_483 : decode cX12_cut 483 = .ok (.aload_n 0, 1) := by decide +kernel
theorem dX12_cut_484 : decode cX12_cut 484 = .ok (.getfield 19, 3) := by decide +kernel
theorem dX12_cut_487 : decode cX12_cut 487 = .ok (.aload_n 0, 1) := by decide +kernel
theorem dX12_cut_488 : decode cX12_cut 488 = .ok (.getfield 314, 3) := by decide +kernel
theorem dX12_cut_491 : decode cX12_cut 491 = .ok (.iload_n 1, 1) := by decide +kernel
theorem dX12_cut_492 : decode cX12_cut 492 = .ok (.iastore, 1) := by decide +kernel
theorem dX12_cut_493 : decode cX12_cut 493 = .ok (.aload_n 0, 1) := by decide +kernel
theorem dX12_cut_494 : decode cX12_cut 494 = .ok (.getfield 22, 3) := by decide +kernel
theorem dX12_cut_497 : decode cX12_cut 497 = .ok (.aload_n 0, 1) := by decide +kernel
theorem dX12_cut_498 : decode cX12_cut 498 = .ok (.getfield 314, 3) := by decide +kernel
theorem dX12_cut_501 : decode cX12_cut 501 = .ok (.iload_n 3, 1) := by decide +kernel
theorem dX12_cut_502 : decode cX12_cut 502 = .ok (.iastore, 1) := by decide +kernel
theorem dX12_cut_503 : decode cX12_cut 503 = .ok (.aload_n 0, 1) := by decide +kernel
theorem dX12_cut_504 : decode cX12_cut 504 = .ok (.getfield 25, 3) := by decide +kernel
theorem dX12_cut_507 : decode cX12_cut 507 = .ok (.aload_n 0, 1) := by decide +kernel
theorem dX12_cut_508 : decode cX12_cut 508 = .ok (.getfield 314, 3) := by decide +kernel
theorem dX12_cut_511 : decode cX12_cut 511 = .ok (.iload 5, 2) := by decide +kernel
theorem dX12_cut_513 : decode cX12_cut 513 = .ok (.iastore, 1) := by decide +kernel
theorem dX12_cut_514 : decode cX12_cut 514 = .ok (.iload 4, 2) := by decide +kernel
theorem dX12_cut_516 : decode cX12_cut 516 = .ok (.ifCond .eq 13, 3) := by decide +kernel
theorem dX12_cut_529 : decode cX12_cut 529 = .ok (.iconst 0, 1) := by decide +kernel
theorem dX12_cut_530 : decode cX12_cut 530 = .ok (.istore_n 2, 1) := by decide +kernel
theorem dX12_cut_531 : decode cX12_cut 531 = .ok (.aload_n 0, 1) := by decide +kernel
theorem dX12_cut_532 : decode cX12_cut 532 = .ok (.dup, 1) := by decide +kernel
theorem dX12_cut_533 : decode cX12_cut 533 = .ok (.getfield 314, 3) := by decide +kernel
theorem dX12_cut_536 : decode cX12_cut 536 = .ok (.iload_n 2, 1) := by decide +kernel
theorem dX12_cut_537 : decode cX12_cut 537 = .ok (.ifCond .eq 7, 3) := by decide +kernel
theorem dX12_cut_544 : decode cX12_cut 544 = .ok (.iconst 0, 1) := by decide +kernel
theorem dX12_cut_545 : decode cX12_cut 545 = .ok (.iadd, 1) := by decide +kernel
theorem dX12_cut_546 : decode cX12_cut 546 = .ok (.putfield 314, 3) := by decide +kernel
theorem dX12_cut_549 : decode cX12_cut 549 = .ok (.iload_n 3, 1) := by decide +kernel
theorem dX12_cut_550 : decode cX12_cut 550 = .ok (.istore_n 1, 1) := by decide +kernel
theorem dX12_cut_551 : decode cX12_cut 551 = .ok (.goto (-469), 3) := by decide +kernel
theorem dX12_cut_554 : decode cX12_cut 554 = .ok (.return_, 1) := by decide +kernel
theorem hV_X12_built : yX12_built.cls = RX12 ∧ yX12_built.cls ≠ "java/lang/invoke/MethodHandle" ∧ yX12_built.cls ≠ "java/lang/invoke/VarHandle" ∧ (parseMethodDescriptor yX12_built.desc).map (fun d => d.parameters.length) = some 1 := by decide +kernel
theorem hV_X12_ch : yX12_ch.cls = RX12 ∧ yX12_ch.cls ≠ "java/lang/invoke/MethodHandle" ∧ yX12_ch.cls ≠ "java/lang/invoke/VarHandle" ∧ (parseMethodDescriptor yX12_ch.desc).map (fun d => d.parameters.length) = some 1 := by decide +kernel
set_option maxHeartbeats 4000000 in
set_option maxRecDepth 100000 in
/-- cut of an empty text -/
theorem m_cut (l : Launch) (G : pT) (h0 : Nat) (a : Nat → Nat) (fs : List Value) (f10 : Nat → Int32) (f11 : Nat → Int32) (f12 : Nat → Int32) (f5 : Nat → Int32) (f6 : Nat → Int32) (f7 : Nat → Int32) (f8 : Nat → Int32) (hn : fs.length = 134) (hf_4 : fs[4]? = some (.int 0)) (hf_10 : fs[10]? = some (.ref (a 6))) (hf_11 : fs[11]? = some (.ref (a 7))) (hf_12 : fs[12]? = some (.ref (a 8))) (hf_5 : fs[5]? = some (.ref (a 2))) (hf_6 : fs[6]? = some (.ref (a 3))) (hf_7 : fs[7]? = some (.ref (a 4))) (hf_8 : fs[8]? = some (.ref (a 5))) : PM l G pX0 yX12_cut cX12_cut 9 none ({ frames := 7, cells := 0, slots := 0, locals := 167 }) [.ref h0] [(h0, .inr (9, fs)), ((a 6), .inl (G.2.1 0, 5100, .inl f10)), ((a 7), .inl (G.2.1 0, 5100, .inl f11)), ((a 8), .inl (G.2.1 1, 5100, .inl f12)), ((a 2), .inl (G.2.1 0, 5001, .inl f5)), ((a 3), .inl (G.2.1 0, 5001, .inl f6)), ((a 4), .inl (G.2.1 0, 5001, .inl f7)), ((a 5), .inl (G.2.1 0, 5001, .inl f8))] (fun (v : Option Value) (u : List Value × (Nat → Int32) × (Nat → Int32)) => v = none ∧ u.1.length = 134 ∧ u.1[14]? = some (.int 9) ∧ u.1[13]? = some (.int 40) ∧ u.1[9]? = some (.int 0) ∧ (∀ j : Nat, j ≠ 14 → j ≠ 13 → j ≠ 9 → u.1[j]? = fs[j]?) ∧ u.2.1 0 = 0 ∧ u.2.2 0 = 0) (fun u => [(h0, .inr (9, u.1)), ((a 2), .inl (G.2.1 0, 5001, .inl u.2.1)), ((a 3), .inl (G.2.1 0, 5001, .inl u.2.2))]) := by
  intro sz
  refine Met.ofW (cc := cX12_cut) (maxL := 9) (ret := none) (by decide) rfl ?_
  intro p e s m args below meth c s₁ B hml hv
  obtain ⟨rfl, hsz, hP, hD0, hE, hX⟩ := hv
  have hx := B.exec
  have hb := B.bytes
  have hr := B.returns
  have hts := atoms_spec (ws := Cond.code yX12_cut cX12_cut 9 none :: pw) B.pre
  have hq : ∀ w ∈ pw, w.before _ s = true := fun w h => hts w (List.mem_cons_of_mem _ h)
  have hown : s.vm.findClass RX12 = some m.cls := findClass_of_methodNamed B.named
  have hlocks := B.notSynchronized
  subst hsz
  have hD := hD0.self (sz := s.heap.size)
  have hA : ∀ q : Nat, s.heap.size ≤ q → va_A [(h0, .inr (9, fs)), ((a 6), .inl (G.2.1 0, 5100, .inl f10)), ((a 7), .inl (G.2.1 0, 5100, .inl f11)), ((a 8), .inl (G.2.1 1, 5100, .inl f12)), ((a 2), .inl (G.2.1 0, 5001, .inl f5)), ((a 3), .inl (G.2.1 0, 5001, .inl f6)), ((a 4), .inl (G.2.1 0, 5001, .inl f7)), ((a 5), .inl (G.2.1 0, 5001, .inl f8))] s.heap.size q := fun q h => Or.inr h
  have hP : va_P G.1 pCl [(h0, .inr (9, fs)), ((a 6), .inl (G.2.1 0, 5100, .inl f10)), ((a 7), .inl (G.2.1 0, 5100, .inl f11)), ((a 8), .inl (G.2.1 1, 5100, .inl f12)), ((a 2), .inl (G.2.1 0, 5001, .inl f5)), ((a 3), .inl (G.2.1 0, 5001, .inl f6)), ((a 4), .inl (G.2.1 0, 5001, .inl f7)), ((a 5), .inl (G.2.1 0, 5001, .inl f8))] s.heap := hP
  generalize va_A [(h0, .inr (9, fs)), ((a 6), .inl (G.2.1 0, 5100, .inl f10)), ((a 7), .inl (G.2.1 0, 5100, .inl f11)), ((a 8), .inl (G.2.1 1, 5100, .inl f12)), ((a 2), .inl (G.2.1 0, 5001, .inl f5)), ((a 3), .inl (G.2.1 0, 5001, .inl f6)), ((a 4), .inl (G.2.1 0, 5001, .inl f7)), ((a 5), .inl (G.2.1 0, 5001, .inl f8))] s.heap.size = A at hD hE hA ⊢
  have hS : va_S A s.heap s.heap [] := va_S.rf
  have hl := lv_entry ([.ref h0]) (n := 9) (Nat.le_of_ble_eq_true rfl)
  rw [lg_entry_eq]
  generalize (lg_sl ([.ref h0]) ++ List.replicate (9 - (lg_sl ([.ref h0])).length) Slot.unset).toArray = ls at hl ⊢
  have hl : lv_has ls 9 [(0, .ref h0)] := hl
  refine lv_aload_n hx hb dX12_cut_0 rfl (lv_at hl 0 rfl) ?_
  refine lv_iconst (v := 0) hx hb dX12_cut_1 (by decide) ?_
  refine va_put (D := G.1) (ci := 9) (v := .int 0) (ty := .int) (C := RX12) (T := TX12) (N := 134) hx hb hq pin_wsX120 tyX12 tyX12_ok nmX12 hown hE.1.1 hP hD hS 0 rfl rfl 14 (by decide) (by rw [tFX12_14]; exact hq _ pw_262) (fun _ h9 => h9) (by rw [tFX12_14]) (by rw [tFX12_14]; decide +kernel) rfl rfl (by rw [hn]; decide) dX12_cut_2 (fun H locs hP hD hS => ?_)
  obtain ⟨fs1, e2⟩ : ∃ z : List Value, z = fs.set 14 (.int 0) := ⟨_, rfl⟩
  have hn3 : fs1.length = 134 := by rw [e2, List.length_set]; exact hn
  have hP : va_P G.1 pCl [(h0, .inr (9, fs1)), ((a 6), .inl (G.2.1 0, 5100, .inl f10)), ((a 7), .inl (G.2.1 0, 5100, .inl f11)), ((a 8), .inl (G.2.1 1, 5100, .inl f12)), ((a 2), .inl (G.2.1 0, 5001, .inl f5)), ((a 3), .inl (G.2.1 0, 5001, .inl f6)), ((a 4), .inl (G.2.1 0, 5001, .inl f7)), ((a 5), .inl (G.2.1 0, 5001, .inl f8))] H := by rw [e2]; exact hP
  have hD : va_D A [(h0, .inr (9, fs1)), ((a 6), .inl (G.2.1 0, 5100, .inl f10)), ((a 7), .inl (G.2.1 0, 5100, .inl f11)), ((a 8), .inl (G.2.1 1, 5100, .inl f12)), ((a 2), .inl (G.2.1 0, 5001, .inl f5)), ((a 3), .inl (G.2.1 0, 5001, .inl f6)), ((a 4), .inl (G.2.1 0, 5001, .inl f7)), ((a 5), .inl (G.2.1 0, 5001, .inl f8))] := by rw [e2]; exact hD
  refine lv_aload_n hx hb dX12_cut_5 rfl (lv_at hl 0 rfl) ?_
  refine lv_iconst (v := 0) hx hb dX12_cut_6 (by decide) ?_
  refine va_put (D := G.1) (ci := 9) (v := .int 0) (ty := .int) (C := RX12) (T := TX12) (N := 134) hx hb hq pin_wsX120 tyX12 tyX12_ok nmX12 hown hE.1.1 hP hD hS 0 rfl rfl 13 (by decide) (by rw [tFX12_13]; exact hq _ pw_263) (fun _ h9 => h9) (by rw [tFX12_13]) (by rw [tFX12_13]; decide +kernel) rfl rfl (by rw [hn3]; decide) dX12_cut_7 (fun H locs hP hD hS => ?_)
  obtain ⟨fs4, e5⟩ : ∃ z : List Value, z = fs1.set 13 (.int 0) := ⟨_, rfl⟩
  have hn6 : fs4.length = 134 := by rw [e5, List.length_set]; exact hn3
  have hP : va_P G.1 pCl [(h0, .inr (9, fs4)), ((a 6), .inl (G.2.1 0, 5100, .inl f10)), ((a 7), .inl (G.2.1 0, 5100, .inl f11)), ((a 8), .inl (G.2.1 1, 5100, .inl f12)), ((a 2), .inl (G.2.1 0, 5001, .inl f5)), ((a 3), .inl (G.2.1 0, 5001, .inl f6)), ((a 4), .inl (G.2.1 0, 5001, .inl f7)), ((a 5), .inl (G.2.1 0, 5001, .inl f8))] H := by rw [e5]; exact hP
  have hD : va_D A [(h0, .inr (9, fs4)), ((a 6), .inl (G.2.1 0, 5100, .inl f10)), ((a 7), .inl (G.2.1 0, 5100, .inl f11)), ((a 8), .inl (G.2.1 1, 5100, .inl f12)), ((a 2), .inl (G.2.1 0, 5001, .inl f5)), ((a 3), .inl (G.2.1 0, 5001, .inl f6)), ((a 4), .inl (G.2.1 0, 5001, .inl f7)), ((a 5), .inl (G.2.1 0, 5001, .inl f8))] := by rw [e5]; exact hD
  refine lv_aload_n hx hb dX12_cut_10 rfl (lv_at hl 0 rfl) ?_
  refine pn_ldcSW (q := G.2.2.1 3) hx hb hown (hE.2.2.1 3 (by decide)) dX12_cut_11 ?_
  refine pc_V (G := G) (As := [.ref (G.2.2.1 3)]) (rest := []) (wr := [((a 2), .inl (G.2.1 0, 5001, .inl f5)), ((a 3), .inl (G.2.1 0, 5001, .inl f6)), ((a 4), .inl (G.2.1 0, 5001, .inl f7)), ((a 5), .inl (G.2.1 0, 5001, .inl f8))]) hx hb hml hown hq hE hX pX0_al hP hD hS hA hl.1 (m_built l G h0 a fs4 3 0 0 6 f10 f11 f12 hn6 (by rw [e5, List.getElem?_set_ne (by decide), e2]; exact List.getElem?_set_self (by rw [hn]; decide)) (by rw [e5]; exact List.getElem?_set_self (by rw [hn3]; decide)) (by rw [e5, List.getElem?_set_ne (by decide), e2, List.getElem?_set_ne (by decide)]; exact hf_10) (by rw [e5, List.getElem?_set_ne (by decide), e2, List.getElem?_set_ne (by decide)]; exact hf_11) (by rw [e5, List.getElem?_set_ne (by decide), e2, List.getElem?_set_ne (by decide)]; exact hf_12) (by decide) (by decide +kernel) (by decide) (by decide)) (gV pw_266 pw_533 pw_534 pw_517 pw_532) hV_X12_built 0 9 rfl rfl rfl [0, 1, 2, 3] [4, 5, 6, 7] rfl rfl (by decide) (by decide) (by decide) rfl (Nat.le_of_ble_eq_true rfl) dX12_cut_14 ⟨Nat.le_of_ble_eq_true rfl, Nat.le_of_ble_eq_true rfl⟩ ⟨Nat.le_of_ble_eq_true rfl, Nat.le_of_ble_eq_true rfl⟩ (fun v9 u7 H locs hw8 hP hD hS => ?_)
  obtain rfl : v9 = none := hw8.1
  have hP : va_P G.1 pCl [((a 2), .inl (G.2.1 0, 5001, .inl f5)), ((a 3), .inl (G.2.1 0, 5001, .inl f6)), ((a 4), .inl (G.2.1 0, 5001, .inl f7)), ((a 5), .inl (G.2.1 0, 5001, .inl f8)), (h0, .inr (9, u7.1)), ((a 6), .inl (G.2.1 0, 5100, .inl u7.2.1)), ((a 7), .inl (G.2.1 0, 5100, .inl u7.2.2.1)), ((a 8), .inl (G.2.1 1, 5100, .inl u7.2.2.2))] H := hP
  have hD : va_D A [((a 2), .inl (G.2.1 0, 5001, .inl f5)), ((a 3), .inl (G.2.1 0, 5001, .inl f6)), ((a 4), .inl (G.2.1 0, 5001, .inl f7)), ((a 5), .inl (G.2.1 0, 5001, .inl f8)), (h0, .inr (9, u7.1)), ((a 6), .inl (G.2.1 0, 5100, .inl u7.2.1)), ((a 7), .inl (G.2.1 0, 5100, .inl u7.2.2.1)), ((a 8), .inl (G.2.1 1, 5100, .inl u7.2.2.2))] := hD
  obtain ⟨fs10, f13, f14, f15⟩ := u7
  obtain ⟨-, hn16, hk18, hk19, hfr17⟩ := hw8
  have hn16 : fs10.length = 134 := hn16
  have hk18 : fs10[13]? = some (.int 6) := hk18
  have hk19 : fs10[14]? = some (.int 1) := hk19
  have hfr17 : ∀ j : Nat, j ≠ 13 → j ≠ 14 → fs10[j]? = fs4[j]? := hfr17
  have hP : va_P G.1 pCl [((a 2), .inl (G.2.1 0, 5001, .inl f5)), ((a 3), .inl (G.2.1 0, 5001, .inl f6)), ((a 4), .inl (G.2.1 0, 5001, .inl f7)), ((a 5), .inl (G.2.1 0, 5001, .inl f8)), (h0, .inr (9, fs10)), ((a 6), .inl (G.2.1 0, 5100, .inl f13)), ((a 7), .inl (G.2.1 0, 5100, .inl f14)), ((a 8), .inl (G.2.1 1, 5100, .inl f15))] H := hP
  have hD : va_D A [((a 2), .inl (G.2.1 0, 5001, .inl f5)), ((a 3), .inl (G.2.1 0, 5001, .inl f6)), ((a 4), .inl (G.2.1 0, 5001, .inl f7)), ((a 5), .inl (G.2.1 0, 5001, .inl f8)), (h0, .inr (9, fs10)), ((a 6), .inl (G.2.1 0, 5100, .inl f13)), ((a 7), .inl (G.2.1 0, 5100, .inl f14)), ((a 8), .inl (G.2.1 1, 5100, .inl f15))] := hD
  refine W.widen (k := 0) (n := 0) (Nat.le_of_ble_eq_true rfl) (Nat.le_of_ble_eq_true rfl) ?_
  refine W.eq (g2 := F0 m 17 ls []) rfl ?_
  refine lv_aload_n hx hb dX12_cut_17 rfl (lv_at hl 0 rfl) ?_
  refine pn_ldcSW (q := G.2.2.1 4) hx hb hown (hE.2.2.1 4 (by decide)) dX12_cut_18 ?_
  refine pc_V (G := G) (As := [.ref (G.2.2.1 4)]) (rest := []) (wr := [((a 2), .inl (G.2.1 0, 5001, .inl f5)), ((a 3), .inl (G.2.1 0, 5001, .inl f6)), ((a 4), .inl (G.2.1 0, 5001, .inl f7)), ((a 5), .inl (G.2.1 0, 5001, .inl f8))]) hx hb hml hown hq hE hX pX0_al hP hD hS hA hl.1 (m_built l G h0 a fs10 4 1 6 4 f13 f14 f15 hn16 hk19 hk18 (by rw [hfr17 10 (by decide) (by decide), e5, List.getElem?_set_ne (by decide), e2, List.getElem?_set_ne (by decide)]; exact hf_10) (by rw [hfr17 11 (by decide) (by decide), e5, List.getElem?_set_ne (by decide), e2, List.getElem?_set_ne (by decide)]; exact hf_11) (by rw [hfr17 12 (by decide) (by decide), e5, List.getElem?_set_ne (by decide), e2, List.getElem?_set_ne (by decide)]; exact hf_12) (by decide) (by decide +kernel) (by decide) (by decide)) (gV pw_266 pw_533 pw_534 pw_517 pw_532) hV_X12_built 4 9 rfl rfl rfl [4, 5, 6, 7] [0, 1, 2, 3] rfl rfl (by decide) (by decide) (by decide) rfl (Nat.le_of_ble_eq_true rfl) dX12_cut_21 ⟨Nat.le_of_ble_eq_true rfl, Nat.le_of_ble_eq_true rfl⟩ ⟨Nat.le_of_ble_eq_true rfl, Nat.le_of_ble_eq_true rfl⟩ (fun v22 u20 H locs hw21 hP hD hS => ?_)
  obtain rfl : v22 = none := hw21.1
  have hP : va_P G.1 pCl [((a 2), .inl (G.2.1 0, 5001, .inl f5)), ((a 3), .inl (G.2.1 0, 5001, .inl f6)), ((a 4), .inl (G.2.1 0, 5001, .inl f7)), ((a 5), .inl (G.2.1 0, 5001, .inl f8)), (h0, .inr (9, u20.1)), ((a 6), .inl (G.2.1 0, 5100, .inl u20.2.1)), ((a 7), .inl (G.2.1 0, 5100, .inl u20.2.2.1)), ((a 8), .inl (G.2.1 1, 5100, .inl u20.2.2.2))] H := hP
  have hD : va_D A [((a 2), .inl (G.2.1 0, 5001, .inl f5)), ((a 3), .inl (G.2.1 0, 5001, .inl f6)), ((a 4), .inl (G.2.1 0, 5001, .inl f7)), ((a 5), .inl (G.2.1 0, 5001, .inl f8)), (h0, .inr (9, u20.1)), ((a 6), .inl (G.2.1 0, 5100, .inl u20.2.1)), ((a 7), .inl (G.2.1 0, 5100, .inl u20.2.2.1)), ((a 8), .inl (G.2.1 1, 5100, .inl u20.2.2.2))] := hD
  obtain ⟨fs23, f24, f25, f26⟩ := u20
  obtain ⟨-, hn27, hk29, hk30, hfr28⟩ := hw21
  have hn27 : fs23.length = 134 := hn27
  have hk29 : fs23[13]? = some (.int 10) := hk29
  have hk30 : fs23[14]? = some (.int 2) := hk30
  have hfr28 : ∀ j : Nat, j ≠ 13 → j ≠ 14 → fs23[j]? = fs10[j]? := hfr28
  have hP : va_P G.1 pCl [((a 2), .inl (G.2.1 0, 5001, .inl f5)), ((a 3), .inl (G.2.1 0, 5001, .inl f6)), ((a 4), .inl (G.2.1 0, 5001, .inl f7)), ((a 5), .inl (G.2.1 0, 5001, .inl f8)), (h0, .inr (9, fs23)), ((a 6), .inl (G.2.1 0, 5100, .inl f24)), ((a 7), .inl (G.2.1 0, 5100, .inl f25)), ((a 8), .inl (G.2.1 1, 5100, .inl f26))] H := hP
  have hD : va_D A [((a 2), .inl (G.2.1 0, 5001, .inl f5)), ((a 3), .inl (G.2.1 0, 5001, .inl f6)), ((a 4), .inl (G.2.1 0, 5001, .inl f7)), ((a 5), .inl (G.2.1 0, 5001, .inl f8)), (h0, .inr (9, fs23)), ((a 6), .inl (G.2.1 0, 5100, .inl f24)), ((a 7), .inl (G.2.1 0, 5100, .inl f25)), ((a 8), .inl (G.2.1 1, 5100, .inl f26))] := hD
  refine W.widen (k := 0) (n := 0) (Nat.le_of_ble_eq_true rfl) (Nat.le_of_ble_eq_true rfl) ?_
  refine W.eq (g2 := F0 m 24 ls []) rfl ?_
  refine lv_aload_n hx hb dX12_cut_24 rfl (lv_at hl 0 rfl) ?_
  refine pn_ldcSW (q := G.2.2.1 5) hx hb hown (hE.2.2.1 5 (by decide)) dX12_cut_25 ?_
  refine pc_V (G := G) (As := [.ref (G.2.2.1 5)]) (rest := []) (wr := [((a 2), .inl (G.2.1 0, 5001, .inl f5)), ((a 3), .inl (G.2.1 0, 5001, .inl f6)), ((a 4), .inl (G.2.1 0, 5001, .inl f7)), ((a 5), .inl (G.2.1 0, 5001, .inl f8))]) hx hb hml hown hq hE hX pX0_al hP hD hS hA hl.1 (m_built l G h0 a fs23 5 2 10 4 f24 f25 f26 hn27 hk30 hk29 (by rw [hfr28 10 (by decide) (by decide), hfr17 10 (by decide) (by decide), e5, List.getElem?_set_ne (by decide), e2, List.getElem?_set_ne (by decide)]; exact hf_10) (by rw [hfr28 11 (by decide) (by decide), hfr17 11 (by decide) (by decide), e5, List.getElem?_set_ne (by decide), e2, List.getElem?_set_ne (by decide)]; exact hf_11) (by rw [hfr28 12 (by decide) (by decide), hfr17 12 (by decide) (by decide), e5, List.getElem?_set_ne (by decide), e2, List.getElem?_set_ne (by decide)]; exact hf_12) (by decide) (by decide +kernel) (by decide) (by decide)) (gV pw_266 pw_533 pw_534 pw_517 pw_532) hV_X12_built 4 9 rfl rfl rfl [4, 5, 6, 7] [0, 1, 2, 3] rfl rfl (by decide) (by decide) (by decide) rfl (Nat.le_of_ble_eq_true rfl) dX12_cut_28 ⟨Nat.le_of_ble_eq_true rfl, Nat.le_of_ble_eq_true rfl⟩ ⟨Nat.le_of_ble_eq_true rfl, Nat.le_of_ble_eq_true rfl⟩ (fun v33 u31 H locs hw32 hP hD hS => ?_)
  obtain rfl : v33 = none := hw32.1
  have hP : va_P G.1 pCl [((a 2), .inl (G.2.1 0, 5001, .inl f5)), ((a 3), .inl (G.2.1 0, 5001, .inl f6)), ((a 4), .inl (G.2.1 0, 5001, .inl f7)), ((a 5), .inl (G.2.1 0, 5001, .inl f8)), (h0, .inr (9, u31.1)), ((a 6), .inl (G.2.1 0, 5100, .inl u31.2.1)), ((a 7), .inl (G.2.1 0, 5100, .inl u31.2.2.1)), ((a 8), .inl (G.2.1 1, 5100, .inl u31.2.2.2))] H := hP
  have hD : va_D A [((a 2), .inl (G.2.1 0, 5001, .inl f5)), ((a 3), .inl (G.2.1 0, 5001, .inl f6)), ((a 4), .inl (G.2.1 0, 5001, .inl f7)), ((a 5), .inl (G.2.1 0, 5001, .inl f8)), (h0, .inr (9, u31.1)), ((a 6), .inl (G.2.1 0, 5100, .inl u31.2.1)), ((a 7), .inl (G.2.1 0, 5100, .inl u31.2.2.1)), ((a 8), .inl (G.2.1 1, 5100, .inl u31.2.2.2))] := hD
  obtain ⟨fs34, f35, f36, f37⟩ := u31
  obtain ⟨-, hn38, hk40, hk41, hfr39⟩ := hw32
  have hn38 : fs34.length = 134 := hn38
  have hk40 : fs34[13]? = some (.int 14) := hk40
  have hk41 : fs34[14]? = some (.int 3) := hk41
  have hfr39 : ∀ j : Nat, j ≠ 13 → j ≠ 14 → fs34[j]? = fs23[j]? := hfr39
  have hP : va_P G.1 pCl [((a 2), .inl (G.2.1 0, 5001, .inl f5)), ((a 3), .inl (G.2.1 0, 5001, .inl f6)), ((a 4), .inl (G.2.1 0, 5001, .inl f7)), ((a 5), .inl (G.2.1 0, 5001, .inl f8)), (h0, .inr (9, fs34)), ((a 6), .inl (G.2.1 0, 5100, .inl f35)), ((a 7), .inl (G.2.1 0, 5100, .inl f36)), ((a 8), .inl (G.2.1 1, 5100, .inl f37))] H := hP
  have hD : va_D A [((a 2), .inl (G.2.1 0, 5001, .inl f5)), ((a 3), .inl (G.2.1 0, 5001, .inl f6)), ((a 4), .inl (G.2.1 0, 5001, .inl f7)), ((a 5), .inl (G.2.1 0, 5001, .inl f8)), (h0, .inr (9, fs34)), ((a 6), .inl (G.2.1 0, 5100, .inl f35)), ((a 7), .inl (G.2.1 0, 5100, .inl f36)), ((a 8), .inl (G.2.1 1, 5100, .inl f37))] := hD
  refine W.widen (k := 0) (n := 0) (Nat.le_of_ble_eq_true rfl) (Nat.le_of_ble_eq_true rfl) ?_
  refine W.eq (g2 := F0 m 31 ls []) rfl ?_
  refine lv_aload_n hx hb dX12_cut_31 rfl (lv_at hl 0 rfl) ?_
  refine pn_ldcSW (q := G.2.2.1 6) hx hb hown (hE.2.2.1 6 (by decide)) dX12_cut_32 ?_
  refine pc_V (G := G) (As := [.ref (G.2.2.1 6)]) (rest := []) (wr := [((a 2), .inl (G.2.1 0, 5001, .inl f5)), ((a 3), .inl (G.2.1 0, 5001, .inl f6)), ((a 4), .inl (G.2.1 0, 5001, .inl f7)), ((a 5), .inl (G.2.1 0, 5001, .inl f8))]) hx hb hml hown hq hE hX pX0_al hP hD hS hA hl.1 (m_built l G h0 a fs34 6 3 14 4 f35 f36 f37 hn38 hk41 hk40 (by rw [hfr39 10 (by decide) (by decide), hfr28 10 (by decide) (by decide), hfr17 10 (by decide) (by decide), e5, List.getElem?_set_ne (by decide), e2, List.getElem?_set_ne (by decide)]; exact hf_10) (by rw [hfr39 11 (by decide) (by decide), hfr28 11 (by decide) (by decide), hfr17 11 (by decide) (by decide), e5, List.getElem?_set_ne (by decide), e2, List.getElem?_set_ne (by decide)]; exact hf_11) (by rw [hfr39 12 (by decide) (by decide), hfr28 12 (by decide) (by decide), hfr17 12 (by decide) (by decide), e5, List.getElem?_set_ne (by decide), e2, List.getElem?_set_ne (by decide)]; exact hf_12) (by decide) (by decide +kernel) (by decide) (by decide)) (gV pw_266 pw_533 pw_534 pw_517 pw_532) hV_X12_built 4 9 rfl rfl rfl [4, 5, 6, 7] [0, 1, 2, 3] rfl rfl (by decide) (by decide) (by decide) rfl (Nat.le_of_ble_eq_true rfl) dX12_cut_35 ⟨Nat.le_of_ble_eq_true rfl, Nat.le_of_ble_eq_true rfl⟩ ⟨Nat.le_of_ble_eq_true rfl, Nat.le_of_ble_eq_true rfl⟩ (fun v44 u42 H locs hw43 hP hD hS => ?_)
  obtain rfl : v44 = none := hw43.1
  have hP : va_P G.1 pCl [((a 2), .inl (G.2.1 0, 5001, .inl f5)), ((a 3), .inl (G.2.1 0, 5001, .inl f6)), ((a 4), .inl (G.2.1 0, 5001, .inl f7)), ((a 5), .inl (G.2.1 0, 5001, .inl f8)), (h0, .inr (9, u42.1)), ((a 6), .inl (G.2.1 0, 5100, .inl u42.2.1)), ((a 7), .inl (G.2.1 0, 5100, .inl u42.2.2.1)), ((a 8), .inl (G.2.1 1, 5100, .inl u42.2.2.2))] H := hP
  have hD : va_D A [((a 2), .inl (G.2.1 0, 5001, .inl f5)), ((a 3), .inl (G.2.1 0, 5001, .inl f6)), ((a 4), .inl (G.2.1 0, 5001, .inl f7)), ((a 5), .inl (G.2.1 0, 5001, .inl f8)), (h0, .inr (9, u42.1)), ((a 6), .inl (G.2.1 0, 5100, .inl u42.2.1)), ((a 7), .inl (G.2.1 0, 5100, .inl u42.2.2.1)), ((a 8), .inl (G.2.1 1, 5100, .inl u42.2.2.2))] := hD
  obtain ⟨fs45, f46, f47, f48⟩ := u42
  obtain ⟨-, hn49, hk51, hk52, hfr50⟩ := hw43
  have hn49 : fs45.length = 134 := hn49
  have hk51 : fs45[13]? = some (.int 18) := hk51
  have hk52 : fs45[14]? = some (.int 4) := hk52
  have hfr50 : ∀ j : Nat, j ≠ 13 → j ≠ 14 → fs45[j]? = fs34[j]? := hfr50
  have hP : va_P G.1 pCl [((a 2), .inl (G.2.1 0, 5001, .inl f5)), ((a 3), .inl (G.2.1 0, 5001, .inl f6)), ((a 4), .inl (G.2.1 0, 5001, .inl f7)), ((a 5), .inl (G.2.1 0, 5001, .inl f8)), (h0, .inr (9, fs45)), ((a 6), .inl (G.2.1 0, 5100, .inl f46)), ((a 7), .inl (G.2.1 0, 5100, .inl f47)), ((a 8), .inl (G.2.1 1, 5100, .inl f48))] H := hP
  have hD : va_D A [((a 2), .inl (G.2.1 0, 5001, .inl f5)), ((a 3), .inl (G.2.1 0, 5001, .inl f6)), ((a 4), .inl (G.2.1 0, 5001, .inl f7)), ((a 5), .inl (G.2.1 0, 5001, .inl f8)), (h0, .inr (9, fs45)), ((a 6), .inl (G.2.1 0, 5100, .inl f46)), ((a 7), .inl (G.2.1 0, 5100, .inl f47)), ((a 8), .inl (G.2.1 1, 5100, .inl f48))] := hD
  refine W.widen (k := 0) (n := 0) (Nat.le_of_ble_eq_true rfl) (Nat.le_of_ble_eq_true rfl) ?_
  refine W.eq (g2 := F0 m 38 ls []) rfl ?_
  refine lv_aload_n hx hb dX12_cut_38 rfl (lv_at hl 0 rfl) ?_
  refine pn_ldcSW (q := G.2.2.1 7) hx hb hown (hE.2.2.1 7 (by decide)) dX12_cut_39 ?_
  refine pc_V (G := G) (As := [.ref (G.2.2.1 7)]) (rest := []) (wr := [((a 2), .inl (G.2.1 0, 5001, .inl f5)), ((a 3), .inl (G.2.1 0, 5001, .inl f6)), ((a 4), .inl (G.2.1 0, 5001, .inl f7)), ((a 5), .inl (G.2.1 0, 5001, .inl f8))]) hx hb hml hown hq hE hX pX0_al hP hD hS hA hl.1 (m_built l G h0 a fs45 7 4 18 5 f46 f47 f48 hn49 hk52 hk51 (by rw [hfr50 10 (by decide) (by decide), hfr39 10 (by decide) (by decide), hfr28 10 (by decide) (by decide), hfr17 10 (by decide) (by decide), e5, List.getElem?_set_ne (by decide), e2, List.getElem?_set_ne (by decide)]; exact hf_10) (by rw [hfr50 11 (by decide) (by decide), hfr39 11 (by decide) (by decide), hfr28 11 (by decide) (by decide), hfr17 11 (by decide) (by decide), e5, List.getElem?_set_ne (by decide), e2, List.getElem?_set_ne (by decide)]; exact hf_11) (by rw [hfr50 12 (by decide) (by decide), hfr39 12 (by decide) (by decide), hfr28 12 (by decide) (by decide), hfr17 12 (by decide) (by decide), e5, List.getElem?_set_ne (by decide), e2, List.getElem?_set_ne (by decide)]; exact hf_12) (by decide) (by decide +kernel) (by decide) (by decide)) (gV pw_266 pw_533 pw_534 pw_517 pw_532) hV_X12_built 4 9 rfl rfl rfl [4, 5, 6, 7] [0, 1, 2, 3] rfl rfl (by decide) (by decide) (by decide) rfl (Nat.le_of_ble_eq_true rfl) dX12_cut_42 ⟨Nat.le_of_ble_eq_true rfl, Nat.le_of_ble_eq_true rfl⟩ ⟨Nat.le_of_ble_eq_true rfl, Nat.le_of_ble_eq_true rfl⟩ (fun v55 u53 H locs hw54 hP hD hS => ?_)
  obtain rfl : v55 = none := hw54.1
  have hP : va_P G.1 pCl [((a 2), .inl (G.2.1 0, 5001, .inl f5)), ((a 3), .inl (G.2.1 0, 5001, .inl f6)), ((a 4), .inl (G.2.1 0, 5001, .inl f7)), ((a 5), .inl (G.2.1 0, 5001, .inl f8)), (h0, .inr (9, u53.1)), ((a 6), .inl (G.2.1 0, 5100, .inl u53.2.1)), ((a 7), .inl (G.2.1 0, 5100, .inl u53.2.2.1)), ((a 8), .inl (G.2.1 1, 5100, .inl u53.2.2.2))] H := hP
  have hD : va_D A [((a 2), .inl (G.2.1 0, 5001, .inl f5)), ((a 3), .inl (G.2.1 0, 5001, .inl f6)), ((a 4), .inl (G.2.1 0, 5001, .inl f7)), ((a 5), .inl (G.2.1 0, 5001, .inl f8)), (h0, .inr (9, u53.1)), ((a 6), .inl (G.2.1 0, 5100, .inl u53.2.1)), ((a 7), .inl (G.2.1 0, 5100, .inl u53.2.2.1)), ((a 8), .inl (G.2.1 1, 5100, .inl u53.2.2.2))] := hD
  obtain ⟨fs56, f57, f58, f59⟩ := u53
  obtain ⟨-, hn60, hk62, hk63, hfr61⟩ := hw54
  have hn60 : fs56.length = 134 := hn60
  have hk62 : fs56[13]? = some (.int 23) := hk62
  have hk63 : fs56[14]? = some (.int 5) := hk63
  have hfr61 : ∀ j : Nat, j ≠ 13 → j ≠ 14 → fs56[j]? = fs45[j]? := hfr61
  have hP : va_P G.1 pCl [((a 2), .inl (G.2.1 0, 5001, .inl f5)), ((a 3), .inl (G.2.1 0, 5001, .inl f6)), ((a 4), .inl (G.2.1 0, 5001, .inl f7)), ((a 5), .inl (G.2.1 0, 5001, .inl f8)), (h0, .inr (9, fs56)), ((a 6), .inl (G.2.1 0, 5100, .inl f57)), ((a 7), .inl (G.2.1 0, 5100, .inl f58)), ((a 8), .inl (G.2.1 1, 5100, .inl f59))] H := hP
  have hD : va_D A [((a 2), .inl (G.2.1 0, 5001, .inl f5)), ((a 3), .inl (G.2.1 0, 5001, .inl f6)), ((a 4), .inl (G.2.1 0, 5001, .inl f7)), ((a 5), .inl (G.2.1 0, 5001, .inl f8)), (h0, .inr (9, fs56)), ((a 6), .inl (G.2.1 0, 5100, .inl f57)), ((a 7), .inl (G.2.1 0, 5100, .inl f58)), ((a 8), .inl (G.2.1 1, 5100, .inl f59))] := hD
  refine W.widen (k := 0) (n := 0) (Nat.le_of_ble_eq_true rfl) (Nat.le_of_ble_eq_true rfl) ?_
  refine W.eq (g2 := F0 m 45 ls []) rfl ?_
  refine lv_aload_n hx hb dX12_cut_45 rfl (lv_at hl 0 rfl) ?_
  refine pn_ldcSW (q := G.2.2.1 8) hx hb hown (hE.2.2.1 8 (by decide)) dX12_cut_46 ?_
  refine pc_V (G := G) (As := [.ref (G.2.2.1 8)]) (rest := []) (wr := [((a 2), .inl (G.2.1 0, 5001, .inl f5)), ((a 3), .inl (G.2.1 0, 5001, .inl f6)), ((a 4), .inl (G.2.1 0, 5001, .inl f7)), ((a 5), .inl (G.2.1 0, 5001, .inl f8))]) hx hb hml hown hq hE hX pX0_al hP hD hS hA hl.1 (m_built l G h0 a fs56 8 5 23 5 f57 f58 f59 hn60 hk63 hk62 (by rw [hfr61 10 (by decide) (by decide), hfr50 10 (by decide) (by decide), hfr39 10 (by decide) (by decide), hfr28 10 (by decide) (by decide), hfr17 10 (by decide) (by decide), e5, List.getElem?_set_ne (by decide), e2, List.getElem?_set_ne (by decide)]; exact hf_10) (by rw [hfr61 11 (by decide) (by decide), hfr50 11 (by decide) (by decide), hfr39 11 (by decide) (by decide), hfr28 11 (by decide) (by decide), hfr17 11 (by decide) (by decide), e5, List.getElem?_set_ne (by decide), e2, List.getElem?_set_ne (by decide)]; exact hf_11) (by rw [hfr61 12 (by decide) (by decide), hfr50 12 (by decide) (by decide), hfr39 12 (by decide) (by decide), hfr28 12 (by decide) (by decide), hfr17 12 (by decide) (by decide), e5, List.getElem?_set_ne (by decide), e2, List.getElem?_set_ne (by decide)]; exact hf_12) (by decide) (by decide +kernel) (by decide) (by decide)) (gV pw_266 pw_533 pw_534 pw_517 pw_532) hV_X12_built 4 9 rfl rfl rfl [4, 5, 6, 7] [0, 1, 2, 3] rfl rfl (by decide) (by decide) (by decide) rfl (Nat.le_of_ble_eq_true rfl) dX12_cut_49 ⟨Nat.le_of_ble_eq_true rfl, Nat.le_of_ble_eq_true rfl⟩ ⟨Nat.le_of_ble_eq_true rfl, Nat.le_of_ble_eq_true rfl⟩ (fun v66 u64 H locs hw65 hP hD hS => ?_)
  obtain rfl : v66 = none := hw65.1
  have hP : va_P G.1 pCl [((a 2), .inl (G.2.1 0, 5001, .inl f5)), ((a 3), .inl (G.2.1 0, 5001, .inl f6)), ((a 4), .inl (G.2.1 0, 5001, .inl f7)), ((a 5), .inl (G.2.1 0, 5001, .inl f8)), (h0, .inr (9, u64.1)), ((a 6), .inl (G.2.1 0, 5100, .inl u64.2.1)), ((a 7), .inl (G.2.1 0, 5100, .inl u64.2.2.1)), ((a 8), .inl (G.2.1 1, 5100, .inl u64.2.2.2))] H := hP
  have hD : va_D A [((a 2), .inl (G.2.1 0, 5001, .inl f5)), ((a 3), .inl (G.2.1 0, 5001, .inl f6)), ((a 4), .inl (G.2.1 0, 5001, .inl f7)), ((a 5), .inl (G.2.1 0, 5001, .inl f8)), (h0, .inr (9, u64.1)), ((a 6), .inl (G.2.1 0, 5100, .inl u64.2.1)), ((a 7), .inl (G.2.1 0, 5100, .inl u64.2.2.1)), ((a 8), .inl (G.2.1 1, 5100, .inl u64.2.2.2))] := hD
  obtain ⟨fs67, f68, f69, f70⟩ := u64
  obtain ⟨-, hn71, hk73, hk74, hfr72⟩ := hw65
  have hn71 : fs67.length = 134 := hn71
  have hk73 : fs67[13]? = some (.int 28) := hk73
  have hk74 : fs67[14]? = some (.int 6) := hk74
  have hfr72 : ∀ j : Nat, j ≠ 13 → j ≠ 14 → fs67[j]? = fs56[j]? := hfr72
  have hP : va_P G.1 pCl [((a 2), .inl (G.2.1 0, 5001, .inl f5)), ((a 3), .inl (G.2.1 0, 5001, .inl f6)), ((a 4), .inl (G.2.1 0, 5001, .inl f7)), ((a 5), .inl (G.2.1 0, 5001, .inl f8)), (h0, .inr (9, fs67)), ((a 6), .inl (G.2.1 0, 5100, .inl f68)), ((a 7), .inl (G.2.1 0, 5100, .inl f69)), ((a 8), .inl (G.2.1 1, 5100, .inl f70))] H := hP
  have hD : va_D A [((a 2), .inl (G.2.1 0, 5001, .inl f5)), ((a 3), .inl (G.2.1 0, 5001, .inl f6)), ((a 4), .inl (G.2.1 0, 5001, .inl f7)), ((a 5), .inl (G.2.1 0, 5001, .inl f8)), (h0, .inr (9, fs67)), ((a 6), .inl (G.2.1 0, 5100, .inl f68)), ((a 7), .inl (G.2.1 0, 5100, .inl f69)), ((a 8), .inl (G.2.1 1, 5100, .inl f70))] := hD
  refine W.widen (k := 0) (n := 0) (Nat.le_of_ble_eq_true rfl) (Nat.le_of_ble_eq_true rfl) ?_
  refine W.eq (g2 := F0 m 52 ls []) rfl ?_
  refine lv_aload_n hx hb dX12_cut_52 rfl (lv_at hl 0 rfl) ?_
  refine pn_ldcSW (q := G.2.2.1 9) hx hb hown (hE.2.2.1 9 (by decide)) dX12_cut_53 ?_
  refine pc_V (G := G) (As := [.ref (G.2.2.1 9)]) (rest := []) (wr := [((a 2), .inl (G.2.1 0, 5001, .inl f5)), ((a 3), .inl (G.2.1 0, 5001, .inl f6)), ((a 4), .inl (G.2.1 0, 5001, .inl f7)), ((a 5), .inl (G.2.1 0, 5001, .inl f8))]) hx hb hml hown hq hE hX pX0_al hP hD hS hA hl.1 (m_built l G h0 a fs67 9 6 28 4 f68 f69 f70 hn71 hk74 hk73 (by rw [hfr72 10 (by decide) (by decide), hfr61 10 (by decide) (by decide), hfr50 10 (by decide) (by decide), hfr39 10 (by decide) (by decide), hfr28 10 (by decide) (by decide), hfr17 10 (by decide) (by decide), e5, List.getElem?_set_ne (by decide), e2, List.getElem?_set_ne (by decide)]; exact hf_10) (by rw [hfr72 11 (by decide) (by decide), hfr61 11 (by decide) (by decide), hfr50 11 (by decide) (by decide), hfr39 11 (by decide) (by decide), hfr28 11 (by decide) (by decide), hfr17 11 (by decide) (by decide), e5, List.getElem?_set_ne (by decide), e2, List.getElem?_set_ne (by decide)]; exact hf_11) (by rw [hfr72 12 (by decide) (by decide), hfr61 12 (by decide) (by decide), hfr50 12 (by decide) (by decide), hfr39 12 (by decide) (by decide), hfr28 12 (by decide) (by decide), hfr17 12 (by decide) (by decide), e5, List.getElem?_set_ne (by decide), e2, List.getElem?_set_ne (by decide)]; exact hf_12) (by decide) (by decide +kernel) (by decide) (by decide)) (gV pw_266 pw_533 pw_534 pw_517 pw_532) hV_X12_built 4 9 rfl rfl rfl [4, 5, 6, 7] [0, 1, 2, 3] rfl rfl (by decide) (by decide) (by decide) rfl (Nat.le_of_ble_eq_true rfl) dX12_cut_56 ⟨Nat.le_of_ble_eq_true rfl, Nat.le_of_ble_eq_true rfl⟩ ⟨Nat.le_of_ble_eq_true rfl, Nat.le_of_ble_eq_true rfl⟩ (fun v77 u75 H locs hw76 hP hD hS => ?_)
  obtain rfl : v77 = none := hw76.1
  have hP : va_P G.1 pCl [((a 2), .inl (G.2.1 0, 5001, .inl f5)), ((a 3), .inl (G.2.1 0, 5001, .inl f6)), ((a 4), .inl (G.2.1 0, 5001, .inl f7)), ((a 5), .inl (G.2.1 0, 5001, .inl f8)), (h0, .inr (9, u75.1)), ((a 6), .inl (G.2.1 0, 5100, .inl u75.2.1)), ((a 7), .inl (G.2.1 0, 5100, .inl u75.2.2.1)), ((a 8), .inl (G.2.1 1, 5100, .inl u75.2.2.2))] H := hP
  have hD : va_D A [((a 2), .inl (G.2.1 0, 5001, .inl f5)), ((a 3), .inl (G.2.1 0, 5001, .inl f6)), ((a 4), .inl (G.2.1 0, 5001, .inl f7)), ((a 5), .inl (G.2.1 0, 5001, .inl f8)), (h0, .inr (9, u75.1)), ((a 6), .inl (G.2.1 0, 5100, .inl u75.2.1)), ((a 7), .inl (G.2.1 0, 5100, .inl u75.2.2.1)), ((a 8), .inl (G.2.1 1, 5100, .inl u75.2.2.2))] := hD
  obtain ⟨fs78, f79, f80, f81⟩ := u75
  obtain ⟨-, hn82, hk84, hk85, hfr83⟩ := hw76
  have hn82 : fs78.length = 134 := hn82
  have hk84 : fs78[13]? = some (.int 32) := hk84
  have hk85 : fs78[14]? = some (.int 7) := hk85
  have hfr83 : ∀ j : Nat, j ≠ 13 → j ≠ 14 → fs78[j]? = fs67[j]? := hfr83
  have hP : va_P G.1 pCl [((a 2), .inl (G.2.1 0, 5001, .inl f5)), ((a 3), .inl (G.2.1 0, 5001, .inl f6)), ((a 4), .inl (G.2.1 0, 5001, .inl f7)), ((a 5), .inl (G.2.1 0, 5001, .inl f8)), (h0, .inr (9, fs78)), ((a 6), .inl (G.2.1 0, 5100, .inl f79)), ((a 7), .inl (G.2.1 0, 5100, .inl f80)), ((a 8), .inl (G.2.1 1, 5100, .inl f81))] H := hP
  have hD : va_D A [((a 2), .inl (G.2.1 0, 5001, .inl f5)), ((a 3), .inl (G.2.1 0, 5001, .inl f6)), ((a 4), .inl (G.2.1 0, 5001, .inl f7)), ((a 5), .inl (G.2.1 0, 5001, .inl f8)), (h0, .inr (9, fs78)), ((a 6), .inl (G.2.1 0, 5100, .inl f79)), ((a 7), .inl (G.2.1 0, 5100, .inl f80)), ((a 8), .inl (G.2.1 1, 5100, .inl f81))] := hD
  refine W.widen (k := 0) (n := 0) (Nat.le_of_ble_eq_true rfl) (Nat.le_of_ble_eq_true rfl) ?_
  refine W.eq (g2 := F0 m 59 ls []) rfl ?_
  refine lv_aload_n hx hb dX12_cut_59 rfl (lv_at hl 0 rfl) ?_
  refine pn_ldcSW (q := G.2.2.1 10) hx hb hown (hE.2.2.1 10 (by decide)) dX12_cut_60 ?_
  refine pc_V (G := G) (As := [.ref (G.2.2.1 10)]) (rest := []) (wr := [((a 2), .inl (G.2.1 0, 5001, .inl f5)), ((a 3), .inl (G.2.1 0, 5001, .inl f6)), ((a 4), .inl (G.2.1 0, 5001, .inl f7)), ((a 5), .inl (G.2.1 0, 5001, .inl f8))]) hx hb hml hown hq hE hX pX0_al hP hD hS hA hl.1 (m_built l G h0 a fs78 10 7 32 4 f79 f80 f81 hn82 hk85 hk84 (by rw [hfr83 10 (by decide) (by decide), hfr72 10 (by decide) (by decide), hfr61 10 (by decide) (by decide), hfr50 10 (by decide) (by decide), hfr39 10 (by decide) (by decide), hfr28 10 (by decide) (by decide), hfr17 10 (by decide) (by decide), e5, List.getElem?_set_ne (by decide), e2, List.getElem?_set_ne (by decide)]; exact hf_10) (by rw [hfr83 11 (by decide) (by decide), hfr72 11 (by decide) (by decide), hfr61 11 (by decide) (by decide), hfr50 11 (by decide) (by decide), hfr39 11 (by decide) (by decide), hfr28 11 (by decide) (by decide), hfr17 11 (by decide) (by decide), e5, List.getElem?_set_ne (by decide), e2, List.getElem?_set_ne (by decide)]; exact hf_11) (by rw [hfr83 12 (by decide) (by decide), hfr72 12 (by decide) (by decide), hfr61 12 (by decide) (by decide), hfr50 12 (by decide) (by decide), hfr39 12 (by decide) (by decide), hfr28 12 (by decide) (by decide), hfr17 12 (by decide) (by decide), e5, List.getElem?_set_ne (by decide), e2, List.getElem?_set_ne (by decide)]; exact hf_12) (by decide) (by decide +kernel) (by decide) (by decide)) (gV pw_266 pw_533 pw_534 pw_517 pw_532) hV_X12_built 4 9 rfl rfl rfl [4, 5, 6, 7] [0, 1, 2, 3] rfl rfl (by decide) (by decide) (by decide) rfl (Nat.le_of_ble_eq_true rfl) dX12_cut_63 ⟨Nat.le_of_ble_eq_true rfl, Nat.le_of_ble_eq_true rfl⟩ ⟨Nat.le_of_ble_eq_true rfl, Nat.le_of_ble_eq_true rfl⟩ (fun v88 u86 H locs hw87 hP hD hS => ?_)
  obtain rfl : v88 = none := hw87.1
  have hP : va_P G.1 pCl [((a 2), .inl (G.2.1 0, 5001, .inl f5)), ((a 3), .inl (G.2.1 0, 5001, .inl f6)), ((a 4), .inl (G.2.1 0, 5001, .inl f7)), ((a 5), .inl (G.2.1 0, 5001, .inl f8)), (h0, .inr (9, u86.1)), ((a 6), .inl (G.2.1 0, 5100, .inl u86.2.1)), ((a 7), .inl (G.2.1 0, 5100, .inl u86.2.2.1)), ((a 8), .inl (G.2.1 1, 5100, .inl u86.2.2.2))] H := hP
  have hD : va_D A [((a 2), .inl (G.2.1 0, 5001, .inl f5)), ((a 3), .inl (G.2.1 0, 5001, .inl f6)), ((a 4), .inl (G.2.1 0, 5001, .inl f7)), ((a 5), .inl (G.2.1 0, 5001, .inl f8)), (h0, .inr (9, u86.1)), ((a 6), .inl (G.2.1 0, 5100, .inl u86.2.1)), ((a 7), .inl (G.2.1 0, 5100, .inl u86.2.2.1)), ((a 8), .inl (G.2.1 1, 5100, .inl u86.2.2.2))] := hD
  obtain ⟨fs89, f90, f91, f92⟩ := u86
  obtain ⟨-, hn93, hk95, hk96, hfr94⟩ := hw87
  have hn93 : fs89.length = 134 := hn93
  have hk95 : fs89[13]? = some (.int 36) := hk95
  have hk96 : fs89[14]? = some (.int 8) := hk96
  have hfr94 : ∀ j : Nat, j ≠ 13 → j ≠ 14 → fs89[j]? = fs78[j]? := hfr94
  have hP : va_P G.1 pCl [((a 2), .inl (G.2.1 0, 5001, .inl f5)), ((a 3), .inl (G.2.1 0, 5001, .inl f6)), ((a 4), .inl (G.2.1 0, 5001, .inl f7)), ((a 5), .inl (G.2.1 0, 5001, .inl f8)), (h0, .inr (9, fs89)), ((a 6), .inl (G.2.1 0, 5100, .inl f90)), ((a 7), .inl (G.2.1 0, 5100, .inl f91)), ((a 8), .inl (G.2.1 1, 5100, .inl f92))] H := hP
  have hD : va_D A [((a 2), .inl (G.2.1 0, 5001, .inl f5)), ((a 3), .inl (G.2.1 0, 5001, .inl f6)), ((a 4), .inl (G.2.1 0, 5001, .inl f7)), ((a 5), .inl (G.2.1 0, 5001, .inl f8)), (h0, .inr (9, fs89)), ((a 6), .inl (G.2.1 0, 5100, .inl f90)), ((a 7), .inl (G.2.1 0, 5100, .inl f91)), ((a 8), .inl (G.2.1 1, 5100, .inl f92))] := hD
  refine W.widen (k := 0) (n := 0) (Nat.le_of_ble_eq_true rfl) (Nat.le_of_ble_eq_true rfl) ?_
  refine W.eq (g2 := F0 m 66 ls []) rfl ?_
  refine lv_aload_n hx hb dX12_cut_66 rfl (lv_at hl 0 rfl) ?_
  refine pn_ldcSW (q := G.2.2.1 11) hx hb hown (hE.2.2.1 11 (by decide)) dX12_cut_67 ?_
  refine pc_V (G := G) (As := [.ref (G.2.2.1 11)]) (rest := []) (wr := [((a 2), .inl (G.2.1 0, 5001, .inl f5)), ((a 3), .inl (G.2.1 0, 5001, .inl f6)), ((a 4), .inl (G.2.1 0, 5001, .inl f7)), ((a 5), .inl (G.2.1 0, 5001, .inl f8))]) hx hb hml hown hq hE hX pX0_al hP hD hS hA hl.1 (m_built l G h0 a fs89 11 8 36 4 f90 f91 f92 hn93 hk96 hk95 (by rw [hfr94 10 (by decide) (by decide), hfr83 10 (by decide) (by decide), hfr72 10 (by decide) (by decide), hfr61 10 (by decide) (by decide), hfr50 10 (by decide) (by decide), hfr39 10 (by decide) (by decide), hfr28 10 (by decide) (by decide), hfr17 10 (by decide) (by decide), e5, List.getElem?_set_ne (by decide), e2, List.getElem?_set_ne (by decide)]; exact hf_10) (by rw [hfr94 11 (by decide) (by decide), hfr83 11 (by decide) (by decide), hfr72 11 (by decide) (by decide), hfr61 11 (by decide) (by decide), hfr50 11 (by decide) (by decide), hfr39 11 (by decide) (by decide), hfr28 11 (by decide) (by decide), hfr17 11 (by decide) (by decide), e5, List.getElem?_set_ne (by decide), e2, List.getElem?_set_ne (by decide)]; exact hf_11) (by rw [hfr94 12 (by decide) (by decide), hfr83 12 (by decide) (by decide), hfr72 12 (by decide) (by decide), hfr61 12 (by decide) (by decide), hfr50 12 (by decide) (by decide), hfr39 12 (by decide) (by decide), hfr28 12 (by decide) (by decide), hfr17 12 (by decide) (by decide), e5, List.getElem?_set_ne (by decide), e2, List.getElem?_set_ne (by decide)]; exact hf_12) (by decide) (by decide +kernel) (by decide) (by decide)) (gV pw_266 pw_533 pw_534 pw_517 pw_532) hV_X12_built 4 9 rfl rfl rfl [4, 5, 6, 7] [0, 1, 2, 3] rfl rfl (by decide) (by decide) (by decide) rfl (Nat.le_of_ble_eq_true rfl) dX12_cut_70 ⟨Nat.le_of_ble_eq_true rfl, Nat.le_of_ble_eq_true rfl⟩ ⟨Nat.le_of_ble_eq_true rfl, Nat.le_of_ble_eq_true rfl⟩ (fun v99 u97 H locs hw98 hP hD hS => ?_)
  obtain rfl : v99 = none := hw98.1
  have hP : va_P G.1 pCl [((a 2), .inl (G.2.1 0, 5001, .inl f5)), ((a 3), .inl (G.2.1 0, 5001, .inl f6)), ((a 4), .inl (G.2.1 0, 5001, .inl f7)), ((a 5), .inl (G.2.1 0, 5001, .inl f8)), (h0, .inr (9, u97.1)), ((a 6), .inl (G.2.1 0, 5100, .inl u97.2.1)), ((a 7), .inl (G.2.1 0, 5100, .inl u97.2.2.1)), ((a 8), .inl (G.2.1 1, 5100, .inl u97.2.2.2))] H := hP
  have hD : va_D A [((a 2), .inl (G.2.1 0, 5001, .inl f5)), ((a 3), .inl (G.2.1 0, 5001, .inl f6)), ((a 4), .inl (G.2.1 0, 5001, .inl f7)), ((a 5), .inl (G.2.1 0, 5001, .inl f8)), (h0, .inr (9, u97.1)), ((a 6), .inl (G.2.1 0, 5100, .inl u97.2.1)), ((a 7), .inl (G.2.1 0, 5100, .inl u97.2.2.1)), ((a 8), .inl (G.2.1 1, 5100, .inl u97.2.2.2))] := hD
  obtain ⟨fs100, f101, f102, f103⟩ := u97
  obtain ⟨-, hn104, hk106, hk107, hfr105⟩ := hw98
  have hn104 : fs100.length = 134 := hn104
  have hk106 : fs100[13]? = some (.int 40) := hk106
  have hk107 : fs100[14]? = some (.int 9) := hk107
  have hfr105 : ∀ j : Nat, j ≠ 13 → j ≠ 14 → fs100[j]? = fs89[j]? := hfr105
  have hP : va_P G.1 pCl [((a 2), .inl (G.2.1 0, 5001, .inl f5)), ((a 3), .inl (G.2.1 0, 5001, .inl f6)), ((a 4), .inl (G.2.1 0, 5001, .inl f7)), ((a 5), .inl (G.2.1 0, 5001, .inl f8)), (h0, .inr (9, fs100)), ((a 6), .inl (G.2.1 0, 5100, .inl f101)), ((a 7), .inl (G.2.1 0, 5100, .inl f102)), ((a 8), .inl (G.2.1 1, 5100, .inl f103))] H := hP
  have hD : va_D A [((a 2), .inl (G.2.1 0, 5001, .inl f5)), ((a 3), .inl (G.2.1 0, 5001, .inl f6)), ((a 4), .inl (G.2.1 0, 5001, .inl f7)), ((a 5), .inl (G.2.1 0, 5001, .inl f8)), (h0, .inr (9, fs100)), ((a 6), .inl (G.2.1 0, 5100, .inl f101)), ((a 7), .inl (G.2.1 0, 5100, .inl f102)), ((a 8), .inl (G.2.1 1, 5100, .inl f103))] := hD
  refine W.widen (k := 0) (n := 0) (Nat.le_of_ble_eq_true rfl) (Nat.le_of_ble_eq_true rfl) ?_
  refine W.eq (g2 := F0 m 73 ls []) rfl ?_
  refine lv_aload_n hx hb dX12_cut_73 rfl (lv_at hl 0 rfl) ?_
  refine lv_iconst (v := 0) hx hb dX12_cut_74 (by decide) ?_
  refine va_put (D := G.1) (ci := 9) (v := .int 0) (ty := .int) (C := RX12) (T := TX12) (N := 134) hx hb hq pin_wsX120 tyX12 tyX12_ok nmX12 hown hE.1.1 hP hD hS 4 rfl rfl 9 (by decide) (by rw [tFX12_9]; exact hq _ pw_267) (fun _ h9 => h9) (by rw [tFX12_9]) (by rw [tFX12_9]; decide +kernel) rfl rfl (by rw [hn104]; decide) dX12_cut_75 (fun H locs hP hD hS => ?_)
  obtain ⟨fs108, e109⟩ : ∃ z : List Value, z = fs100.set 9 (.int 0) := ⟨_, rfl⟩
  have hn110 : fs108.length = 134 := by rw [e109, List.length_set]; exact hn104
  have hP : va_P G.1 pCl [((a 2), .inl (G.2.1 0, 5001, .inl f5)), ((a 3), .inl (G.2.1 0, 5001, .inl f6)), ((a 4), .inl (G.2.1 0, 5001, .inl f7)), ((a 5), .inl (G.2.1 0, 5001, .inl f8)), (h0, .inr (9, fs108)), ((a 6), .inl (G.2.1 0, 5100, .inl f101)), ((a 7), .inl (G.2.1 0, 5100, .inl f102)), ((a 8), .inl (G.2.1 1, 5100, .inl f103))] H := by rw [e109]; exact hP
  have hD : va_D A [((a 2), .inl (G.2.1 0, 5001, .inl f5)), ((a 3), .inl (G.2.1 0, 5001, .inl f6)), ((a 4), .inl (G.2.1 0, 5001, .inl f7)), ((a 5), .inl (G.2.1 0, 5001, .inl f8)), (h0, .inr (9, fs108)), ((a 6), .inl (G.2.1 0, 5100, .inl f101)), ((a 7), .inl (G.2.1 0, 5100, .inl f102)), ((a 8), .inl (G.2.1 1, 5100, .inl f103))] := by rw [e109]; exact hD
  refine lv_iconst (v := 0) hx hb dX12_cut_78 (by decide) ?_
  refine lv_istore_n (lv' := [(1, .int 0), (0, .ref h0)]) hx hb dX12_cut_79 rfl hl (by decide) rfl (fun ls hl => ?_)
  refine lv_iconst (v := 1) hx hb dX12_cut_80 (by decide) ?_
  refine lv_istore_n (lv' := [(2, .int 1), (1, .int 0), (0, .ref h0)]) hx hb dX12_cut_81 rfl hl (by decide) rfl (fun ls hl => ?_)
  refine lv_iload_n hx hb dX12_cut_82 rfl (lv_at hl 0 rfl) ?_
  refine lv_if_eq (tgt := 554) hx hb dX12_cut_83 (by decide) (fun c111 => absurd c111 (by decide)) (fun c111 => ?_)
  refine lv_aload_n hx hb dX12_cut_86 rfl (lv_at hl 2 rfl) ?_
  refine lv_iload_n hx hb dX12_cut_87 rfl (lv_at hl 1 rfl) ?_
  refine pc_V (G := G) (As := [.int 0]) (rest := []) (wr := [((a 2), .inl (G.2.1 0, 5001, .inl f5)), ((a 3), .inl (G.2.1 0, 5001, .inl f6)), ((a 4), .inl (G.2.1 0, 5001, .inl f7)), ((a 5), .inl (G.2.1 0, 5001, .inl f8)), ((a 6), .inl (G.2.1 0, 5100, .inl f101)), ((a 7), .inl (G.2.1 0, 5100, .inl f102)), ((a 8), .inl (G.2.1 1, 5100, .inl f103))]) hx hb hml hown hq hE hX pX0_al hP hD hS hA hl.1 (m_ch l G h0 a fs108 hn110 (by rw [e109, List.getElem?_set_ne (by decide), hfr105 4 (by decide) (by decide), hfr94 4 (by decide) (by decide), hfr83 4 (by decide) (by decide), hfr72 4 (by decide) (by decide), hfr61 4 (by decide) (by decide), hfr50 4 (by decide) (by decide), hfr39 4 (by decide) (by decide), hfr28 4 (by decide) (by decide), hfr17 4 (by decide) (by decide), e5, List.getElem?_set_ne (by decide), e2, List.getElem?_set_ne (by decide)]; exact hf_4)) (gV pw_268 pw_530 pw_531 pw_517 pw_529) hV_X12_ch 4 9 rfl rfl rfl [4] [0, 1, 2, 3, 5, 6, 7] rfl rfl (by decide) (by decide) (by decide) rfl (Nat.le_of_ble_eq_true rfl) dX12_cut_88 ⟨Nat.le_of_ble_eq_true rfl, Nat.le_of_ble_eq_true rfl⟩ ⟨Nat.le_of_ble_eq_true rfl, Nat.le_of_ble_eq_true rfl⟩ (fun v114 u112 H locs hw113 hP hD hS => ?_)
  obtain rfl : v114 = some (.int (-1)) := hw113
  have hP : va_P G.1 pCl [((a 2), .inl (G.2.1 0, 5001, .inl f5)), ((a 3), .inl (G.2.1 0, 5001, .inl f6)), ((a 4), .inl (G.2.1 0, 5001, .inl f7)), ((a 5), .inl (G.2.1 0, 5001, .inl f8)), ((a 6), .inl (G.2.1 0, 5100, .inl f101)), ((a 7), .inl (G.2.1 0, 5100, .inl f102)), ((a 8), .inl (G.2.1 1, 5100, .inl f103)), (h0, .inr (9, fs108))] H := hP
  have hD : va_D A [((a 2), .inl (G.2.1 0, 5001, .inl f5)), ((a 3), .inl (G.2.1 0, 5001, .inl f6)), ((a 4), .inl (G.2.1 0, 5001, .inl f7)), ((a 5), .inl (G.2.1 0, 5001, .inl f8)), ((a 6), .inl (G.2.1 0, 5100, .inl f101)), ((a 7), .inl (G.2.1 0, 5100, .inl f102)), ((a 8), .inl (G.2.1 1, 5100, .inl f103)), (h0, .inr (9, fs108))] := hD
  have hP : va_P G.1 pCl [((a 2), .inl (G.2.1 0, 5001, .inl f5)), ((a 3), .inl (G.2.1 0, 5001, .inl f6)), ((a 4), .inl (G.2.1 0, 5001, .inl f7)), ((a 5), .inl (G.2.1 0, 5001, .inl f8)), ((a 6), .inl (G.2.1 0, 5100, .inl f101)), ((a 7), .inl (G.2.1 0, 5100, .inl f102)), ((a 8), .inl (G.2.1 1, 5100, .inl f103)), (h0, .inr (9, fs108))] H := hP
  have hD : va_D A [((a 2), .inl (G.2.1 0, 5001, .inl f5)), ((a 3), .inl (G.2.1 0, 5001, .inl f6)), ((a 4), .inl (G.2.1 0, 5001, .inl f7)), ((a 5), .inl (G.2.1 0, 5001, .inl f8)), ((a 6), .inl (G.2.1 0, 5100, .inl f101)), ((a 7), .inl (G.2.1 0, 5100, .inl f102)), ((a 8), .inl (G.2.1 1, 5100, .inl f103)), (h0, .inr (9, fs108))] := hD
  refine W.widen (k := 0) (n := 0) (Nat.le_of_ble_eq_true rfl) (Nat.le_of_ble_eq_true rfl) ?_
  refine W.eq (g2 := F0 m 91 ls [.int (-1)]) rfl ?_
  refine lv_bipush (v := 9) hx hb dX12_cut_91 (by decide) ?_
  refine lv_icmp_eq (tgt := 126) hx hb dX12_cut_93 (by decide) (fun c115 => absurd c115 (by decide)) (fun c115 => ?_)
  refine lv_aload_n hx hb dX12_cut_96 rfl (lv_at hl 2 rfl) ?_
  refine lv_iload_n hx hb dX12_cut_97 rfl (lv_at hl 1 rfl) ?_
  refine pc_V (G := G) (As := [.int 0]) (rest := []) (wr := [((a 2), .inl (G.2.1 0, 5001, .inl f5)), ((a 3), .inl (G.2.1 0, 5001, .inl f6)), ((a 4), .inl (G.2.1 0, 5001, .inl f7)), ((a 5), .inl (G.2.1 0, 5001, .inl f8)), ((a 6), .inl (G.2.1 0, 5100, .inl f101)), ((a 7), .inl (G.2.1 0, 5100, .inl f102)), ((a 8), .inl (G.2.1 1, 5100, .inl f103))]) hx hb hml hown hq hE hX pX0_al hP hD hS hA hl.1 (m_ch l G h0 a fs108 hn110 (by rw [e109, List.getElem?_set_ne (by decide), hfr105 4 (by decide) (by decide), hfr94 4 (by decide) (by decide), hfr83 4 (by decide) (by decide), hfr72 4 (by decide) (by decide), hfr61 4 (by decide) (by decide), hfr50 4 (by decide) (by decide), hfr39 4 (by decide) (by decide), hfr28 4 (by decide) (by decide), hfr17 4 (by decide) (by decide), e5, List.getElem?_set_ne (by decide), e2, List.getElem?_set_ne (by decide)]; exact hf_4)) (gV pw_268 pw_530 pw_531 pw_517 pw_529) hV_X12_ch 7 9 rfl rfl rfl [7] [0, 1, 2, 3, 4, 5, 6] rfl rfl (by decide) (by decide) (by decide) rfl (Nat.le_of_ble_eq_true rfl) dX12_cut_98 ⟨Nat.le_of_ble_eq_true rfl, Nat.le_of_ble_eq_true rfl⟩ ⟨Nat.le_of_ble_eq_true rfl, Nat.le_of_ble_eq_true rfl⟩ (fun v118 u116 H locs hw117 hP hD hS => ?_)
  obtain rfl : v118 = some (.int (-1)) := hw117
  have hP : va_P G.1 pCl [((a 2), .inl (G.2.1 0, 5001, .inl f5)), ((a 3), .inl (G.2.1 0, 5001, .inl f6)), ((a 4), .inl (G.2.1 0, 5001, .inl f7)), ((a 5), .inl (G.2.1 0, 5001, .inl f8)), ((a 6), .inl (G.2.1 0, 5100, .inl f101)), ((a 7), .inl (G.2.1 0, 5100, .inl f102)), ((a 8), .inl (G.2.1 1, 5100, .inl f103)), (h0, .inr (9, fs108))] H := hP
  have hD : va_D A [((a 2), .inl (G.2.1 0, 5001, .inl f5)), ((a 3), .inl (G.2.1 0, 5001, .inl f6)), ((a 4), .inl (G.2.1 0, 5001, .inl f7)), ((a 5), .inl (G.2.1 0, 5001, .inl f8)), ((a 6), .inl (G.2.1 0, 5100, .inl f101)), ((a 7), .inl (G.2.1 0, 5100, .inl f102)), ((a 8), .inl (G.2.1 1, 5100, .inl f103)), (h0, .inr (9, fs108))] := hD
  have hP : va_P G.1 pCl [((a 2), .inl (G.2.1 0, 5001, .inl f5)), ((a 3), .inl (G.2.1 0, 5001, .inl f6)), ((a 4), .inl (G.2.1 0, 5001, .inl f7)), ((a 5), .inl (G.2.1 0, 5001, .inl f8)), ((a 6), .inl (G.2.1 0, 5100, .inl f101)), ((a 7), .inl (G.2.1 0, 5100, .inl f102)), ((a 8), .inl (G.2.1 1, 5100, .inl f103)), (h0, .inr (9, fs108))] H := hP
  have hD : va_D A [((a 2), .inl (G.2.1 0, 5001, .inl f5)), ((a 3), .inl (G.2.1 0, 5001, .inl f6)), ((a 4), .inl (G.2.1 0, 5001, .inl f7)), ((a 5), .inl (G.2.1 0, 5001, .inl f8)), ((a 6), .inl (G.2.1 0, 5100, .inl f101)), ((a 7), .inl (G.2.1 0, 5100, .inl f102)), ((a 8), .inl (G.2.1 1, 5100, .inl f103)), (h0, .inr (9, fs108))] := hD
  refine W.widen (k := 0) (n := 0) (Nat.le_of_ble_eq_true rfl) (Nat.le_of_ble_eq_true rfl) ?_
  refine W.eq (g2 := F0 m 101 ls [.int (-1)]) rfl ?_
  refine lv_bipush (v := 10) hx hb dX12_cut_101 (by decide) ?_
  refine lv_icmp_eq (tgt := 126) hx hb dX12_cut_103 (by decide) (fun c119 => absurd c119 (by decide)) (fun c119 => ?_)
  refine lv_aload_n hx hb dX12_cut_106 rfl (lv_at hl 2 rfl) ?_
  refine lv_iload_n hx hb dX12_cut_107 rfl (lv_at hl 1 rfl) ?_
  refine pc_V (G := G) (As := [.int 0]) (rest := []) (wr := [((a 2), .inl (G.2.1 0, 5001, .inl f5)), ((a 3), .inl (G.2.1 0, 5001, .inl f6)), ((a 4), .inl (G.2.1 0, 5001, .inl f7)), ((a 5), .inl (G.2.1 0, 5001, .inl f8)), ((a 6), .inl (G.2.1 0, 5100, .inl f101)), ((a 7), .inl (G.2.1 0, 5100, .inl f102)), ((a 8), .inl (G.2.1 1, 5100, .inl f103))]) hx hb hml hown hq hE hX pX0_al hP hD hS hA hl.1 (m_ch l G h0 a fs108 hn110 (by rw [e109, List.getElem?_set_ne (by decide), hfr105 4 (by decide) (by decide), hfr94 4 (by decide) (by decide), hfr83 4 (by decide) (by decide), hfr72 4 (by decide) (by decide), hfr61 4 (by decide) (by decide), hfr50 4 (by decide) (by decide), hfr39 4 (by decide) (by decide), hfr28 4 (by decide) (by decide), hfr17 4 (by decide) (by decide), e5, List.getElem?_set_ne (by decide), e2, List.getElem?_set_ne (by decide)]; exact hf_4)) (gV pw_268 pw_530 pw_531 pw_517 pw_529) hV_X12_ch 7 9 rfl rfl rfl [7] [0, 1, 2, 3, 4, 5, 6] rfl rfl (by decide) (by decide) (by decide) rfl (Nat.le_of_ble_eq_true rfl) dX12_cut_108 ⟨Nat.le_of_ble_eq_true rfl, Nat.le_of_ble_eq_true rfl⟩ ⟨Nat.le_of_ble_eq_true rfl, Nat.le_of_ble_eq_true rfl⟩ (fun v122 u120 H locs hw121 hP hD hS => ?_)
  obtain rfl : v122 = some (.int (-1)) := hw121
  have hP : va_P G.1 pCl [((a 2), .inl (G.2.1 0, 5001, .inl f5)), ((a 3), .inl (G.2.1 0, 5001, .inl f6)), ((a 4), .inl (G.2.1 0, 5001, .inl f7)), ((a 5), .inl (G.2.1 0, 5001, .inl f8)), ((a 6), .inl (G.2.1 0, 5100, .inl f101)), ((a 7), .inl (G.2.1 0, 5100, .inl f102)), ((a 8), .inl (G.2.1 1, 5100, .inl f103)), (h0, .inr (9, fs108))] H := hP
  have hD : va_D A [((a 2), .inl (G.2.1 0, 5001, .inl f5)), ((a 3), .inl (G.2.1 0, 5001, .inl f6)), ((a 4), .inl (G.2.1 0, 5001, .inl f7)), ((a 5), .inl (G.2.1 0, 5001, .inl f8)), ((a 6), .inl (G.2.1 0, 5100, .inl f101)), ((a 7), .inl (G.2.1 0, 5100, .inl f102)), ((a 8), .inl (G.2.1 1, 5100, .inl f103)), (h0, .inr (9, fs108))] := hD
  have hP : va_P G.1 pCl [((a 2), .inl (G.2.1 0, 5001, .inl f5)), ((a 3), .inl (G.2.1 0, 5001, .inl f6)), ((a 4), .inl (G.2.1 0, 5001, .inl f7)), ((a 5), .inl (G.2.1 0, 5001, .inl f8)), ((a 6), .inl (G.2.1 0, 5100, .inl f101)), ((a 7), .inl (G.2.1 0, 5100, .inl f102)), ((a 8), .inl (G.2.1 1, 5100, .inl f103)), (h0, .inr (9, fs108))] H := hP
  have hD : va_D A [((a 2), .inl (G.2.1 0, 5001, .inl f5)), ((a 3), .inl (G.2.1 0, 5001, .inl f6)), ((a 4), .inl (G.2.1 0, 5001, .inl f7)), ((a 5), .inl (G.2.1 0, 5001, .inl f8)), ((a 6), .inl (G.2.1 0, 5100, .inl f101)), ((a 7), .inl (G.2.1 0, 5100, .inl f102)), ((a 8), .inl (G.2.1 1, 5100, .inl f103)), (h0, .inr (9, fs108))] := hD
  refine W.widen (k := 0) (n := 0) (Nat.le_of_ble_eq_true rfl) (Nat.le_of_ble_eq_true rfl) ?_
  refine W.eq (g2 := F0 m 111 ls [.int (-1)]) rfl ?_
  refine lv_bipush (v := 13) hx hb dX12_cut_111 (by decide) ?_
  refine lv_icmp_eq (tgt := 126) hx hb dX12_cut_113 (by decide) (fun c123 => absurd c123 (by decide)) (fun c123 => ?_)
  refine lv_aload_n hx hb dX12_cut_116 rfl (lv_at hl 2 rfl) ?_
  refine lv_iload_n hx hb dX12_cut_117 rfl (lv_at hl 1 rfl) ?_
  refine pc_V (G := G) (As := [.int 0]) (rest := []) (wr := [((a 2), .inl (G.2.1 0, 5001, .inl f5)), ((a 3), .inl (G.2.1 0, 5001, .inl f6)), ((a 4), .inl (G.2.1 0, 5001, .inl f7)), ((a 5), .inl (G.2.1 0, 5001, .inl f8)), ((a 6), .inl (G.2.1 0, 5100, .inl f101)), ((a 7), .inl (G.2.1 0, 5100, .inl f102)), ((a 8), .inl (G.2.1 1, 5100, .inl f103))]) hx hb hml hown hq hE hX pX0_al hP hD hS hA hl.1 (m_ch l G h0 a fs108 hn110 (by rw [e109, List.getElem?_set_ne (by decide), hfr105 4 (by decide) (by decide), hfr94 4 (by decide) (by decide), hfr83 4 (by decide) (by decide), hfr72 4 (by decide) (by decide), hfr61 4 (by decide) (by decide), hfr50 4 (by decide) (by decide), hfr39 4 (by decide) (by decide), hfr28 4 (by decide) (by decide), hfr17 4 (by decide) (by decide), e5, List.getElem?_set_ne (by decide), e2, List.getElem?_set_ne (by decide)]; exact hf_4)) (gV pw_268 pw_530 pw_531 pw_517 pw_529) hV_X12_ch 7 9 rfl rfl rfl [7] [0, 1, 2, 3, 4, 5, 6] rfl rfl (by decide) (by decide) (by decide) rfl (Nat.le_of_ble_eq_true rfl) dX12_cut_118 ⟨Nat.le_of_ble_eq_true rfl, Nat.le_of_ble_eq_true rfl⟩ ⟨Nat.le_of_ble_eq_true rfl, Nat.le_of_ble_eq_true rfl⟩ (fun v126 u124 H locs hw125 hP hD hS => ?_)
  obtain rfl : v126 = some (.int (-1)) := hw125
  have hP : va_P G.1 pCl [((a 2), .inl (G.2.1 0, 5001, .inl f5)), ((a 3), .inl (G.2.1 0, 5001, .inl f6)), ((a 4), .inl (G.2.1 0, 5001, .inl f7)), ((a 5), .inl (G.2.1 0, 5001, .inl f8)), ((a 6), .inl (G.2.1 0, 5100, .inl f101)), ((a 7), .inl (G.2.1 0, 5100, .inl f102)), ((a 8), .inl (G.2.1 1, 5100, .inl f103)), (h0, .inr (9, fs108))] H := hP
  have hD : va_D A [((a 2), .inl (G.2.1 0, 5001, .inl f5)), ((a 3), .inl (G.2.1 0, 5001, .inl f6)), ((a 4), .inl (G.2.1 0, 5001, .inl f7)), ((a 5), .inl (G.2.1 0, 5001, .inl f8)), ((a 6), .inl (G.2.1 0, 5100, .inl f101)), ((a 7), .inl (G.2.1 0, 5100, .inl f102)), ((a 8), .inl (G.2.1 1, 5100, .inl f103)), (h0, .inr (9, fs108))] := hD
  have hP : va_P G.1 pCl [((a 2), .inl (G.2.1 0, 5001, .inl f5)), ((a 3), .inl (G.2.1 0, 5001, .inl f6)), ((a 4), .inl (G.2.1 0, 5001, .inl f7)), ((a 5), .inl (G.2.1 0, 5001, .inl f8)), ((a 6), .inl (G.2.1 0, 5100, .inl f101)), ((a 7), .inl (G.2.1 0, 5100, .inl f102)), ((a 8), .inl (G.2.1 1, 5100, .inl f103)), (h0, .inr (9, fs108))] H := hP
  have hD : va_D A [((a 2), .inl (G.2.1 0, 5001, .inl f5)), ((a 3), .inl (G.2.1 0, 5001, .inl f6)), ((a 4), .inl (G.2.1 0, 5001, .inl f7)), ((a 5), .inl (G.2.1 0, 5001, .inl f8)), ((a 6), .inl (G.2.1 0, 5100, .inl f101)), ((a 7), .inl (G.2.1 0, 5100, .inl f102)), ((a 8), .inl (G.2.1 1, 5100, .inl f103)), (h0, .inr (9, fs108))] := hD
  refine W.widen (k := 0) (n := 0) (Nat.le_of_ble_eq_true rfl) (Nat.le_of_ble_eq_true rfl) ?_
  refine W.eq (g2 := F0 m 121 ls [.int (-1)]) rfl ?_
  refine lv_bipush (v := 32) hx hb dX12_cut_121 (by decide) ?_
  refine lv_icmp_ne (tgt := 132) hx hb dX12_cut_123 (by decide) (fun c127 => ?_) (fun c127 => absurd c127 (by decide))
  refine lv_aload_n hx hb dX12_cut_132 rfl (lv_at hl 2 rfl) ?_
  refine lv_iload_n hx hb dX12_cut_133 rfl (lv_at hl 1 rfl) ?_
  refine pc_V (G := G) (As := [.int 0]) (rest := []) (wr := [((a 2), .inl (G.2.1 0, 5001, .inl f5)), ((a 3), .inl (G.2.1 0, 5001, .inl f6)), ((a 4), .inl (G.2.1 0, 5001, .inl f7)), ((a 5), .inl (G.2.1 0, 5001, .inl f8)), ((a 6), .inl (G.2.1 0, 5100, .inl f101)), ((a 7), .inl (G.2.1 0, 5100, .inl f102)), ((a 8), .inl (G.2.1 1, 5100, .inl f103))]) hx hb hml hown hq hE hX pX0_al hP hD hS hA hl.1 (m_ch l G h0 a fs108 hn110 (by rw [e109, List.getElem?_set_ne (by decide), hfr105 4 (by decide) (by decide), hfr94 4 (by decide) (by decide), hfr83 4 (by decide) (by decide), hfr72 4 (by decide) (by decide), hfr61 4 (by decide) (by decide), hfr50 4 (by decide) (by decide), hfr39 4 (by decide) (by decide), hfr28 4 (by decide) (by decide), hfr17 4 (by decide) (by decide), e5, List.getElem?_set_ne (by decide), e2, List.getElem?_set_ne (by decide)]; exact hf_4)) (gV pw_268 pw_530 pw_531 pw_517 pw_529) hV_X12_ch 7 9 rfl rfl rfl [7] [0, 1, 2, 3, 4, 5, 6] rfl rfl (by decide) (by decide) (by decide) rfl (Nat.le_of_ble_eq_true rfl) dX12_cut_134 ⟨Nat.le_of_ble_eq_true rfl, Nat.le_of_ble_eq_true rfl⟩ ⟨Nat.le_of_ble_eq_true rfl, Nat.le_of_ble_eq_true rfl⟩ (fun v130 u128 H locs hw129 hP hD hS => ?_)
  obtain rfl : v130 = some (.int (-1)) := hw129
  have hP : va_P G.1 pCl [((a 2), .inl (G.2.1 0, 5001, .inl f5)), ((a 3), .inl (G.2.1 0, 5001, .inl f6)), ((a 4), .inl (G.2.1 0, 5001, .inl f7)), ((a 5), .inl (G.2.1 0, 5001, .inl f8)), ((a 6), .inl (G.2.1 0, 5100, .inl f101)), ((a 7), .inl (G.2.1 0, 5100, .inl f102)), ((a 8), .inl (G.2.1 1, 5100, .inl f103)), (h0, .inr (9, fs108))] H := hP
  have hD : va_D A [((a 2), .inl (G.2.1 0, 5001, .inl f5)), ((a 3), .inl (G.2.1 0, 5001, .inl f6)), ((a 4), .inl (G.2.1 0, 5001, .inl f7)), ((a 5), .inl (G.2.1 0, 5001, .inl f8)), ((a 6), .inl (G.2.1 0, 5100, .inl f101)), ((a 7), .inl (G.2.1 0, 5100, .inl f102)), ((a 8), .inl (G.2.1 1, 5100, .inl f103)), (h0, .inr (9, fs108))] := hD
  have hP : va_P G.1 pCl [((a 2), .inl (G.2.1 0, 5001, .inl f5)), ((a 3), .inl (G.2.1 0, 5001, .inl f6)), ((a 4), .inl (G.2.1 0, 5001, .inl f7)), ((a 5), .inl (G.2.1 0, 5001, .inl f8)), ((a 6), .inl (G.2.1 0, 5100, .inl f101)), ((a 7), .inl (G.2.1 0, 5100, .inl f102)), ((a 8), .inl (G.2.1 1, 5100, .inl f103)), (h0, .inr (9, fs108))] H := hP
  have hD : va_D A [((a 2), .inl (G.2.1 0, 5001, .inl f5)), ((a 3), .inl (G.2.1 0, 5001, .inl f6)), ((a 4), .inl (G.2.1 0, 5001, .inl f7)), ((a 5), .inl (G.2.1 0, 5001, .inl f8)), ((a 6), .inl (G.2.1 0, 5100, .inl f101)), ((a 7), .inl (G.2.1 0, 5100, .inl f102)), ((a 8), .inl (G.2.1 1, 5100, .inl f103)), (h0, .inr (9, fs108))] := hD
  refine W.widen (k := 0) (n := 0) (Nat.le_of_ble_eq_true rfl) (Nat.le_of_ble_eq_true rfl) ?_
  refine W.eq (g2 := F0 m 137 ls [.int (-1)]) rfl ?_
  refine lv_bipush (v := 47) hx hb dX12_cut_137 (by decide) ?_
  refine lv_icmp_ne (tgt := 178) hx hb dX12_cut_139 (by decide) (fun c131 => ?_) (fun c131 => absurd c131 (by decide))
  refine lv_iload_n hx hb dX12_cut_178 rfl (lv_at hl 1 rfl) ?_
  refine lv_iconst (v := 1) hx hb dX12_cut_179 (by decide) ?_
  refine lv_iadd hx hb dX12_cut_180 ?_
  refine lv_topi (fun x132 e133 => ?_)
  obtain rfl : x132 = 1 := e133.trans (by decide)
  refine lv_istore_n (lv' := [(3, .int 1), (2, .int 1), (1, .int 0), (0, .ref h0)]) hx hb dX12_cut_181 rfl hl (by decide) rfl (fun ls hl => ?_)
  refine lv_iconst (v := 0) hx hb dX12_cut_182 (by decide) ?_
  refine lv_istore (lv' := [(4, .int 0), (3, .int 1), (2, .int 1), (1, .int 0), (0, .ref h0)]) hx hb dX12_cut_183 hl (by decide) rfl (fun ls hl => ?_)
  refine lv_iconst (v := 0) hx hb dX12_cut_185 (by decide) ?_
  refine lv_istore (lv' := [(5, .int 0), (4, .int 0), (3, .int 1), (2, .int 1), (1, .int 0), (0, .ref h0)]) hx hb dX12_cut_186 hl (by decide) rfl (fun ls hl => ?_)
  refine lv_iload_n hx hb dX12_cut_188 rfl (lv_at hl 4 rfl) ?_
  refine lv_aload_n hx hb dX12_cut_189 rfl (lv_at hl 5 rfl) ?_
  refine va_get (D := G.1) (ci := 9) (v := .int 0) (C := RX12) (T := TX12) (N := 134) hx hb hq pin_wsX120 hown hE.1.1 hP 7 rfl rfl 4 (by decide) (by rw [tFX12_4]; exact hq _ pw_261) (fun _ h9 => h9) (by rw [e109, List.getElem?_set_ne (by decide), hfr105 4 (by decide) (by decide), hfr94 4 (by decide) (by decide), hfr83 4 (by decide) (by decide), hfr72 4 (by decide) (by decide), hfr61 4 (by decide) (by decide), hfr50 4 (by decide) (by decide), hfr39 4 (by decide) (by decide), hfr28 4 (by decide) (by decide), hfr17 4 (by decide) (by decide), e5, List.getElem?_set_ne (by decide), e2, List.getElem?_set_ne (by decide)]; exact hf_4) dX12_cut_190 ?_
  refine lv_icmp_lt (tgt := 201) hx hb dX12_cut_193 (by decide) (fun c134 => absurd c134 (by decide)) (fun c134 => ?_)
  refine lv_iload_n hx hb dX12_cut_196 rfl (lv_at hl 4 rfl) ?_
  refine lv_istore_n (lv' := [(3, .int 0), (5, .int 0), (4, .int 0), (2, .int 1), (1, .int 0), (0, .ref h0)]) hx hb dX12_cut_197 rfl hl (by decide) rfl (fun ls hl => ?_)
  refine lv_goto (tgt := 472) hx hb dX12_cut_198 (by decide) ?_
  refine lv_aload_n hx hb dX12_cut_472 rfl (lv_at hl 5 rfl) ?_
  refine va_get (D := G.1) (ci := 9) (v := .ref (a 2)) (C := RX12) (T := TX12) (N := 134) hx hb hq pin_wsX120 hown hE.1.1 hP 7 rfl rfl 5 (by decide) (by rw [tFX12_5]; exact hq _ pw_180) (fun _ h9 => h9) (by rw [e109, List.getElem?_set_ne (by decide), hfr105 5 (by decide) (by decide), hfr94 5 (by decide) (by decide), hfr83 5 (by decide) (by decide), hfr72 5 (by decide) (by decide), hfr61 5 (by decide) (by decide), hfr50 5 (by decide) (by decide), hfr39 5 (by decide) (by decide), hfr28 5 (by decide) (by decide), hfr17 5 (by decide) (by decide), e5, List.getElem?_set_ne (by decide), e2, List.getElem?_set_ne (by decide)]; exact hf_5) dX12_cut_473 ?_
  refine lv_aload_n hx hb dX12_cut_476 rfl (lv_at hl 5 rfl) ?_
  refine va_get (D := G.1) (ci := 9) (v := .int 0) (C := RX12) (T := TX12) (N := 134) hx hb hq pin_wsX120 hown hE.1.1 hP 7 rfl rfl 9 (by decide) (by rw [tFX12_9]; exact hq _ pw_267) (fun _ h9 => h9) (by rw [e109]; exact List.getElem?_set_self (by rw [hn104]; decide)) dX12_cut_477 ?_
  refine lv_iload hx hb dX12_cut_480 (lv_at hl 2 rfl) ?_
  refine va_iast hx hb hE.1.1 hP hD hS 0 0 rfl rfl (by unfold vp_in; decide) dX12_cut_482 (fun H locs hP hD hS => ?_)
  have hP : va_P G.1 pCl [((a 2), .inl (G.2.1 0, 5001, .inl (upd f5 (Int32.toNatClampNeg 0) 0))), ((a 3), .inl (G.2.1 0, 5001, .inl f6)), ((a 4), .inl (G.2.1 0, 5001, .inl f7)), ((a 5), .inl (G.2.1 0, 5001, .inl f8)), ((a 6), .inl (G.2.1 0, 5100, .inl f101)), ((a 7), .inl (G.2.1 0, 5100, .inl f102)), ((a 8), .inl (G.2.1 1, 5100, .inl f103)), (h0, .inr (9, fs108))] H := hP
  have hD : va_D A [((a 2), .inl (G.2.1 0, 5001, .inl (upd f5 (Int32.toNatClampNeg 0) 0))), ((a 3), .inl (G.2.1 0, 5001, .inl f6)), ((a 4), .inl (G.2.1 0, 5001, .inl f7)), ((a 5), .inl (G.2.1 0, 5001, .inl f8)), ((a 6), .inl (G.2.1 0, 5100, .inl f101)), ((a 7), .inl (G.2.1 0, 5100, .inl f102)), ((a 8), .inl (G.2.1 1, 5100, .inl f103)), (h0, .inr (9, fs108))] := hD
  refine lv_aload_n hx hb dX12_cut_483 rfl (lv_at hl 5 rfl) ?_
  refine va_get (D := G.1) (ci := 9) (v := .ref (a 3)) (C := RX12) (T := TX12) (N := 134) hx hb hq pin_wsX120 hown hE.1.1 hP 7 rfl rfl 6 (by decide) (by rw [tFX12_6]; exact hq _ pw_181) (fun _ h9 => h9) (by rw [e109, List.getElem?_set_ne (by decide), hfr105 6 (by decide) (by decide), hfr94 6 (by decide) (by decide), hfr83 6 (by decide) (by decide), hfr72 6 (by decide) (by decide), hfr61 6 (by decide) (by decide), hfr50 6 (by decide) (by decide), hfr39 6 (by decide) (by decide), hfr28 6 (by decide) (by decide), hfr17 6 (by decide) (by decide), e5, List.getElem?_set_ne (by decide), e2, List.getElem?_set_ne (by decide)]; exact hf_6) dX12_cut_484 ?_
  refine lv_aload_n hx hb dX12_cut_487 rfl (lv_at hl 5 rfl) ?_
  refine va_get (D := G.1) (ci := 9) (v := .int 0) (C := RX12) (T := TX12) (N := 134) hx hb hq pin_wsX120 hown hE.1.1 hP 7 rfl rfl 9 (by decide) (by rw [tFX12_9]; exact hq _ pw_267) (fun _ h9 => h9) (by rw [e109]; exact List.getElem?_set_self (by rw [hn104]; decide)) dX12_cut_488 ?_
  refine lv_iload_n hx hb dX12_cut_491 rfl (lv_at hl 4 rfl) ?_
  refine va_iast hx hb hE.1.1 hP hD hS 1 0 rfl rfl (by unfold vp_in; decide) dX12_cut_492 (fun H locs hP hD hS => ?_)
  have hP : va_P G.1 pCl [((a 2), .inl (G.2.1 0, 5001, .inl (upd f5 (Int32.toNatClampNeg 0) 0))), ((a 3), .inl (G.2.1 0, 5001, .inl (upd f6 (Int32.toNatClampNeg 0) 0))), ((a 4), .inl (G.2.1 0, 5001, .inl f7)), ((a 5), .inl (G.2.1 0, 5001, .inl f8)), ((a 6), .inl (G.2.1 0, 5100, .inl f101)), ((a 7), .inl (G.2.1 0, 5100, .inl f102)), ((a 8), .inl (G.2.1 1, 5100, .inl f103)), (h0, .inr (9, fs108))] H := hP
  have hD : va_D A [((a 2), .inl (G.2.1 0, 5001, .inl (upd f5 (Int32.toNatClampNeg 0) 0))), ((a 3), .inl (G.2.1 0, 5001, .inl (upd f6 (Int32.toNatClampNeg 0) 0))), ((a 4), .inl (G.2.1 0, 5001, .inl f7)), ((a 5), .inl (G.2.1 0, 5001, .inl f8)), ((a 6), .inl (G.2.1 0, 5100, .inl f101)), ((a 7), .inl (G.2.1 0, 5100, .inl f102)), ((a 8), .inl (G.2.1 1, 5100, .inl f103)), (h0, .inr (9, fs108))] := hD
  refine lv_aload_n hx hb dX12_cut_493 rfl (lv_at hl 5 rfl) ?_
  refine va_get (D := G.1) (ci := 9) (v := .ref (a 4)) (C := RX12) (T := TX12) (N := 134) hx hb hq pin_wsX120 hown hE.1.1 hP 7 rfl rfl 7 (by decide) (by rw [tFX12_7]; exact hq _ pw_182) (fun _ h9 => h9) (by rw [e109, List.getElem?_set_ne (by decide), hfr105 7 (by decide) (by decide), hfr94 7 (by decide) (by decide), hfr83 7 (by decide) (by decide), hfr72 7 (by decide) (by decide), hfr61 7 (by decide) (by decide), hfr50 7 (by decide) (by decide), hfr39 7 (by decide) (by decide), hfr28 7 (by decide) (by decide), hfr17 7 (by decide) (by decide), e5, List.getElem?_set_ne (by decide), e2, List.getElem?_set_ne (by decide)]; exact hf_7) dX12_cut_494 ?_
  refine lv_aload_n hx hb dX12_cut_497 rfl (lv_at hl 5 rfl) ?_
  refine va_get (D := G.1) (ci := 9) (v := .int 0) (C := RX12) (T := TX12) (N := 134) hx hb hq pin_wsX120 hown hE.1.1 hP 7 rfl rfl 9 (by decide) (by rw [tFX12_9]; exact hq _ pw_267) (fun _ h9 => h9) (by rw [e109]; exact List.getElem?_set_self (by rw [hn104]; decide)) dX12_cut_498 ?_
  refine lv_iload_n hx hb dX12_cut_501 rfl (lv_at hl 0 rfl) ?_
  refine va_iast hx hb hE.1.1 hP hD hS 2 0 rfl rfl (by unfold vp_in; decide) dX12_cut_502 (fun H locs hP hD hS => ?_)
  have hP : va_P G.1 pCl [((a 2), .inl (G.2.1 0, 5001, .inl (upd f5 (Int32.toNatClampNeg 0) 0))), ((a 3), .inl (G.2.1 0, 5001, .inl (upd f6 (Int32.toNatClampNeg 0) 0))), ((a 4), .inl (G.2.1 0, 5001, .inl (upd f7 (Int32.toNatClampNeg 0) 0))), ((a 5), .inl (G.2.1 0, 5001, .inl f8)), ((a 6), .inl (G.2.1 0, 5100, .inl f101)), ((a 7), .inl (G.2.1 0, 5100, .inl f102)), ((a 8), .inl (G.2.1 1, 5100, .inl f103)), (h0, .inr (9, fs108))] H := hP
  have hD : va_D A [((a 2), .inl (G.2.1 0, 5001, .inl (upd f5 (Int32.toNatClampNeg 0) 0))), ((a 3), .inl (G.2.1 0, 5001, .inl (upd f6 (Int32.toNatClampNeg 0) 0))), ((a 4), .inl (G.2.1 0, 5001, .inl (upd f7 (Int32.toNatClampNeg 0) 0))), ((a 5), .inl (G.2.1 0, 5001, .inl f8)), ((a 6), .inl (G.2.1 0, 5100, .inl f101)), ((a 7), .inl (G.2.1 0, 5100, .inl f102)), ((a 8), .inl (G.2.1 1, 5100, .inl f103)), (h0, .inr (9, fs108))] := hD
  generalize (upd f7 (Int32.toNatClampNeg 0) 0) = f135 at hP hD
  refine lv_aload_n hx hb dX12_cut_503 rfl (lv_at hl 5 rfl) ?_
  refine va_get (D := G.1) (ci := 9) (v := .ref (a 5)) (C := RX12) (T := TX12) (N := 134) hx hb hq pin_wsX120 hown hE.1.1 hP 7 rfl rfl 8 (by decide) (by rw [tFX12_8]; exact hq _ pw_183) (fun _ h9 => h9) (by rw [e109, List.getElem?_set_ne (by decide), hfr105 8 (by decide) (by decide), hfr94 8 (by decide) (by decide), hfr83 8 (by decide) (by decide), hfr72 8 (by decide) (by decide), hfr61 8 (by decide) (by decide), hfr50 8 (by decide) (by decide), hfr39 8 (by decide) (by decide), hfr28 8 (by decide) (by decide), hfr17 8 (by decide) (by decide), e5, List.getElem?_set_ne (by decide), e2, List.getElem?_set_ne (by decide)]; exact hf_8) dX12_cut_504 ?_
  refine lv_aload_n hx hb dX12_cut_507 rfl (lv_at hl 5 rfl) ?_
  refine va_get (D := G.1) (ci := 9) (v := .int 0) (C := RX12) (T := TX12) (N := 134) hx hb hq pin_wsX120 hown hE.1.1 hP 7 rfl rfl 9 (by decide) (by rw [tFX12_9]; exact hq _ pw_267) (fun _ h9 => h9) (by rw [e109]; exact List.getElem?_set_self (by rw [hn104]; decide)) dX12_cut_508 ?_
  refine lv_iload hx hb dX12_cut_511 (lv_at hl 1 rfl) ?_
  refine va_iast hx hb hE.1.1 hP hD hS 3 0 rfl rfl (by unfold vp_in; decide) dX12_cut_513 (fun H locs hP hD hS => ?_)
  have hP : va_P G.1 pCl [((a 2), .inl (G.2.1 0, 5001, .inl (upd f5 (Int32.toNatClampNeg 0) 0))), ((a 3), .inl (G.2.1 0, 5001, .inl (upd f6 (Int32.toNatClampNeg 0) 0))), ((a 4), .inl (G.2.1 0, 5001, .inl f135)), ((a 5), .inl (G.2.1 0, 5001, .inl (upd f8 (Int32.toNatClampNeg 0) 0))), ((a 6), .inl (G.2.1 0, 5100, .inl f101)), ((a 7), .inl (G.2.1 0, 5100, .inl f102)), ((a 8), .inl (G.2.1 1, 5100, .inl f103)), (h0, .inr (9, fs108))] H := hP
  have hD : va_D A [((a 2), .inl (G.2.1 0, 5001, .inl (upd f5 (Int32.toNatClampNeg 0) 0))), ((a 3), .inl (G.2.1 0, 5001, .inl (upd f6 (Int32.toNatClampNeg 0) 0))), ((a 4), .inl (G.2.1 0, 5001, .inl f135)), ((a 5), .inl (G.2.1 0, 5001, .inl (upd f8 (Int32.toNatClampNeg 0) 0))), ((a 6), .inl (G.2.1 0, 5100, .inl f101)), ((a 7), .inl (G.2.1 0, 5100, .inl f102)), ((a 8), .inl (G.2.1 1, 5100, .inl f103)), (h0, .inr (9, fs108))] := hD
  generalize (upd f8 (Int32.toNatClampNeg 0) 0) = f136 at hP hD
  refine lv_iload hx hb dX12_cut_514 (lv_at hl 2 rfl) ?_
  refine lv_if_eq (tgt := 529) hx hb dX12_cut_516 (by decide) (fun c137 => ?_) (fun c137 => absurd c137 (by decide))
  refine lv_iconst (v := 0) hx hb dX12_cut_529 (by decide) ?_
  refine lv_istore_n (lv' := [(2, .int 0), (3, .int 0), (5, .int 0), (4, .int 0), (1, .int 0), (0, .ref h0)]) hx hb dX12_cut_530 rfl hl (by decide) rfl (fun ls hl => ?_)
  refine lv_aload_n hx hb dX12_cut_531 rfl (lv_at hl 5 rfl) ?_
  refine lv_dup hx hb dX12_cut_532 rfl ?_
  refine va_get (D := G.1) (ci := 9) (v := .int 0) (C := RX12) (T := TX12) (N := 134) hx hb hq pin_wsX120 hown hE.1.1 hP 7 rfl rfl 9 (by decide) (by rw [tFX12_9]; exact hq _ pw_267) (fun _ h9 => h9) (by rw [e109]; exact List.getElem?_set_self (by rw [hn104]; decide)) dX12_cut_533 ?_
  refine lv_iload_n hx hb dX12_cut_536 rfl (lv_at hl 0 rfl) ?_
  refine lv_if_eq (tgt := 544) hx hb dX12_cut_537 (by decide) (fun c138 => ?_) (fun c138 => absurd c138 (by decide))
  refine lv_iconst (v := 0) hx hb dX12_cut_544 (by decide) ?_
  refine lv_iadd hx hb dX12_cut_545 ?_
  refine lv_topi (fun x139 e140 => ?_)
  obtain rfl : x139 = 0 := e140.trans (by decide)
  refine va_put (D := G.1) (ci := 9) (v := .int 0) (ty := .int) (C := RX12) (T := TX12) (N := 134) hx hb hq pin_wsX120 tyX12 tyX12_ok nmX12 hown hE.1.1 hP hD hS 7 rfl rfl 9 (by decide) (by rw [tFX12_9]; exact hq _ pw_267) (fun _ h9 => h9) (by rw [tFX12_9]) (by rw [tFX12_9]; decide +kernel) rfl rfl (by rw [hn110]; decide) dX12_cut_546 (fun H locs hP hD hS => ?_)
  obtain ⟨fs141, e142⟩ : ∃ z : List Value, z = fs108.set 9 (.int 0) := ⟨_, rfl⟩
  have hn143 : fs141.length = 134 := by rw [e142, List.length_set]; exact hn110
  have hP : va_P G.1 pCl [((a 2), .inl (G.2.1 0, 5001, .inl (upd f5 (Int32.toNatClampNeg 0) 0))), ((a 3), .inl (G.2.1 0, 5001, .inl (upd f6 (Int32.toNatClampNeg 0) 0))), ((a 4), .inl (G.2.1 0, 5001, .inl f135)), ((a 5), .inl (G.2.1 0, 5001, .inl f136)), ((a 6), .inl (G.2.1 0, 5100, .inl f101)), ((a 7), .inl (G.2.1 0, 5100, .inl f102)), ((a 8), .inl (G.2.1 1, 5100, .inl f103)), (h0, .inr (9, fs141))] H := by rw [e142]; exact hP
  have hD : va_D A [((a 2), .inl (G.2.1 0, 5001, .inl (upd f5 (Int32.toNatClampNeg 0) 0))), ((a 3), .inl (G.2.1 0, 5001, .inl (upd f6 (Int32.toNatClampNeg 0) 0))), ((a 4), .inl (G.2.1 0, 5001, .inl f135)), ((a 5), .inl (G.2.1 0, 5001, .inl f136)), ((a 6), .inl (G.2.1 0, 5100, .inl f101)), ((a 7), .inl (G.2.1 0, 5100, .inl f102)), ((a 8), .inl (G.2.1 1, 5100, .inl f103)), (h0, .inr (9, fs141))] := by rw [e142]; exact hD
  refine lv_iload_n hx hb dX12_cut_549 rfl (lv_at hl 1 rfl) ?_
  refine lv_istore_n (lv' := [(1, .int 0), (2, .int 0), (3, .int 0), (5, .int 0), (4, .int 0), (0, .ref h0)]) hx hb dX12_cut_550 rfl hl (by decide) rfl (fun ls hl => ?_)
  refine lv_goto (tgt := 82) hx hb dX12_cut_551 (by decide) ?_
  refine lv_iload_n hx hb dX12_cut_82 rfl (lv_at hl 1 rfl) ?_
  refine lv_if_eq (tgt := 554) hx hb dX12_cut_83 (by decide) (fun c144 => ?_) (fun c144 => absurd c144 (by decide))
  refine W.widen (k := 0) (n := 0) (Nat.le_of_ble_eq_true rfl) (Nat.le_of_ble_eq_true rfl) ?_
  exact W.vret hx hb hr (fun t ht hW => ⟨⟨_, (fs141, (upd f5 (Int32.toNatClampNeg 0) 0), (upd f6 (Int32.toNatClampNeg 0) 0)), rfl, ⟨rfl, hn143, (by rw [e142, List.getElem?_set_ne (by decide), e109, List.getElem?_set_ne (by decide)]; exact hk107), (by rw [e142, List.getElem?_set_ne (by decide), e109, List.getElem?_set_ne (by decide)]; exact hk106), (by rw [e142]; exact List.getElem?_set_self (by rw [hn110]; decide)), (fun j h_14 h_13 h_9 => by rw [e142, List.getElem?_set_ne (Ne.symm h_9), e109, List.getElem?_set_ne (Ne.symm h_9), hfr105 j h_13 h_14, hfr94 j h_13 h_14, hfr83 j h_13 h_14, hfr72 j h_13 h_14, hfr61 j h_13 h_14, hfr50 j h_13 h_14, hfr39 j h_13 h_14, hfr28 j h_13 h_14, hfr17 j h_13 h_14, e5, List.getElem?_set_ne (Ne.symm h_13), e2, List.getElem?_set_ne (Ne.symm h_14)]), rfl, rfl⟩, by rw [ht]; exact hP.sub [7, 0, 1] rfl, hD.sub [7, 0, 1] (by decide) rfl⟩, hS.F ht⟩) hS.2.2 dX12_cut_554
theorem dX12_kind_0 : decode cX12_kind 0 = .ok (.aload_n 0, 1) := by decide +kernel
theorem dX12_kind_1 : decode cX12_kind 1 = .ok (.getfield 16, 3) := by decide +kernel
theorem dX12_kind_4 : decode cX12_kind 4 = .ok (.aload_n 0, 1) := by decide +kernel
theorem dX12_kind_5 : decode cX12_kind 5 = .ok (.getfield 343, 3) := by decide +kernel
theorem dX12_kind_8 : decode cX12_kind 8 = .ok (.iaload, 1) := by decide +kernel
theorem dX12_kind_9 : decode cX12_kind 9 = .ok (.ireturn, 1) := by decide +kernel
set_option maxHeartbeats 4000000 in
set_option maxRecDepth 100000 in
/-- kind() at the end -/
theorem m_kind (l : Launch) (G : pT) (h0 : Nat) (a : Nat → Nat) (fs : List Value) (f5 : Nat → Int32) (hn : fs.length = 134) (hf_64 : fs[64]? = some (.int 0)) (hf_5 : fs[5]? = some (.ref (a 2))) (h5 : f5 0 = 0) : PM l G pX0 yX12_kind cX12_kind 1 (some .int) ({ frames := 2, cells := 0, slots := 0, locals := 60 }) [.ref h0] [(h0, .inr (9, fs)), ((a 2), .inl (G.2.1 0, 5001, .inl f5))] (fun (v : Option Value) (u : Unit) => v = some (.int 0)) (fun u => [(h0, .inr (9, fs)), ((a 2), .inl (G.2.1 0, 5001, .inl f5))]) := by
  intro sz
  refine Met.ofW (cc := cX12_kind) (maxL := 1) (ret := (some .int)) (by decide) rfl ?_
  intro p e s m args below meth c s₁ B hml hv
  obtain ⟨rfl, hsz, hP, hD0, hE, hX⟩ := hv
  have hx := B.exec
  have hb := B.bytes
  have hr := B.returns
  have hts := atoms_spec (ws := Cond.code yX12_kind cX12_kind 1 (some .int) :: pw) B.pre
  have hq : ∀ w ∈ pw, w.before _ s = true := fun w h => hts w (List.mem_cons_of_mem _ h)
  have hown : s.vm.findClass RX12 = some m.cls := findClass_of_methodNamed B.named
  have hlocks := B.notSynchronized
  subst hsz
  have hD := hD0.self (sz := s.heap.size)
  have hA : ∀ q : Nat, s.heap.size ≤ q → va_A [(h0, .inr (9, fs)), ((a 2), .inl (G.2.1 0, 5001, .inl f5))] s.heap.size q := fun q h => Or.inr h
  have hP : va_P G.1 pCl [(h0, .inr (9, fs)), ((a 2), .inl (G.2.1 0, 5001, .inl f5))] s.heap := hP
  generalize va_A [(h0, .inr (9, fs)), ((a 2), .inl (G.2.1 0, 5001, .inl f5))] s.heap.size = A at hD hE hA ⊢
  have hS : va_S A s.heap s.heap [] := va_S.rf
  have hl := lv_entry ([.ref h0]) (n := 1) (Nat.le_of_ble_eq_true rfl)
  rw [lg_entry_eq]
  generalize (lg_sl ([.ref h0]) ++ List.replicate (1 - (lg_sl ([.ref h0])).length) Slot.unset).toArray = ls at hl ⊢
  have hl : lv_has ls 1 [(0, .ref h0)] := hl
  refine lv_aload_n hx hb dX12_kind_0 rfl (lv_at hl 0 rfl) ?_
  refine va_get (D := G.1) (ci := 9) (v := .ref (a 2)) (C := RX12) (T := TX12) (N := 134) hx hb hq pin_wsX120 hown hE.1.1 hP 0 rfl rfl 5 (by decide) (by rw [tFX12_5]; exact hq _ pw_180) (fun _ h9 => h9) hf_5 dX12_kind_1 ?_
  refine lv_aload_n hx hb dX12_kind_4 rfl (lv_at hl 0 rfl) ?_
  refine va_get (D := G.1) (ci := 9) (v := .int 0) (C := RX12) (T := TX12) (N := 134) hx hb hq pin_wsX120 hown hE.1.1 hP 0 rfl rfl 64 (by decide) (by rw [tFX12_64]; exact hq _ pw_272) (fun _ h9 => h9) hf_64 dX12_kind_5 ?_
  refine va_iald hx hb hE.1.1 hP 1 0 rfl rfl (by unfold vp_in; decide) dX12_kind_8 ?_
  refine lv_topi (fun x1 e2 => ?_)
  obtain rfl : x1 = 0 := e2.trans h5
  refine W.widen (k := 0) (n := 0) (Nat.le_of_ble_eq_true rfl) (Nat.le_of_ble_eq_true rfl) ?_
  exact W.iret (v := 0) hx hb hr (fun t ht hW => ⟨⟨_, (), rfl, rfl, by rw [ht]; exact hP.sub [0, 1] rfl, hD.sub [0, 1] (by decide) rfl⟩, hS.F ht⟩) hS.2.2 dX12_kind_9
theorem dX12_firstRound_0 : decode cX12_firstRound 0 = .ok (.bipush 7, 2) := by decide +kernel
theorem dX12_firstRound_2 : decode cX12_firstRound 2 = .ok (.istore_n 1, 1) := by decide +kernel
theorem dX12_firstRound_3 : decode cX12_firstRound 3 = .ok (.iload_n 1, 1) := by decide +kernel
theorem dX12_firstRound_4 : decode cX12_firstRound 4 = .ok (.aload_n 0, 1) := by decide +kernel
theorem dX12_firstRound_5 : decode cX12_firstRound 5 = .ok (.getfield 384, 3) := by decide +kernel
theorem dX12_firstRound_8 : decode cX12_firstRound 8 = .ok (.if_icmp .ge 61, 3) := by decide +kernel
theorem dX12_firstRound_69 : decode cX12_firstRound 69 = .ok (.iconst 0, 1) := by decide +kernel
theorem dX12_firstRound_70 : decode cX12_firstRound 70 = .ok (.istore_n 1, 1) := by decide +kernel
theorem dX12_firstRound_71 : decode cX12_firstRound 71 = .ok (.iload_n 1, 1) := by decide +kernel
theorem dX12_firstRound_72 : decode cX12_firstRound 72 = .ok (.aload_n 0, 1) := by decide +kernel
theorem dX12_firstRound_73 : decode cX12_firstRound 73 = .ok (.getfield 413, 3) := by decide +kernel
theorem dX12_firstRound_76 : decode cX12_firstRound 76 = .ok (.if_icmp .ge 63, 3) := by decide +kernel
theorem dX12_firstRound_139 : decode cX12_firstRound 139 = .ok (.iconst 0, 1) := by decide +kernel
theorem dX12_firstRound_140 : decode cX12_firstRound 140 = .ok (.istore_n 1, 1) := by decide +kernel
theorem dX12_firstRound_141 : decode cX12_firstRound 141 = .ok (.iload_n 1, 1) := by decide +kernel
theorem dX12_firstRound_142 : decode cX12_firstRound 142 = .ok (.aload_n 0, 1) := by decide +kernel
theorem dX12_firstRound_143 : decode cX12_firstRound 143 = .ok (.getfield 416, 3) := by decide +kernel
theorem dX12_firstRound_146 : decode cX12_firstRound 146 = .ok (.if_icmp .ge 63, 3) := by decide +kernel
theorem dX12_firstRound_209 : decode cX12_firstRound 209 = .ok (.iconst 0, 1) := by decide +kernel
theorem dX12_firstRound_210 : decode cX12_firstRound 210 = .ok (.istore_n 1, 1) := by decide +kernel
theorem dX12_firstRound_211 : decode cX12_firstRound 211 = .ok (.iload_n 1, 1) := by decide +kernel
theorem dX12_firstRound_212 : decode cX12_firstRound 212 = .ok (.aload_n 0, 1) := by decide +kernel
theorem dX12_firstRound_213 : decode cX12_firstRound 213 = .ok (.getfield 399, 3) := by decide +kernel
theorem dX12_firstRound_216 : decode cX12_firstRound 216 = .ok (.if_icmp .ge 81, 3) := by decide +kernel
theorem dX12_firstRound_297 : decode cX12_firstRound 297 = .ok (.iconst 0, 1) := by decide +kernel
theorem dX12_firstRound_298 : decode cX12_firstRound 298 = .ok (.istore_n 1, 1) := by decide +kernel
theorem dX12_firstRound_299 : decode cX12_firstRound 299 = .ok (.iload_n 1, 1) := by decide +kernel
theorem dX12_firstRound_300 : decode cX12_firstRound 300 = .ok (.aload_n 0, 1) := by decide +kernel
theorem dX12_firstRound_301 : decode cX12_firstRound 301 = .ok (.getfield 340, 3) := by decide +kernel
theorem dX12_firstRound_304 : decode cX12_firstRound 304 = .ok (.if_icmp .ge 91, 3) := by decide +kernel
theorem dX12_firstRound_395 : decode cX12_firstRound 395 = .ok (.return_, 1) := by decide +kernel
set_option maxHeartbeats 4000000 in
set_option maxRecDepth 100000 in
/-- firstRound of an empty text -/
theorem m_firstRound (l : Launch) (G : pT) (h0 : Nat) (a : Nat → Nat) (fs : List Value) (hn : fs.length = 134) (hf_35 : fs[35]? = some (.int 7)) (hf_44 : fs[44]? = some (.int 0)) (hf_49 : fs[49]? = some (.int 0)) (hf_31 : fs[31]? = some (.int 0)) (hf_27 : fs[27]? = some (.int 0)) : PM l G pX0 yX12_firstRound cX12_firstRound 4 none ({ frames := 2, cells := 0, slots := 0, locals := 60 }) [.ref h0] [(h0, .inr (9, fs))] (fun (v : Option Value) (u : Unit) => v = none) (fun u => [(h0, .inr (9, fs))]) := by
  intro sz
  refine Met.ofW (cc := cX12_firstRound) (maxL := 4) (ret := none) (by decide) rfl ?_
  intro p e s m args below meth c s₁ B hml hv
  obtain ⟨rfl, hsz, hP, hD0, hE, hX⟩ := hv
  have hx := B.exec
  have hb := B.bytes
  have hr := B.returns
  have hts := atoms_spec (ws := Cond.code yX12_firstRound cX12_firstRound 4 none :: pw) B.pre
  have hq : ∀ w ∈ pw, w.before _ s = true := fun w h => hts w (List.mem_cons_of_mem _ h)
  have hown : s.vm.findClass RX12 = some m.cls := findClass_of_methodNamed B.named
  have hlocks := B.notSynchronized
  subst hsz
  have hD := hD0.self (sz := s.heap.size)
  have hA : ∀ q : Nat, s.heap.size ≤ q → va_A [(h0, .inr (9, fs))] s.heap.size q := fun q h => Or.inr h
  have hP : va_P G.1 pCl [(h0, .inr (9, fs))] s.heap := hP
  generalize va_A [(h0, .inr (9, fs))] s.heap.size = A at hD hE hA ⊢
  have hS : va_S A s.heap s.heap [] := va_S.rf
  have hl := lv_entry ([.ref h0]) (n := 4) (Nat.le_of_ble_eq_true rfl)
  rw [lg_entry_eq]
  generalize (lg_sl ([.ref h0]) ++ List.replicate (4 - (lg_sl ([.ref h0])).length) Slot.unset).toArray = ls at hl ⊢
  have hl : lv_has ls 4 [(0, .ref h0)] := hl
  refine lv_bipush (v := 7) hx hb dX12_firstRound_0 (by decide) ?_
  refine lv_istore_n (lv' := [(1, .int 7), (0, .ref h0)]) hx hb dX12_firstRound_2 rfl hl (by decide) rfl (fun ls hl => ?_)
  refine lv_iload_n hx hb dX12_firstRound_3 rfl (lv_at hl 0 rfl) ?_
  refine lv_aload_n hx hb dX12_firstRound_4 rfl (lv_at hl 1 rfl) ?_
  refine va_get (D := G.1) (ci := 9) (v := .int 7) (C := RX12) (T := TX12) (N := 134) hx hb hq pin_wsX120 hown hE.1.1 hP 0 rfl rfl 35 (by decide) (by rw [tFX12_35]; exact hq _ pw_277) (fun _ h9 => h9) hf_35 dX12_firstRound_5 ?_
  refine lv_icmp_ge (tgt := 69) hx hb dX12_firstRound_8 (by decide) (fun c1 => ?_) (fun c1 => absurd c1 (by decide))
  refine lv_iconst (v := 0) hx hb dX12_firstRound_69 (by decide) ?_
  refine lv_istore_n (lv' := [(1, .int 0), (0, .ref h0)]) hx hb dX12_firstRound_70 rfl hl (by decide) rfl (fun ls hl => ?_)
  refine lv_iload_n hx hb dX12_firstRound_71 rfl (lv_at hl 0 rfl) ?_
  refine lv_aload_n hx hb dX12_firstRound_72 rfl (lv_at hl 1 rfl) ?_
  refine va_get (D := G.1) (ci := 9) (v := .int 0) (C := RX12) (T := TX12) (N := 134) hx hb hq pin_wsX120 hown hE.1.1 hP 0 rfl rfl 44 (by decide) (by rw [tFX12_44]; exact hq _ pw_280) (fun _ h9 => h9) hf_44 dX12_firstRound_73 ?_
  refine lv_icmp_ge (tgt := 139) hx hb dX12_firstRound_76 (by decide) (fun c2 => ?_) (fun c2 => absurd c2 (by decide))
  refine lv_iconst (v := 0) hx hb dX12_firstRound_139 (by decide) ?_
  refine lv_istore_n (lv' := [(1, .int 0), (0, .ref h0)]) hx hb dX12_firstRound_140 rfl hl (by decide) rfl (fun ls hl => ?_)
  refine lv_iload_n hx hb dX12_firstRound_141 rfl (lv_at hl 0 rfl) ?_
  refine lv_aload_n hx hb dX12_firstRound_142 rfl (lv_at hl 1 rfl) ?_
  refine va_get (D := G.1) (ci := 9) (v := .int 0) (C := RX12) (T := TX12) (N := 134) hx hb hq pin_wsX120 hown hE.1.1 hP 0 rfl rfl 49 (by decide) (by rw [tFX12_49]; exact hq _ pw_281) (fun _ h9 => h9) hf_49 dX12_firstRound_143 ?_
  refine lv_icmp_ge (tgt := 209) hx hb dX12_firstRound_146 (by decide) (fun c3 => ?_) (fun c3 => absurd c3 (by decide))
  refine lv_iconst (v := 0) hx hb dX12_firstRound_209 (by decide) ?_
  refine lv_istore_n (lv' := [(1, .int 0), (0, .ref h0)]) hx hb dX12_firstRound_210 rfl hl (by decide) rfl (fun ls hl => ?_)
  refine lv_iload_n hx hb dX12_firstRound_211 rfl (lv_at hl 0 rfl) ?_
  refine lv_aload_n hx hb dX12_firstRound_212 rfl (lv_at hl 1 rfl) ?_
  refine va_get (D := G.1) (ci := 9) (v := .int 0) (C := RX12) (T := TX12) (N := 134) hx hb hq pin_wsX120 hown hE.1.1 hP 0 rfl rfl 31 (by decide) (by rw [tFX12_31]; exact hq _ pw_282) (fun _ h9 => h9) hf_31 dX12_firstRound_213 ?_
  refine lv_icmp_ge (tgt := 297) hx hb dX12_firstRound_216 (by decide) (fun c4 => ?_) (fun c4 => absurd c4 (by decide))
  refine lv_iconst (v := 0) hx hb dX12_firstRound_297 (by decide) ?_
  refine lv_istore_n (lv' := [(1, .int 0), (0, .ref h0)]) hx hb dX12_firstRound_298 rfl hl (by decide) rfl (fun ls hl => ?_)
  refine lv_iload_n hx hb dX12_firstRound_299 rfl (lv_at hl 0 rfl) ?_
  refine lv_aload_n hx hb dX12_firstRound_300 rfl (lv_at hl 1 rfl) ?_
  refine va_get (D := G.1) (ci := 9) (v := .int 0) (C := RX12) (T := TX12) (N := 134) hx hb hq pin_wsX120 hown hE.1.1 hP 0 rfl rfl 27 (by decide) (by rw [tFX12_27]; exact hq _ pw_283) (fun _ h9 => h9) hf_27 dX12_firstRound_301 ?_
  refine lv_icmp_ge (tgt := 395) hx hb dX12_firstRound_304 (by decide) (fun c5 => ?_) (fun c5 => absurd c5 (by decide))
  refine W.widen (k := 0) (n := 0) (Nat.le_of_ble_eq_true rfl) (Nat.le_of_ble_eq_true rfl) ?_
  exact W.vret hx hb hr (fun t ht hW => ⟨⟨_, (), rfl, rfl, by rw [ht]; exact hP.sub [0] rfl, hD.sub [0] (by decide) rfl⟩, hS.F ht⟩) hS.2.2 dX12_firstRound_395
theorem dX12_ends_0 : decode cX12_ends 0 = .ok (.aload_n 0, 1) := by decide +kernel
theorem dX12_ends_1 : decode cX12_ends 1 = .ok (.getfield 493, 3) := by decide +kernel
theorem dX12_ends_4 : decode cX12_ends 4 = .ok (.ifCond .le 19, 3) := by decide +kernel
theorem dX12_ends_23 : decode cX12_ends 23 = .ok (.aload_n 0, 1) := by decide +kernel
theorem dX12_ends_24 : decode cX12_ends 24 = .ok (.getfield 350, 3) := by decide +kernel
theorem dX12_ends_27 : decode cX12_ends 27 = .ok (.ifCond .le 7, 3) := by decide +kernel
theorem dX12_ends_34 : decode cX12_ends 34 = .ok (.iconst 0, 1) := by decide +kernel
theorem dX12_ends_35 : decode cX12_ends 35 = .ok (.ireturn, 1) := by decide +kernel
set_option maxHeartbeats 4000000 in
set_option maxRecDepth 100000 in
/-- ends(): no -/
theorem m_ends0 (l : Launch) (G : pT) (h0 : Nat) (a : Nat → Nat) (fs : List Value) (hn : fs.length = 134) (hf_70 : fs[70]? = some (.int 0)) (hf_15 : fs[15]? = some (.int 0)) : PM l G pX0 yX12_ends cX12_ends 1 (some .boolean) ({ frames := 2, cells := 0, slots := 0, locals := 60 }) [.ref h0] [(h0, .inr (9, fs))] (fun (v : Option Value) (u : Unit) => v = some (.int 0)) (fun u => [(h0, .inr (9, fs))]) := by
  intro sz
  refine Met.ofW (cc := cX12_ends) (maxL := 1) (ret := (some .boolean)) (by decide) rfl ?_
  intro p e s m args below meth c s₁ B hml hv
  obtain ⟨rfl, hsz, hP, hD0, hE, hX⟩ := hv
  have hx := B.exec
  have hb := B.bytes
  have hr := B.returns
  have hts := atoms_spec (ws := Cond.code yX12_ends cX12_ends 1 (some .boolean) :: pw) B.pre
  have hq : ∀ w ∈ pw, w.before _ s = true := fun w h => hts w (List.mem_cons_of_mem _ h)
  have hown : s.vm.findClass RX12 = some m.cls := findClass_of_methodNamed B.named
  have hlocks := B.notSynchronized
  subst hsz
  have hD := hD0.self (sz := s.heap.size)
  have hA : ∀ q : Nat, s.heap.size ≤ q → va_A [(h0, .inr (9, fs))] s.heap.size q := fun q h => Or.inr h
  have hP : va_P G.1 pCl [(h0, .inr (9, fs))] s.heap := hP
  generalize va_A [(h0, .inr (9, fs))] s.heap.size = A at hD hE hA ⊢
  have hS : va_S A s.heap s.heap [] := va_S.rf
  have hl := lv_entry ([.ref h0]) (n := 1) (Nat.le_of_ble_eq_true rfl)
  rw [lg_entry_eq]
  generalize (lg_sl ([.ref h0]) ++ List.replicate (1 - (lg_sl ([.ref h0])).length) Slot.unset).toArray = ls at hl ⊢
  have hl : lv_has ls 1 [(0, .ref h0)] := hl
  refine lv_aload_n hx hb dX12_ends_0 rfl (lv_at hl 0 rfl) ?_
  refine va_get (D := G.1) (ci := 9) (v := .int 0) (C := RX12) (T := TX12) (N := 134) hx hb hq pin_wsX120 hown hE.1.1 hP 0 rfl rfl 70 (by decide) (by rw [tFX12_70]; exact hq _ pw_273) (fun _ h9 => h9) hf_70 dX12_ends_1 ?_
  refine lv_if_le (tgt := 23) hx hb dX12_ends_4 (by decide) (fun c1 => ?_) (fun c1 => absurd c1 (by decide))
  refine lv_aload_n hx hb dX12_ends_23 rfl (lv_at hl 0 rfl) ?_
  refine va_get (D := G.1) (ci := 9) (v := .int 0) (C := RX12) (T := TX12) (N := 134) hx hb hq pin_wsX120 hown hE.1.1 hP 0 rfl rfl 15 (by decide) (by rw [tFX12_15]; exact hq _ pw_275) (fun _ h9 => h9) hf_15 dX12_ends_24 ?_
  refine lv_if_le (tgt := 34) hx hb dX12_ends_27 (by decide) (fun c2 => ?_) (fun c2 => absurd c2 (by decide))
  refine lv_iconst (v := 0) hx hb dX12_ends_34 (by decide) ?_
  refine W.widen (k := 0) (n := 0) (Nat.le_of_ble_eq_true rfl) (Nat.le_of_ble_eq_true rfl) ?_
  exact W.zret (v := 0) hx hb hr rfl (fun t ht hW => ⟨⟨_, (), rfl, rfl, by rw [ht]; exact hP.sub [0] rfl, hD.sub [0] (by decide) rfl⟩, hS.F ht⟩) hS.2.2 dX12_ends_35
theorem dX12_ends_7 : decode cX12_ends 7 = .ok (.aload_n 0, 1) := by decide +kernel
theorem dX12_ends_8 : decode cX12_ends 8 = .ok (.aload_n 0, 1) := by decide +kernel
theorem dX12_ends_9 : decode cX12_ends 9 = .ok (.getfield 493, 3) := by decide +kernel
theorem dX12_ends_12 : decode cX12_ends 12 = .ok (.putfield 350, 3) := by decide +kernel
theorem dX12_ends_15 : decode cX12_ends 15 = .ok (.aload_n 0, 1) := by decide +kernel
theorem dX12_ends_16 : decode cX12_ends 16 = .ok (.aload_n 0, 1) := by decide +kernel
theorem dX12_ends_17 : decode cX12_ends 17 = .ok (.getfield 496, 3) := by decide +kernel
theorem dX12_ends_20 : decode cX12_ends 20 = .ok (.putfield 353, 3) := by decide +kernel
theorem dX12_ends_30 : decode cX12_ends 30 = .ok (.iconst 1, 1) := by decide +kernel
theorem dX12_ends_31 : decode cX12_ends 31 = .ok (.goto 4, 3) := by decide +kernel
set_option maxHeartbeats 4000000 in
set_option maxRecDepth 100000 in
/-- ends(): with 9 at 0 -/
theorem m_ends9 (l : Launch) (G : pT) (h0 : Nat) (a : Nat → Nat) (fs : List Value) (hn : fs.length = 134) (hf_70 : fs[70]? = some (.int 9)) (hf_69 : fs[69]? = some (.int 0)) (hf_15 : fs[15]? = some (.int 0)) : PM l G pX0 yX12_ends cX12_ends 1 (some .boolean) ({ frames := 2, cells := 0, slots := 0, locals := 60 }) [.ref h0] [(h0, .inr (9, fs))] (fun (v : Option Value) (u : List Value) => v = some (.int 1) ∧ u.length = 134 ∧ u[15]? = some (.int 9) ∧ u[16]? = some (.int 0) ∧ (∀ j : Nat, j ≠ 15 → j ≠ 16 → u[j]? = fs[j]?)) (fun u => [(h0, .inr (9, u))]) := by
  intro sz
  refine Met.ofW (cc := cX12_ends) (maxL := 1) (ret := (some .boolean)) (by decide) rfl ?_
  intro p e s m args below meth c s₁ B hml hv
  obtain ⟨rfl, hsz, hP, hD0, hE, hX⟩ := hv
  have hx := B.exec
  have hb := B.bytes
  have hr := B.returns
  have hts := atoms_spec (ws := Cond.code yX12_ends cX12_ends 1 (some .boolean) :: pw) B.pre
  have hq : ∀ w ∈ pw, w.before _ s = true := fun w h => hts w (List.mem_cons_of_mem _ h)
  have hown : s.vm.findClass RX12 = some m.cls := findClass_of_methodNamed B.named
  have hlocks := B.notSynchronized
  subst hsz
  have hD := hD0.self (sz := s.heap.size)
  have hA : ∀ q : Nat, s.heap.size ≤ q → va_A [(h0, .inr (9, fs))] s.heap.size q := fun q h => Or.inr h
  have hP : va_P G.1 pCl [(h0, .inr (9, fs))] s.heap := hP
  generalize va_A [(h0, .inr (9, fs))] s.heap.size = A at hD hE hA ⊢
  have hS : va_S A s.heap s.heap [] := va_S.rf
  have hl := lv_entry ([.ref h0]) (n := 1) (Nat.le_of_ble_eq_true rfl)
  rw [lg_entry_eq]
  generalize (lg_sl ([.ref h0]) ++ List.replicate (1 - (lg_sl ([.ref h0])).length) Slot.unset).toArray = ls at hl ⊢
  have hl : lv_has ls 1 [(0, .ref h0)] := hl
  refine lv_aload_n hx hb dX12_ends_0 rfl (lv_at hl 0 rfl) ?_
  refine va_get (D := G.1) (ci := 9) (v := .int 9) (C := RX12) (T := TX12) (N := 134) hx hb hq pin_wsX120 hown hE.1.1 hP 0 rfl rfl 70 (by decide) (by rw [tFX12_70]; exact hq _ pw_273) (fun _ h9 => h9) hf_70 dX12_ends_1 ?_
  refine lv_if_le (tgt := 23) hx hb dX12_ends_4 (by decide) (fun c1 => absurd c1 (by decide)) (fun c1 => ?_)
  refine lv_aload_n hx hb dX12_ends_7 rfl (lv_at hl 0 rfl) ?_
  refine lv_aload_n hx hb dX12_ends_8 rfl (lv_at hl 0 rfl) ?_
  refine va_get (D := G.1) (ci := 9) (v := .int 9) (C := RX12) (T := TX12) (N := 134) hx hb hq pin_wsX120 hown hE.1.1 hP 0 rfl rfl 70 (by decide) (by rw [tFX12_70]; exact hq _ pw_273) (fun _ h9 => h9) hf_70 dX12_ends_9 ?_
  refine va_put (D := G.1) (ci := 9) (v := .int 9) (ty := .int) (C := RX12) (T := TX12) (N := 134) hx hb hq pin_wsX120 tyX12 tyX12_ok nmX12 hown hE.1.1 hP hD hS 0 rfl rfl 15 (by decide) (by rw [tFX12_15]; exact hq _ pw_275) (fun _ h9 => h9) (by rw [tFX12_15]) (by rw [tFX12_15]; decide +kernel) rfl rfl (by rw [hn]; decide) dX12_ends_12 (fun H locs hP hD hS => ?_)
  obtain ⟨fs2, e3⟩ : ∃ z : List Value, z = fs.set 15 (.int 9) := ⟨_, rfl⟩
  have hn4 : fs2.length = 134 := by rw [e3, List.length_set]; exact hn
  have hP : va_P G.1 pCl [(h0, .inr (9, fs2))] H := by rw [e3]; exact hP
  have hD : va_D A [(h0, .inr (9, fs2))] := by rw [e3]; exact hD
  refine lv_aload_n hx hb dX12_ends_15 rfl (lv_at hl 0 rfl) ?_
  refine lv_aload_n hx hb dX12_ends_16 rfl (lv_at hl 0 rfl) ?_
  refine va_get (D := G.1) (ci := 9) (v := .int 0) (C := RX12) (T := TX12) (N := 134) hx hb hq pin_wsX120 hown hE.1.1 hP 0 rfl rfl 69 (by decide) (by rw [tFX12_69]; exact hq _ pw_274) (fun _ h9 => h9) (by rw [e3, List.getElem?_set_ne (by decide)]; exact hf_69) dX12_ends_17 ?_
  refine va_put (D := G.1) (ci := 9) (v := .int 0) (ty := .int) (C := RX12) (T := TX12) (N := 134) hx hb hq pin_wsX120 tyX12 tyX12_ok nmX12 hown hE.1.1 hP hD hS 0 rfl rfl 16 (by decide) (by rw [tFX12_16]; exact hq _ pw_276) (fun _ h9 => h9) (by rw [tFX12_16]) (by rw [tFX12_16]; decide +kernel) rfl rfl (by rw [hn4]; decide) dX12_ends_20 (fun H locs hP hD hS => ?_)
  obtain ⟨fs5, e6⟩ : ∃ z : List Value, z = fs2.set 16 (.int 0) := ⟨_, rfl⟩
  have hn7 : fs5.length = 134 := by rw [e6, List.length_set]; exact hn4
  have hP : va_P G.1 pCl [(h0, .inr (9, fs5))] H := by rw [e6]; exact hP
  have hD : va_D A [(h0, .inr (9, fs5))] := by rw [e6]; exact hD
  refine lv_aload_n hx hb dX12_ends_23 rfl (lv_at hl 0 rfl) ?_
  refine va_get (D := G.1) (ci := 9) (v := .int 9) (C := RX12) (T := TX12) (N := 134) hx hb hq pin_wsX120 hown hE.1.1 hP 0 rfl rfl 15 (by decide) (by rw [tFX12_15]; exact hq _ pw_275) (fun _ h9 => h9) (by rw [e6, List.getElem?_set_ne (by decide), e3]; exact List.getElem?_set_self (by rw [hn]; decide)) dX12_ends_24 ?_
  refine lv_if_le (tgt := 34) hx hb dX12_ends_27 (by decide) (fun c8 => absurd c8 (by decide)) (fun c8 => ?_)
  refine lv_iconst (v := 1) hx hb dX12_ends_30 (by decide) ?_
  refine lv_goto (tgt := 35) hx hb dX12_ends_31 (by decide) ?_
  refine W.widen (k := 0) (n := 0) (Nat.le_of_ble_eq_true rfl) (Nat.le_of_ble_eq_true rfl) ?_
  exact W.zret (v := 1) hx hb hr rfl (fun t ht hW => ⟨⟨_, fs5, rfl, ⟨rfl, hn7, (by rw [e6, List.getElem?_set_ne (by decide), e3]; exact List.getElem?_set_self (by rw [hn]; decide)), (by rw [e6]; exact List.getElem?_set_self (by rw [hn4]; decide)), (fun j h_15 h_16 => by rw [e6, List.getElem?_set_ne (Ne.symm h_16), e3, List.getElem?_set_ne (Ne.symm h_15)])⟩, by rw [ht]; exact hP.sub [0] rfl, hD.sub [0] (by decide) rfl⟩, hS.F ht⟩) hS.2.2 dX12_ends_35
theorem dX12_declOf_0 : decode cX12_declOf 0 = .ok (.iconst 0, 1) := by decide +kernel
theorem dX12_declOf_1 : decode cX12_declOf 1 = .ok (.istore_n 2, 1) := by decide +kernel
theorem dX12_declOf_2 : decode cX12_declOf 2 = .ok (.iload_n 2, 1) := by decide +kernel
theorem dX12_declOf_3 : decode cX12_declOf 3 = .ok (.aload_n 0, 1) := by decide +kernel
theorem dX12_declOf_4 : decode cX12_declOf 4 = .ok (.getfield 384, 3) := by decide +kernel
theorem dX12_declOf_7 : decode cX12_declOf 7 = .ok (.if_icmp .ge 21, 3) := by decide +kernel
theorem dX12_declOf_10 : decode cX12_declOf 10 = .ok (.aload_n 0, 1) := by decide +kernel
theorem dX12_declOf_11 : decode cX12_declOf 11 = .ok (.getfield 84, 3) := by decide +kernel
theorem dX12_declOf_14 : decode cX12_declOf 14 = .ok (.iload_n 2, 1) := by decide +kernel
theorem dX12_declOf_15 : decode cX12_declOf 15 = .ok (.iaload, 1) := by decide +kernel
theorem dX12_declOf_16 : decode cX12_declOf 16 = .ok (.iload_n 1, 1) := by decide +kernel
theorem dX12_declOf_17 : decode cX12_declOf 17 = .ok (.if_icmp .ne 5, 3) := by decide +kernel
theorem dX12_declOf_22 : decode cX12_declOf 22 = .ok (.iinc 2 1, 3) := by decide +kernel
theorem dX12_declOf_25 : decode cX12_declOf 25 = .ok (.goto (-23), 3) := by decide +kernel
theorem dX12_declOf_28 : decode cX12_declOf 28 = .ok (.iconst (-1), 1) := by decide +kernel
theorem dX12_declOf_29 : decode cX12_declOf 29 = .ok (.ireturn, 1) := by decide +kernel
set_option maxHeartbeats 4000000 in
set_option maxRecDepth 100000 in
/-- declOf(Main): NONE -/
theorem m_declOf (l : Launch) (G : pT) (h0 : Nat) (a : Nat → Nat) (fs : List Value) (f36 : Nat → Int32) (hn : fs.length = 134) (hf_35 : fs[35]? = some (.int 7)) (hf_36 : fs[36]? = some (.ref (a 24))) (h36 : ∀ j : Nat, j < 7 → f36 j = nI j) : PM l G pX0 yX12_declOf cX12_declOf 3 (some .int) ({ frames := 2, cells := 0, slots := 0, locals := 60 }) [.ref h0, .int 7] [(h0, .inr (9, fs)), ((a 24), .inl (G.2.1 0, 40, .inl f36))] (fun (v : Option Value) (u : Unit) => v = some (.int (-1))) (fun u => [(h0, .inr (9, fs))]) := by
  intro sz
  refine Met.ofW (cc := cX12_declOf) (maxL := 3) (ret := (some .int)) (by decide) rfl ?_
  intro p e s m args below meth c s₁ B hml hv
  obtain ⟨rfl, hsz, hP, hD0, hE, hX⟩ := hv
  have hx := B.exec
  have hb := B.bytes
  have hr := B.returns
  have hts := atoms_spec (ws := Cond.code yX12_declOf cX12_declOf 3 (some .int) :: pw) B.pre
  have hq : ∀ w ∈ pw, w.before _ s = true := fun w h => hts w (List.mem_cons_of_mem _ h)
  have hown : s.vm.findClass RX12 = some m.cls := findClass_of_methodNamed B.named
  have hlocks := B.notSynchronized
  subst hsz
  have hD := hD0.self (sz := s.heap.size)
  have hA : ∀ q : Nat, s.heap.size ≤ q → va_A [(h0, .inr (9, fs)), ((a 24), .inl (G.2.1 0, 40, .inl f36))] s.heap.size q := fun q h => Or.inr h
  have hP : va_P G.1 pCl [(h0, .inr (9, fs)), ((a 24), .inl (G.2.1 0, 40, .inl f36))] s.heap := hP
  generalize va_A [(h0, .inr (9, fs)), ((a 24), .inl (G.2.1 0, 40, .inl f36))] s.heap.size = A at hD hE hA ⊢
  have hS : va_S A s.heap s.heap [] := va_S.rf
  have hl := lv_entry ([.ref h0, .int 7]) (n := 3) (Nat.le_of_ble_eq_true rfl)
  rw [lg_entry_eq]
  generalize (lg_sl ([.ref h0, .int 7]) ++ List.replicate (3 - (lg_sl ([.ref h0, .int 7])).length) Slot.unset).toArray = ls at hl ⊢
  have hl : lv_has ls 3 [(0, .ref h0), (1, .int 7)] := hl
  refine lv_iconst (v := 0) hx hb dX12_declOf_0 (by decide) ?_
  refine lv_istore_n (lv' := [(2, .int 0), (0, .ref h0), (1, .int 7)]) hx hb dX12_declOf_1 rfl hl (by decide) rfl (fun ls hl => ?_)
  refine lv_iload_n hx hb dX12_declOf_2 rfl (lv_at hl 0 rfl) ?_
  refine lv_aload_n hx hb dX12_declOf_3 rfl (lv_at hl 1 rfl) ?_
  refine va_get (D := G.1) (ci := 9) (v := .int 7) (C := RX12) (T := TX12) (N := 134) hx hb hq pin_wsX120 hown hE.1.1 hP 0 rfl rfl 35 (by decide) (by rw [tFX12_35]; exact hq _ pw_277) (fun _ h9 => h9) hf_35 dX12_declOf_4 ?_
  refine lv_icmp_ge (tgt := 28) hx hb dX12_declOf_7 (by decide) (fun c1 => absurd c1 (by decide)) (fun c1 => ?_)
  refine lv_aload_n hx hb dX12_declOf_10 rfl (lv_at hl 1 rfl) ?_
  refine va_get (D := G.1) (ci := 9) (v := .ref (a 24)) (C := RX12) (T := TX12) (N := 134) hx hb hq pin_wsX120 hown hE.1.1 hP 0 rfl rfl 36 (by decide) (by rw [tFX12_36]; exact hq _ pw_202) (fun _ h9 => h9) hf_36 dX12_declOf_11 ?_
  refine lv_iload_n hx hb dX12_declOf_14 rfl (lv_at hl 0 rfl) ?_
  refine va_iald hx hb hE.1.1 hP 1 0 rfl rfl (by unfold vp_in; decide) dX12_declOf_15 ?_
  refine lv_topi (fun x2 e3 => ?_)
  obtain rfl : x2 = 0 := e3.trans (h36 0 (by decide))
  refine lv_iload_n hx hb dX12_declOf_16 rfl (lv_at hl 2 rfl) ?_
  refine lv_icmp_ne (tgt := 22) hx hb dX12_declOf_17 (by decide) (fun c4 => ?_) (fun c4 => absurd c4 (by decide))
  refine lv_iinc (v := 1) (lv' := [(2, .int 1), (0, .ref h0), (1, .int 7)]) hx hb dX12_declOf_22 hl (k := 0) rfl (by decide) (by decide) rfl (fun ls hl => ?_)
  refine lv_goto (tgt := 2) hx hb dX12_declOf_25 (by decide) ?_
  refine lv_iload_n hx hb dX12_declOf_2 rfl (lv_at hl 0 rfl) ?_
  refine lv_aload_n hx hb dX12_declOf_3 rfl (lv_at hl 1 rfl) ?_
  refine va_get (D := G.1) (ci := 9) (v := .int 7) (C := RX12) (T := TX12) (N := 134) hx hb hq pin_wsX120 hown hE.1.1 hP 0 rfl rfl 35 (by decide) (by rw [tFX12_35]; exact hq _ pw_277) (fun _ h9 => h9) hf_35 dX12_declOf_4 ?_
  refine lv_icmp_ge (tgt := 28) hx hb dX12_declOf_7 (by decide) (fun c5 => absurd c5 (by decide)) (fun c5 => ?_)
  refine lv_aload_n hx hb dX12_declOf_10 rfl (lv_at hl 1 rfl) ?_
  refine va_get (D := G.1) (ci := 9) (v := .ref (a 24)) (C := RX12) (T := TX12) (N := 134) hx hb hq pin_wsX120 hown hE.1.1 hP 0 rfl rfl 36 (by decide) (by rw [tFX12_36]; exact hq _ pw_202) (fun _ h9 => h9) hf_36 dX12_declOf_11 ?_
  refine lv_iload_n hx hb dX12_declOf_14 rfl (lv_at hl 0 rfl) ?_
  refine va_iald hx hb hE.1.1 hP 1 0 rfl rfl (by unfold vp_in; decide) dX12_declOf_15 ?_
  refine lv_topi (fun x6 e7 => ?_)
  obtain rfl : x6 = 1 := e7.trans (h36 1 (by decide))
  refine lv_iload_n hx hb dX12_declOf_16 rfl (lv_at hl 2 rfl) ?_
  refine lv_icmp_ne (tgt := 22) hx hb dX12_declOf_17 (by decide) (fun c8 => ?_) (fun c8 => absurd c8 (by decide))
  refine lv_iinc (v := 2) (lv' := [(2, .int 2), (0, .ref h0), (1, .int 7)]) hx hb dX12_declOf_22 hl (k := 0) rfl (by decide) (by decide) rfl (fun ls hl => ?_)
  refine lv_goto (tgt := 2) hx hb dX12_declOf_25 (by decide) ?_
  refine lv_iload_n hx hb dX12_declOf_2 rfl (lv_at hl 0 rfl) ?_
  refine lv_aload_n hx hb dX12_declOf_3 rfl (lv_at hl 1 rfl) ?_
  refine va_get (D := G.1) (ci := 9) (v := .int 7) (C := RX12) (T := TX12) (N := 134) hx hb hq pin_wsX120 hown hE.1.1 hP 0 rfl rfl 35 (by decide) (by rw [tFX12_35]; exact hq _ pw_277) (fun _ h9 => h9) hf_35 dX12_declOf_4 ?_
  refine lv_icmp_ge (tgt := 28) hx hb dX12_declOf_7 (by decide) (fun c9 => absurd c9 (by decide)) (fun c9 => ?_)
  refine lv_aload_n hx hb dX12_declOf_10 rfl (lv_at hl 1 rfl) ?_
  refine va_get (D := G.1) (ci := 9) (v := .ref (a 24)) (C := RX12) (T := TX12) (N := 134) hx hb hq pin_wsX120 hown hE.1.1 hP 0 rfl rfl 36 (by decide) (by rw [tFX12_36]; exact hq _ pw_202) (fun _ h9 => h9) hf_36 dX12_declOf_11 ?_
  refine lv_iload_n hx hb dX12_declOf_14 rfl (lv_at hl 0 rfl) ?_
  refine va_iald hx hb hE.1.1 hP 1 0 rfl rfl (by unfold vp_in; decide) dX12_declOf_15 ?_
  refine lv_topi (fun x10 e11 => ?_)
  obtain rfl : x10 = 2 := e11.trans (h36 2 (by decide))
  refine lv_iload_n hx hb dX12_declOf_16 rfl (lv_at hl 2 rfl) ?_
  refine lv_icmp_ne (tgt := 22) hx hb dX12_declOf_17 (by decide) (fun c12 => ?_) (fun c12 => absurd c12 (by decide))
  refine lv_iinc (v := 3) (lv' := [(2, .int 3), (0, .ref h0), (1, .int 7)]) hx hb dX12_declOf_22 hl (k := 0) rfl (by decide) (by decide) rfl (fun ls hl => ?_)
  refine lv_goto (tgt := 2) hx hb dX12_declOf_25 (by decide) ?_
  refine lv_iload_n hx hb dX12_declOf_2 rfl (lv_at hl 0 rfl) ?_
  refine lv_aload_n hx hb dX12_declOf_3 rfl (lv_at hl 1 rfl) ?_
  refine va_get (D := G.1) (ci := 9) (v := .int 7) (C := RX12) (T := TX12) (N := 134) hx hb hq pin_wsX120 hown hE.1.1 hP 0 rfl rfl 35 (by decide) (by rw [tFX12_35]; exact hq _ pw_277) (fun _ h9 => h9) hf_35 dX12_declOf_4 ?_
  refine lv_icmp_ge (tgt := 28) hx hb dX12_declOf_7 (by decide) (fun c13 => absurd c13 (by decide)) (fun c13 => ?_)
  refine lv_aload_n hx hb dX12_declOf_10 rfl (lv_at hl 1 rfl) ?_
  refine va_get (D := G.1) (ci := 9) (v := .ref (a 24)) (C := RX12) (T := TX12) (N := 134) hx hb hq pin_wsX120 hown hE.1.1 hP 0 rfl rfl 36 (by decide) (by rw [tFX12_36]; exact hq _ pw_202) (fun _ h9 => h9) hf_36 dX12_declOf_11 ?_
  refine lv_iload_n hx hb dX12_declOf_14 rfl (lv_at hl 0 rfl) ?_
  refine va_iald hx hb hE.1.1 hP 1 0 rfl rfl (by unfold vp_in; decide) dX12_declOf_15 ?_
  refine lv_topi (fun x14 e15 => ?_)
  obtain rfl : x14 = 3 := e15.trans (h36 3 (by decide))
  refine lv_iload_n hx hb dX12_declOf_16 rfl (lv_at hl 2 rfl) ?_
  refine lv_icmp_ne (tgt := 22) hx hb dX12_declOf_17 (by decide) (fun c16 => ?_) (fun c16 => absurd c16 (by decide))
  refine lv_iinc (v := 4) (lv' := [(2, .int 4), (0, .ref h0), (1, .int 7)]) hx hb dX12_declOf_22 hl (k := 0) rfl (by decide) (by decide) rfl (fun ls hl => ?_)
  refine lv_goto (tgt := 2) hx hb dX12_declOf_25 (by decide) ?_
  refine lv_iload_n hx hb dX12_declOf_2 rfl (lv_at hl 0 rfl) ?_
  refine lv_aload_n hx hb dX12_declOf_3 rfl (lv_at hl 1 rfl) ?_
  refine va_get (D := G.1) (ci := 9) (v := .int 7) (C := RX12) (T := TX12) (N := 134) hx hb hq pin_wsX120 hown hE.1.1 hP 0 rfl rfl 35 (by decide) (by rw [tFX12_35]; exact hq _ pw_277) (fun _ h9 => h9) hf_35 dX12_declOf_4 ?_
  refine lv_icmp_ge (tgt := 28) hx hb dX12_declOf_7 (by decide) (fun c17 => absurd c17 (by decide)) (fun c17 => ?_)
  refine lv_aload_n hx hb dX12_declOf_10 rfl (lv_at hl 1 rfl) ?_
  refine va_get (D := G.1) (ci := 9) (v := .ref (a 24)) (C := RX12) (T := TX12) (N := 134) hx hb hq pin_wsX120 hown hE.1.1 hP 0 rfl rfl 36 (by decide) (by rw [tFX12_36]; exact hq _ pw_202) (fun _ h9 => h9) hf_36 dX12_declOf_11 ?_
  refine lv_iload_n hx hb dX12_declOf_14 rfl (lv_at hl 0 rfl) ?_
  refine va_iald hx hb hE.1.1 hP 1 0 rfl rfl (by unfold vp_in; decide) dX12_declOf_15 ?_
  refine lv_topi (fun x18 e19 => ?_)
  obtain rfl : x18 = 4 := e19.trans (h36 4 (by decide))
  refine lv_iload_n hx hb dX12_declOf_16 rfl (lv_at hl 2 rfl) ?_
  refine lv_icmp_ne (tgt := 22) hx hb dX12_declOf_17 (by decide) (fun c20 => ?_) (fun c20 => absurd c20 (by decide))
  refine lv_iinc (v := 5) (lv' := [(2, .int 5), (0, .ref h0), (1, .int 7)]) hx hb dX12_declOf_22 hl (k := 0) rfl (by decide) (by decide) rfl (fun ls hl => ?_)
  refine lv_goto (tgt := 2) hx hb dX12_declOf_25 (by decide) ?_
  refine lv_iload_n hx hb dX12_declOf_2 rfl (lv_at hl 0 rfl) ?_
  refine lv_aload_n hx hb dX12_declOf_3 rfl (lv_at hl 1 rfl) ?_
  refine va_get (D := G.1) (ci := 9) (v := .int 7) (C := RX12) (T := TX12) (N := 134) hx hb hq pin_wsX120 hown hE.1.1 hP 0 rfl rfl 35 (by decide) (by rw [tFX12_35]; exact hq _ pw_277) (fun _ h9 => h9) hf_35 dX12_declOf_4 ?_
  refine lv_icmp_ge (tgt := 28) hx hb dX12_declOf_7 (by decide) (fun c21 => absurd c21 (by decide)) (fun c21 => ?_)
  refine lv_aload_n hx hb dX12_declOf_10 rfl (lv_at hl 1 rfl) ?_
  refine va_get (D := G.1) (ci := 9) (v := .ref (a 24)) (C := RX12) (T := TX12) (N := 134) hx hb hq pin_wsX120 hown hE.1.1 hP 0 rfl rfl 36 (by decide) (by rw [tFX12_36]; exact hq _ pw_202) (fun _ h9 => h9) hf_36 dX12_declOf_11 ?_
  refine lv_iload_n hx hb dX12_declOf_14 rfl (lv_at hl 0 rfl) ?_
  refine va_iald hx hb hE.1.1 hP 1 0 rfl rfl (by unfold vp_in; decide) dX12_declOf_15 ?_
  refine lv_topi (fun x22 e23 => ?_)
  obtain rfl : x22 = 5 := e23.trans (h36 5 (by decide))
  refine lv_iload_n hx hb dX12_declOf_16 rfl (lv_at hl 2 rfl) ?_
  refine lv_icmp_ne (tgt := 22) hx hb dX12_declOf_17 (by decide) (fun c24 => ?_) (fun c24 => absurd c24 (by decide))
  refine lv_iinc (v := 6) (lv' := [(2, .int 6), (0, .ref h0), (1, .int 7)]) hx hb dX12_declOf_22 hl (k := 0) rfl (by decide) (by decide) rfl (fun ls hl => ?_)
  refine lv_goto (tgt := 2) hx hb dX12_declOf_25 (by decide) ?_
  refine lv_iload_n hx hb dX12_declOf_2 rfl (lv_at hl 0 rfl) ?_
  refine lv_aload_n hx hb dX12_declOf_3 rfl (lv_at hl 1 rfl) ?_
  refine va_get (D := G.1) (ci := 9) (v := .int 7) (C := RX12) (T := TX12) (N := 134) hx hb hq pin_wsX120 hown hE.1.1 hP 0 rfl rfl 35 (by decide) (by rw [tFX12_35]; exact hq _ pw_277) (fun _ h9 => h9) hf_35 dX12_declOf_4 ?_
  refine lv_icmp_ge (tgt := 28) hx hb dX12_declOf_7 (by decide) (fun c25 => absurd c25 (by decide)) (fun c25 => ?_)
  refine lv_aload_n hx hb dX12_declOf_10 rfl (lv_at hl 1 rfl) ?_
  refine va_get (D := G.1) (ci := 9) (v := .ref (a 24)) (C := RX12) (T := TX12) (N := 134) hx hb hq pin_wsX120 hown hE.1.1 hP 0 rfl rfl 36 (by decide) (by rw [tFX12_36]; exact hq _ pw_202) (fun _ h9 => h9) hf_36 dX12_declOf_11 ?_
  refine lv_iload_n hx hb dX12_declOf_14 rfl (lv_at hl 0 rfl) ?_
  refine va_iald hx hb hE.1.1 hP 1 0 rfl rfl (by unfold vp_in; decide) dX12_declOf_15 ?_
  refine lv_topi (fun x26 e27 => ?_)
  obtain rfl : x26 = 6 := e27.trans (h36 6 (by decide))
  refine lv_iload_n hx hb dX12_declOf_16 rfl (lv_at hl 2 rfl) ?_
  refine lv_icmp_ne (tgt := 22) hx hb dX12_declOf_17 (by decide) (fun c28 => ?_) (fun c28 => absurd c28 (by decide))
  refine lv_iinc (v := 7) (lv' := [(2, .int 7), (0, .ref h0), (1, .int 7)]) hx hb dX12_declOf_22 hl (k := 0) rfl (by decide) (by decide) rfl (fun ls hl => ?_)
  refine lv_goto (tgt := 2) hx hb dX12_declOf_25 (by decide) ?_
  refine lv_iload_n hx hb dX12_declOf_2 rfl (lv_at hl 0 rfl) ?_
  refine lv_aload_n hx hb dX12_declOf_3 rfl (lv_at hl 1 rfl) ?_
  refine va_get (D := G.1) (ci := 9) (v := .int 7) (C := RX12) (T := TX12) (N := 134) hx hb hq pin_wsX120 hown hE.1.1 hP 0 rfl rfl 35 (by decide) (by rw [tFX12_35]; exact hq _ pw_277) (fun _ h9 => h9) hf_35 dX12_declOf_4 ?_
  refine lv_icmp_ge (tgt := 28) hx hb dX12_declOf_7 (by decide) (fun c29 => ?_) (fun c29 => absurd c29 (by decide))
  refine lv_iconst (v := (-1)) hx hb dX12_declOf_28 (by decide) ?_
  refine W.widen (k := 0) (n := 0) (Nat.le_of_ble_eq_true rfl) (Nat.le_of_ble_eq_true rfl) ?_
  exact W.iret (v := (-1)) hx hb hr (fun t ht hW => ⟨⟨_, (), rfl, rfl, by rw [ht]; exact hP.sub [0] rfl, hD.sub [0] (by decide) rfl⟩, hS.F ht⟩) hS.2.2 dX12_declOf_29
theorem dX12_note_0 : decode cX12_note 0 = .ok (.aload_n 0, 1) := by decide +kernel
theorem dX12_note_1 : decode cX12_note 1 = .ok (.getfield 19, 3) := by decide +kernel
theorem dX12_note_4 : decode cX12_note 4 = .ok (.iload_n 2, 1) := by decide +kernel
theorem dX12_note_5 : decode cX12_note 5 = .ok (.iaload, 1) := by decide +kernel
theorem dX12_note_6 : decode cX12_note 6 = .ok (.istore_n 3, 1) := by decide +kernel
theorem dX12_note_7 : decode cX12_note 7 = .ok (.aload_n 0, 1) := by decide +kernel
theorem dX12_note_8 : decode cX12_note 8 = .ok (.getfield 493, 3) := by decide +kernel
theorem dX12_note_11 : decode cX12_note 11 = .ok (.ifCond .eq 27, 3) := by decide +kernel
theorem dX12_note_38 : decode cX12_note 38 = .ok (.aload_n 0, 1) := by decide +kernel
theorem dX12_note_39 : decode cX12_note 39 = .ok (.iload_n 1, 1) := by decide +kernel
theorem dX12_note_40 : decode cX12_note 40 = .ok (.putfield 493, 3) := by decide +kernel
theorem dX12_note_43 : decode cX12_note 43 = .ok (.aload_n 0, 1) := by decide +kernel
theorem dX12_note_44 : decode cX12_note 44 = .ok (.iload_n 3, 1) := by decide +kernel
theorem dX12_note_45 : decode cX12_note 45 = .ok (.putfield 496, 3) := by decide +kernel
theorem dX12_note_48 : decode cX12_note 48 = .ok (.return_, 1) := by decide +kernel
set_option maxHeartbeats 4000000 in
set_option maxRecDepth 100000 in
/-- note(9, 0) -/
theorem m_note (l : Launch) (G : pT) (h0 : Nat) (a : Nat → Nat) (fs : List Value) (f6 : Nat → Int32) (hn : fs.length = 134) (hf_70 : fs[70]? = some (.int 0)) (hf_6 : fs[6]? = some (.ref (a 3))) (h6 : f6 0 = 0) : PM l G pX0 yX12_note cX12_note 4 none ({ frames := 2, cells := 0, slots := 0, locals := 60 }) [.ref h0, .int 9, .int 0] [(h0, .inr (9, fs)), ((a 3), .inl (G.2.1 0, 5001, .inl f6))] (fun (v : Option Value) (u : List Value) => v = none ∧ u.length = 134 ∧ u[70]? = some (.int 9) ∧ u[69]? = some (.int 0) ∧ (∀ j : Nat, j ≠ 70 → j ≠ 69 → u[j]? = fs[j]?)) (fun u => [(h0, .inr (9, u))]) := by
  intro sz
  refine Met.ofW (cc := cX12_note) (maxL := 4) (ret := none) (by decide) rfl ?_
  intro p e s m args below meth c s₁ B hml hv
  obtain ⟨rfl, hsz, hP, hD0, hE, hX⟩ := hv
  have hx := B.exec
  have hb := B.bytes
  have hr := B.returns
  have hts := atoms_spec (ws := Cond.code yX12_note cX12_note 4 none :: pw) B.pre
  have hq : ∀ w ∈ pw, w.before _ s = true := fun w h => hts w (List.mem_cons_of_mem _ h)
  have hown : s.vm.findClass RX12 = some m.cls := findClass_of_methodNamed B.named
  have hlocks := B.notSynchronized
  subst hsz
  have hD := hD0.self (sz := s.heap.size)
  have hA : ∀ q : Nat, s.heap.size ≤ q → va_A [(h0, .inr (9, fs)), ((a 3), .inl (G.2.1 0, 5001, .inl f6))] s.heap.size q := fun q h => Or.inr h
  have hP : va_P G.1 pCl [(h0, .inr (9, fs)), ((a 3), .inl (G.2.1 0, 5001, .inl f6))] s.heap := hP
  generalize va_A [(h0, .inr (9, fs)), ((a 3), .inl (G.2.1 0, 5001, .inl f6))] s.heap.size = A at hD hE hA ⊢
  have hS : va_S A s.heap s.heap [] := va_S.rf
  have hl := lv_entry ([.ref h0, .int 9, .int 0]) (n := 4) (Nat.le_of_ble_eq_true rfl)
  rw [lg_entry_eq]
  generalize (lg_sl ([.ref h0, .int 9, .int 0]) ++ List.replicate (4 - (lg_sl ([.ref h0, .int 9, .int 0])).length) Slot.unset).toArray = ls at hl ⊢
  have hl : lv_has ls 4 [(0, .ref h0), (1, .int 9), (2, .int 0)] := hl
  refine lv_aload_n hx hb dX12_note_0 rfl (lv_at hl 0 rfl) ?_
  refine va_get (D := G.1) (ci := 9) (v := .ref (a 3)) (C := RX12) (T := TX12) (N := 134) hx hb hq pin_wsX120 hown hE.1.1 hP 0 rfl rfl 6 (by decide) (by rw [tFX12_6]; exact hq _ pw_181) (fun _ h9 => h9) hf_6 dX12_note_1 ?_
  refine lv_iload_n hx hb dX12_note_4 rfl (lv_at hl 2 rfl) ?_
  refine va_iald hx hb hE.1.1 hP 1 0 rfl rfl (by unfold vp_in; decide) dX12_note_5 ?_
  refine lv_topi (fun x1 e2 => ?_)
  obtain rfl : x1 = 0 := e2.trans h6
  refine lv_istore_n (lv' := [(3, .int 0), (0, .ref h0), (1, .int 9), (2, .int 0)]) hx hb dX12_note_6 rfl hl (by decide) rfl (fun ls hl => ?_)
  refine lv_aload_n hx hb dX12_note_7 rfl (lv_at hl 1 rfl) ?_
  refine va_get (D := G.1) (ci := 9) (v := .int 0) (C := RX12) (T := TX12) (N := 134) hx hb hq pin_wsX120 hown hE.1.1 hP 0 rfl rfl 70 (by decide) (by rw [tFX12_70]; exact hq _ pw_273) (fun _ h9 => h9) hf_70 dX12_note_8 ?_
  refine lv_if_eq (tgt := 38) hx hb dX12_note_11 (by decide) (fun c3 => ?_) (fun c3 => absurd c3 (by decide))
  refine lv_aload_n hx hb dX12_note_38 rfl (lv_at hl 1 rfl) ?_
  refine lv_iload_n hx hb dX12_note_39 rfl (lv_at hl 2 rfl) ?_
  refine va_put (D := G.1) (ci := 9) (v := .int 9) (ty := .int) (C := RX12) (T := TX12) (N := 134) hx hb hq pin_wsX120 tyX12 tyX12_ok nmX12 hown hE.1.1 hP hD hS 0 rfl rfl 70 (by decide) (by rw [tFX12_70]; exact hq _ pw_273) (fun _ h9 => h9) (by rw [tFX12_70]) (by rw [tFX12_70]; decide +kernel) rfl rfl (by rw [hn]; decide) dX12_note_40 (fun H locs hP hD hS => ?_)
  obtain ⟨fs4, e5⟩ : ∃ z : List Value, z = fs.set 70 (.int 9) := ⟨_, rfl⟩
  have hn6 : fs4.length = 134 := by rw [e5, List.length_set]; exact hn
  have hP : va_P G.1 pCl [(h0, .inr (9, fs4)), ((a 3), .inl (G.2.1 0, 5001, .inl f6))] H := by rw [e5]; exact hP
  have hD : va_D A [(h0, .inr (9, fs4)), ((a 3), .inl (G.2.1 0, 5001, .inl f6))] := by rw [e5]; exact hD
  refine lv_aload_n hx hb dX12_note_43 rfl (lv_at hl 1 rfl) ?_
  refine lv_iload_n hx hb dX12_note_44 rfl (lv_at hl 0 rfl) ?_
  refine va_put (D := G.1) (ci := 9) (v := .int 0) (ty := .int) (C := RX12) (T := TX12) (N := 134) hx hb hq pin_wsX120 tyX12 tyX12_ok nmX12 hown hE.1.1 hP hD hS 0 rfl rfl 69 (by decide) (by rw [tFX12_69]; exact hq _ pw_274) (fun _ h9 => h9) (by rw [tFX12_69]) (by rw [tFX12_69]; decide +kernel) rfl rfl (by rw [hn6]; decide) dX12_note_45 (fun H locs hP hD hS => ?_)
  obtain ⟨fs7, e8⟩ : ∃ z : List Value, z = fs4.set 69 (.int 0) := ⟨_, rfl⟩
  have hn9 : fs7.length = 134 := by rw [e8, List.length_set]; exact hn6
  have hP : va_P G.1 pCl [(h0, .inr (9, fs7)), ((a 3), .inl (G.2.1 0, 5001, .inl f6))] H := by rw [e8]; exact hP
  have hD : va_D A [(h0, .inr (9, fs7)), ((a 3), .inl (G.2.1 0, 5001, .inl f6))] := by rw [e8]; exact hD
  refine W.widen (k := 0) (n := 0) (Nat.le_of_ble_eq_true rfl) (Nat.le_of_ble_eq_true rfl) ?_
  exact W.vret hx hb hr (fun t ht hW => ⟨⟨_, fs7, rfl, ⟨rfl, hn9, (by rw [e8, List.getElem?_set_ne (by decide), e5]; exact List.getElem?_set_self (by rw [hn]; decide)), (by rw [e8]; exact List.getElem?_set_self (by rw [hn6]; decide)), (fun j h_70 h_69 => by rw [e8, List.getElem?_set_ne (Ne.symm h_69), e5, List.getElem?_set_ne (Ne.symm h_70)])⟩, by rw [ht]; exact hP.sub [0] rfl, hD.sub [0] (by decide) rfl⟩, hS.F ht⟩) hS.2.2 dX12_note_48
theorem dX12_thirdRound_0 : decode cX12_thirdRound 0 = .ok (.iconst 0, 1) := by decide +kernel
theorem dX12_thirdRound_1 : decode cX12_thirdRound 1 = .ok (.istore_n 1, 1) := by decide +kernel
theorem dX12_thirdRound_2 : decode cX12_thirdRound 2 = .ok (.iload_n 1, 1) := by decide +kernel
theorem dX12_thirdRound_3 : decode cX12_thirdRound 3 = .ok (.aload_n 0, 1) := by decide +kernel
theorem dX12_thirdRound_4 : decode cX12_thirdRound 4 = .ok (.getfield 413, 3) := by decide +kernel
theorem dX12_thirdRound_7 : decode cX12_thirdRound 7 = .ok (.if_icmp .ge 70, 3) := by decide +kernel
theorem dX12_thirdRound_77 : decode cX12_thirdRound 77 = .ok (.iconst 0, 1) := by decide +kernel
theorem dX12_thirdRound_78 : decode cX12_thirdRound 78 = .ok (.istore_n 1, 1) := by decide +kernel
theorem dX12_thirdRound_79 : decode cX12_thirdRound 79 = .ok (.iload_n 1, 1) := by decide +kernel
theorem dX12_thirdRound_80 : decode cX12_thirdRound 80 = .ok (.aload_n 0, 1) := by decide +kernel
theorem dX12_thirdRound_81 : decode cX12_thirdRound 81 = .ok (.getfield 416, 3) := by decide +kernel
theorem dX12_thirdRound_84 : decode cX12_thirdRound 84 = .ok (.if_icmp .ge 80, 3) := by decide +kernel
theorem dX12_thirdRound_164 : decode cX12_thirdRound 164 = .ok (.bipush 7, 2) := by decide +kernel
theorem dX12_thirdRound_166 : decode cX12_thirdRound 166 = .ok (.istore_n 1, 1) := by decide +kernel
theorem dX12_thirdRound_167 : decode cX12_thirdRound 167 = .ok (.iload_n 1, 1) := by decide +kernel
theorem dX12_thirdRound_168 : decode cX12_thirdRound 168 = .ok (.aload_n 0, 1) := by decide +kernel
theorem dX12_thirdRound_169 : decode cX12_thirdRound 169 = .ok (.getfield 384, 3) := by decide +kernel
theorem dX12_thirdRound_172 : decode cX12_thirdRound 172 = .ok (.if_icmp .ge 224, 3) := by decide +kernel
theorem dX12_thirdRound_396 : decode cX12_thirdRound 396 = .ok (.aload_n 0, 1) := by decide +kernel
theorem dX12_thirdRound_397 : decode cX12_thirdRound 397 = .ok (.bipush 7, 2) := by decide +kernel
theorem dX12_thirdRound_399 : decode cX12_thirdRound 399 = .ok (.invokevirtual 499, 3) := by decide +kernel
theorem dX12_thirdRound_402 : decode cX12_thirdRound 402 = .ok (.istore_n 1, 1) := by decide +kernel
theorem dX12_thirdRound_403 : decode cX12_thirdRound 403 = .ok (.iload_n 1, 1) := by decide +kernel
theorem dX12_thirdRound_404 : decode cX12_thirdRound 404 = .ok (.iconst (-1), 1) := by decide +kernel
theorem dX12_thirdRound_405 : decode cX12_thirdRound 405 = .ok (.if_icmp .eq 12, 3) := by decide +kernel
theorem dX12_thirdRound_417 : decode cX12_thirdRound 417 = .ok (.iconst (-1), 1) := by decide +kernel
theorem dX12_thirdRound_418 : decode cX12_thirdRound 418 = .ok (.goto 10, 3) := by decide +kernel
theorem dX12_thirdRound_428 : decode cX12_thirdRound 428 = .ok (.istore_n 2, 1) := by decide +kernel
theorem dX12_thirdRound_429 : decode cX12_thirdRound 429 = .ok (.iload_n 2, 1) := by decide +kernel
theorem dX12_thirdRound_430 : decode cX12_thirdRound 430 = .ok (.iconst (-1), 1) := by decide +kernel
theorem dX12_thirdRound_431 : decode cX12_thirdRound 431 = .ok (.if_icmp .eq 21, 3) := by decide +kernel
theorem dX12_thirdRound_452 : decode cX12_thirdRound 452 = .ok (.aload_n 0, 1) := by decide +kernel
theorem dX12_thirdRound_453 : decode cX12_thirdRound 453 = .ok (.bipush 9, 2) := by decide +kernel
theorem dX12_thirdRound_455 : decode cX12_thirdRound 455 = .ok (.aload_n 0, 1) := by decide +kernel
theorem dX12_thirdRound_456 : decode cX12_thirdRound 456 = .ok (.getfield 314, 3) := by decide +kernel
theorem dX12_thirdRound_459 : decode cX12_thirdRound 459 = .ok (.invokevirtual 502, 3) := by decide +kernel
theorem dX12_thirdRound_462 : decode cX12_thirdRound 462 = .ok (.return_, 1) := by decide +kernel
theorem hV_X12_declOf : yX12_declOf.cls = RX12 ∧ yX12_declOf.cls ≠ "java/lang/invoke/MethodHandle" ∧ yX12_declOf.cls ≠ "java/lang/invoke/VarHandle" ∧ (parseMethodDescriptor yX12_declOf.desc).map (fun d => d.parameters.length) = some 1 := by decide +kernel
theorem hV_X12_note : yX12_note.cls = RX12 ∧ yX12_note.cls ≠ "java/lang/invoke/MethodHandle" ∧ yX12_note.cls ≠ "java/lang/invoke/VarHandle" ∧ (parseMethodDescriptor yX12_note.desc).map (fun d => d.parameters.length) = some 2 := by decide +kernel
set_option maxHeartbeats 4000000 in
set_option maxRecDepth 100000 in
/-- thirdRound: 9 at 0 -/
theorem m_thirdRound (l : Launch) (G : pT) (h0 : Nat) (a : Nat → Nat) (fs : List Value) (f36 : Nat → Int32) (f6 : Nat → Int32) (hn : fs.length = 134) (hf_35 : fs[35]? = some (.int 7)) (hf_44 : fs[44]? = some (.int 0)) (hf_49 : fs[49]? = some (.int 0)) (hf_9 : fs[9]? = some (.int 0)) (hf_70 : fs[70]? = some (.int 0)) (hf_36 : fs[36]? = some (.ref (a 24))) (hf_6 : fs[6]? = some (.ref (a 3))) (h36 : ∀ j : Nat, j < 7 → f36 j = nI j) (h6 : f6 0 = 0) : PM l G pX0 yX12_thirdRound cX12_thirdRound 5 none ({ frames := 3, cells := 0, slots := 0, locals := 83 }) [.ref h0] [(h0, .inr (9, fs)), ((a 24), .inl (G.2.1 0, 40, .inl f36)), ((a 3), .inl (G.2.1 0, 5001, .inl f6))] (fun (v : Option Value) (u : List Value) => v = none ∧ u.length = 134 ∧ u[70]? = some (.int 9) ∧ u[69]? = some (.int 0) ∧ (∀ j : Nat, j ≠ 70 → j ≠ 69 → u[j]? = fs[j]?)) (fun u => [(h0, .inr (9, u))]) := by
  intro sz
  refine Met.ofW (cc := cX12_thirdRound) (maxL := 5) (ret := none) (by decide) rfl ?_
  intro p e s m args below meth c s₁ B hml hv
  obtain ⟨rfl, hsz, hP, hD0, hE, hX⟩ := hv
  have hx := B.exec
  have hb := B.bytes
  have hr := B.returns
  have hts := atoms_spec (ws := Cond.code yX12_thirdRound cX12_thirdRound 5 none :: pw) B.pre
  have hq : ∀ w ∈ pw, w.before _ s = true := fun w h => hts w (List.mem_cons_of_mem _ h)
  have hown : s.vm.findClass RX12 = some m.cls := findClass_of_methodNamed B.named
  have hlocks := B.notSynchronized
  subst hsz
  have hD := hD0.self (sz := s.heap.size)
  have hA : ∀ q : Nat, s.heap.size ≤ q → va_A [(h0, .inr (9, fs)), ((a 24), .inl (G.2.1 0, 40, .inl f36)), ((a 3), .inl (G.2.1 0, 5001, .inl f6))] s.heap.size q := fun q h => Or.inr h
  have hP : va_P G.1 pCl [(h0, .inr (9, fs)), ((a 24), .inl (G.2.1 0, 40, .inl f36)), ((a 3), .inl (G.2.1 0, 5001, .inl f6))] s.heap := hP
  generalize va_A [(h0, .inr (9, fs)), ((a 24), .inl (G.2.1 0, 40, .inl f36)), ((a 3), .inl (G.2.1 0, 5001, .inl f6))] s.heap.size = A at hD hE hA ⊢
  have hS : va_S A s.heap s.heap [] := va_S.rf
  have hl := lv_entry ([.ref h0]) (n := 5) (Nat.le_of_ble_eq_true rfl)
  rw [lg_entry_eq]
  generalize (lg_sl ([.ref h0]) ++ List.replicate (5 - (lg_sl ([.ref h0])).length) Slot.unset).toArray = ls at hl ⊢
  have hl : lv_has ls 5 [(0, .ref h0)] := hl
  refine lv_iconst (v := 0) hx hb dX12_thirdRound_0 (by decide) ?_
  refine lv_istore_n (lv' := [(1, .int 0), (0, .ref h0)]) hx hb dX12_thirdRound_1 rfl hl (by decide) rfl (fun ls hl => ?_)
  refine lv_iload_n hx hb dX12_thirdRound_2 rfl (lv_at hl 0 rfl) ?_
  refine lv_aload_n hx hb dX12_thirdRound_3 rfl (lv_at hl 1 rfl) ?_
  refine va_get (D := G.1) (ci := 9) (v := .int 0) (C := RX12) (T := TX12) (N := 134) hx hb hq pin_wsX120 hown hE.1.1 hP 0 rfl rfl 44 (by decide) (by rw [tFX12_44]; exact hq _ pw_280) (fun _ h9 => h9) hf_44 dX12_thirdRound_4 ?_
  refine lv_icmp_ge (tgt := 77) hx hb dX12_thirdRound_7 (by decide) (fun c1 => ?_) (fun c1 => absurd c1 (by decide))
  refine lv_iconst (v := 0) hx hb dX12_thirdRound_77 (by decide) ?_
  refine lv_istore_n (lv' := [(1, .int 0), (0, .ref h0)]) hx hb dX12_thirdRound_78 rfl hl (by decide) rfl (fun ls hl => ?_)
  refine lv_iload_n hx hb dX12_thirdRound_79 rfl (lv_at hl 0 rfl) ?_
  refine lv_aload_n hx hb dX12_thirdRound_80 rfl (lv_at hl 1 rfl) ?_
  refine va_get (D := G.1) (ci := 9) (v := .int 0) (C := RX12) (T := TX12) (N := 134) hx hb hq pin_wsX120 hown hE.1.1 hP 0 rfl rfl 49 (by decide) (by rw [tFX12_49]; exact hq _ pw_281) (fun _ h9 => h9) hf_49 dX12_thirdRound_81 ?_
  refine lv_icmp_ge (tgt := 164) hx hb dX12_thirdRound_84 (by decide) (fun c2 => ?_) (fun c2 => absurd c2 (by decide))
  refine lv_bipush (v := 7) hx hb dX12_thirdRound_164 (by decide) ?_
  refine lv_istore_n (lv' := [(1, .int 7), (0, .ref h0)]) hx hb dX12_thirdRound_166 rfl hl (by decide) rfl (fun ls hl => ?_)
  refine lv_iload_n hx hb dX12_thirdRound_167 rfl (lv_at hl 0 rfl) ?_
  refine lv_aload_n hx hb dX12_thirdRound_168 rfl (lv_at hl 1 rfl) ?_
  refine va_get (D := G.1) (ci := 9) (v := .int 7) (C := RX12) (T := TX12) (N := 134) hx hb hq pin_wsX120 hown hE.1.1 hP 0 rfl rfl 35 (by decide) (by rw [tFX12_35]; exact hq _ pw_277) (fun _ h9 => h9) hf_35 dX12_thirdRound_169 ?_
  refine lv_icmp_ge (tgt := 396) hx hb dX12_thirdRound_172 (by decide) (fun c3 => ?_) (fun c3 => absurd c3 (by decide))
  refine lv_aload_n hx hb dX12_thirdRound_396 rfl (lv_at hl 1 rfl) ?_
  refine lv_bipush (v := 7) hx hb dX12_thirdRound_397 (by decide) ?_
  refine pc_V (G := G) (As := [.int 7]) (rest := []) (wr := [((a 3), .inl (G.2.1 0, 5001, .inl f6))]) hx hb hml hown hq hE hX pX0_al hP hD hS hA hl.1 (m_declOf l G h0 a fs f36 hn hf_35 hf_36 h36) (gV pw_278 pw_548 pw_549 pw_517 pw_547) hV_X12_declOf 0 9 rfl rfl rfl [0, 1] [2] rfl rfl (by decide) (by decide) (by decide) rfl (Nat.le_of_ble_eq_true rfl) dX12_thirdRound_399 ⟨Nat.le_of_ble_eq_true rfl, Nat.le_of_ble_eq_true rfl⟩ ⟨Nat.le_of_ble_eq_true rfl, Nat.le_of_ble_eq_true rfl⟩ (fun v6 u4 H locs hw5 hP hD hS => ?_)
  obtain rfl : v6 = some (.int (-1)) := hw5
  have hP : va_P G.1 pCl [((a 3), .inl (G.2.1 0, 5001, .inl f6)), (h0, .inr (9, fs))] H := hP
  have hD : va_D A [((a 3), .inl (G.2.1 0, 5001, .inl f6)), (h0, .inr (9, fs))] := hD
  have hP : va_P G.1 pCl [((a 3), .inl (G.2.1 0, 5001, .inl f6)), (h0, .inr (9, fs))] H := hP
  have hD : va_D A [((a 3), .inl (G.2.1 0, 5001, .inl f6)), (h0, .inr (9, fs))] := hD
  refine W.widen (k := 0) (n := 0) (Nat.le_of_ble_eq_true rfl) (Nat.le_of_ble_eq_true rfl) ?_
  refine W.eq (g2 := F0 m 402 ls [.int (-1)]) rfl ?_
  refine lv_istore_n (lv' := [(1, .int (-1)), (0, .ref h0)]) hx hb dX12_thirdRound_402 rfl hl (by decide) rfl (fun ls hl => ?_)
  refine lv_iload_n hx hb dX12_thirdRound_403 rfl (lv_at hl 0 rfl) ?_
  refine lv_iconst (v := (-1)) hx hb dX12_thirdRound_404 (by decide) ?_
  refine lv_icmp_eq (tgt := 417) hx hb dX12_thirdRound_405 (by decide) (fun c7 => ?_) (fun c7 => absurd c7 (by decide))
  refine lv_iconst (v := (-1)) hx hb dX12_thirdRound_417 (by decide) ?_
  refine lv_goto (tgt := 428) hx hb dX12_thirdRound_418 (by decide) ?_
  refine lv_istore_n (lv' := [(2, .int (-1)), (1, .int (-1)), (0, .ref h0)]) hx hb dX12_thirdRound_428 rfl hl (by decide) rfl (fun ls hl => ?_)
  refine lv_iload_n hx hb dX12_thirdRound_429 rfl (lv_at hl 0 rfl) ?_
  refine lv_iconst (v := (-1)) hx hb dX12_thirdRound_430 (by decide) ?_
  refine lv_icmp_eq (tgt := 452) hx hb dX12_thirdRound_431 (by decide) (fun c8 => ?_) (fun c8 => absurd c8 (by decide))
  refine lv_aload_n hx hb dX12_thirdRound_452 rfl (lv_at hl 2 rfl) ?_
  refine lv_bipush (v := 9) hx hb dX12_thirdRound_453 (by decide) ?_
  refine lv_aload_n hx hb dX12_thirdRound_455 rfl (lv_at hl 2 rfl) ?_
  refine va_get (D := G.1) (ci := 9) (v := .int 0) (C := RX12) (T := TX12) (N := 134) hx hb hq pin_wsX120 hown hE.1.1 hP 1 rfl rfl 9 (by decide) (by rw [tFX12_9]; exact hq _ pw_267) (fun _ h9 => h9) hf_9 dX12_thirdRound_456 ?_
  refine pc_V (G := G) (As := [.int 9, .int 0]) (rest := []) (wr := []) hx hb hml hown hq hE hX pX0_al hP hD hS hA hl.1 (m_note l G h0 a fs f6 hn hf_70 hf_6 h6) (gV pw_279 pw_542 pw_543 pw_517 pw_541) hV_X12_note 1 9 rfl rfl rfl [1, 0] [] rfl rfl (by decide) (by decide) (by decide) rfl (Nat.le_of_ble_eq_true rfl) dX12_thirdRound_459 ⟨Nat.le_of_ble_eq_true rfl, Nat.le_of_ble_eq_true rfl⟩ ⟨Nat.le_of_ble_eq_true rfl, Nat.le_of_ble_eq_true rfl⟩ (fun v11 u9 H locs hw10 hP hD hS => ?_)
  obtain rfl : v11 = none := hw10.1
  have hP : va_P G.1 pCl [(h0, .inr (9, u9))] H := hP
  have hD : va_D A [(h0, .inr (9, u9))] := hD
  obtain ⟨-, hn13, hk15, hk16, hfr14⟩ := hw10
  have hn13 : u9.length = 134 := hn13
  have hk15 : u9[70]? = some (.int 9) := hk15
  have hk16 : u9[69]? = some (.int 0) := hk16
  have hfr14 : ∀ j : Nat, j ≠ 70 → j ≠ 69 → u9[j]? = fs[j]? := hfr14
  have hP : va_P G.1 pCl [(h0, .inr (9, u9))] H := hP
  have hD : va_D A [(h0, .inr (9, u9))] := hD
  refine W.widen (k := 0) (n := 0) (Nat.le_of_ble_eq_true rfl) (Nat.le_of_ble_eq_true rfl) ?_
  refine W.eq (g2 := F0 m 462 ls []) rfl ?_
  refine W.widen (k := 0) (n := 0) (Nat.le_of_ble_eq_true rfl) (Nat.le_of_ble_eq_true rfl) ?_
  exact W.vret hx hb hr (fun t ht hW => ⟨⟨_, u9, rfl, ⟨rfl, hn13, hk15, hk16, (fun j h_70 h_69 => by rw [hfr14 j h_70 h_69])⟩, by rw [ht]; exact hP.sub [0] rfl, hD.sub [0] (by decide) rfl⟩, hS.F ht⟩) hS.2.2 dX12_thirdRound_462
theorem dX12_findAbove_0 : decode cX12_findAbove 0 = .ok (.iconst 0, 1) := by decide +kernel
theorem dX12_findAbove_1 : decode cX12_findAbove 1 = .ok (.istore_n 1, 1) := by decide +kernel
theorem dX12_findAbove_2 : decode cX12_findAbove 2 = .ok (.iload_n 1, 1) := by decide +kernel
theorem dX12_findAbove_3 : decode cX12_findAbove 3 = .ok (.sipush 1600, 3) := by decide +kernel
theorem dX12_findAbove_6 : decode cX12_findAbove 6 = .ok (.if_icmp .ge 16, 3) := by decide +kernel
theorem dX12_findAbove_22 : decode cX12_findAbove 22 = .ok (.iconst 1, 1) := by decide +kernel
theorem dX12_findAbove_23 : decode cX12_findAbove 23 = .ok (.istore_n 1, 1) := by decide +kernel
theorem dX12_findAbove_24 : decode cX12_findAbove 24 = .ok (.iload_n 1, 1) := by decide +kernel
theorem dX12_findAbove_25 : decode cX12_findAbove 25 = .ok (.aload_n 0, 1) := by decide +kernel
theorem dX12_findAbove_26 : decode cX12_findAbove 26 = .ok (.getfield 384, 3) := by decide +kernel
theorem dX12_findAbove_29 : decode cX12_findAbove 29 = .ok (.if_icmp .ge 141, 3) := by decide +kernel
theorem dX12_findAbove_32 : decode cX12_findAbove 32 = .ok (.aload_n 0, 1) := by decide +kernel
theorem dX12_findAbove_33 : decode cX12_findAbove 33 = .ok (.getfield 105, 3) := by decide +kernel
theorem dX12_findAbove_36 : decode cX12_findAbove 36 = .ok (.iload_n 1, 1) := by decide +kernel
theorem dX12_findAbove_37 : decode cX12_findAbove 37 = .ok (.iconst 1, 1) := by decide +kernel
theorem dX12_findAbove_38 : decode cX12_findAbove 38 = .ok (.bastore, 1) := by decide +kernel
theorem dX12_findAbove_39 : decode cX12_findAbove 39 = .ok (.aload_n 0, 1) := by decide +kernel
theorem dX12_findAbove_40 : decode cX12_findAbove 40 = .ok (.getfield 99, 3) := by decide +kernel
theorem dX12_findAbove_43 : decode cX12_findAbove 43 = .ok (.iload_n 1, 1) := by decide +kernel
theorem dX12_findAbove_44 : decode cX12_findAbove 44 = .ok (.iconst 0, 1) := by decide +kernel
theorem dX12_findAbove_45 : decode cX12_findAbove 45 = .ok (.iastore, 1) := by decide +kernel
theorem dX12_findAbove_46 : decode cX12_findAbove 46 = .ok (.aload_n 0, 1) := by decide +kernel
theorem dX12_findAbove_47 : decode cX12_findAbove 47 = .ok (.getfield 93, 3) := by decide +kernel
theorem dX12_findAbove_50 : decode cX12_findAbove 50 = .ok (.iload_n 1, 1) := by decide +kernel
theorem dX12_findAbove_51 : decode cX12_findAbove 51 = .ok (.iaload, 1) := by decide +kernel
theorem dX12_findAbove_52 : decode cX12_findAbove 52 = .ok (.istore_n 2, 1) := by decide +kernel
theorem dX12_findAbove_53 : decode cX12_findAbove 53 = .ok (.iload_n 2, 1) := by decide +kernel
theorem dX12_findAbove_54 : decode cX12_findAbove 54 = .ok (.iconst (-1), 1) := by decide +kernel
theorem dX12_findAbove_55 : decode cX12_findAbove 55 = .ok (.if_icmp .eq 61, 3) := by decide +kernel
theorem dX12_findAbove_116 : decode cX12_findAbove 116 = .ok (.aload_n 0, 1) := by decide +kernel
theorem dX12_findAbove_117 : decode cX12_findAbove 117 = .ok (.getfield 96, 3) := by decide +kernel
theorem dX12_findAbove_120 : decode cX12_findAbove 120 = .ok (.iload_n 1, 1) := by decide +kernel
theorem dX12_findAbove_121 : decode cX12_findAbove 121 = .ok (.iaload, 1) := by decide +kernel
theorem dX12_findAbove_122 : decode cX12_findAbove 122 = .ok (.istore_n 2, 1) := by decide +kernel
theorem dX12_findAbove_123 : decode cX12_findAbove 123 = .ok (.iload_n 2, 1) := by decide +kernel
theorem dX12_findAbove_124 : decode cX12_findAbove 124 = .ok (.iconst (-1), 1) := by decide +kernel
theorem dX12_findAbove_125 : decode cX12_findAbove 125 = .ok (.if_icmp .eq 39, 3) := by decide +kernel
theorem dX12_findAbove_164 : decode cX12_findAbove 164 = .ok (.iinc 1 1, 3) := by decide +kernel
theorem dX12_findAbove_167 : decode cX12_findAbove 167 = .ok (.goto (-143), 3) := by decide +kernel
theorem dX12_findAbove_170 : decode cX12_findAbove 170 = .ok (.iconst 0, 1) := by decide +kernel
theorem dX12_findAbove_171 : decode cX12_findAbove 171 = .ok (.istore_n 1, 1) := by decide +kernel
theorem dX12_findAbove_172 : decode cX12_findAbove 172 = .ok (.iload_n 1, 1) := by decide +kernel
theorem dX12_findAbove_173 : decode cX12_findAbove 173 = .ok (.aload_n 0, 1) := by decide +kernel
theorem dX12_findAbove_174 : decode cX12_findAbove 174 = .ok (.getfield 384, 3) := by decide +kernel
theorem dX12_findAbove_177 : decode cX12_findAbove 177 = .ok (.if_icmp .ge 81, 3) := by decide +kernel
theorem dX12_findAbove_258 : decode cX12_findAbove 258 = .ok (.return_, 1) := by decide +kernel
theorem dX12_findAbove_180 : decode cX12_findAbove 180 = .ok (.iconst 0, 1) := by decide +kernel
theorem dX12_findAbove_181 : decode cX12_findAbove 181 = .ok (.istore_n 2, 1) := by decide +kernel
theorem dX12_findAbove_182 : decode cX12_findAbove 182 = .ok (.iload_n 2, 1) := by decide +kernel
theorem dX12_findAbove_183 : decode cX12_findAbove 183 = .ok (.aload_n 0, 1) := by decide +kernel
theorem dX12_findAbove_184 : decode cX12_findAbove 184 = .ok (.getfield 384, 3) := by decide +kernel
theorem dX12_findAbove_187 : decode cX12_findAbove 187 = .ok (.if_icmp .ge 65, 3) := by decide +kernel
theorem dX12_findAbove_252 : decode cX12_findAbove 252 = .ok (.iinc 1 1, 3) := by decide +kernel
theorem dX12_findAbove_255 : decode cX12_findAbove 255 = .ok (.goto (-83), 3) := by decide +kernel
theorem dX12_findAbove_190 : decode cX12_findAbove 190 = .ok (.iconst 0, 1) := by decide +kernel
theorem dX12_findAbove_191 : decode cX12_findAbove 191 = .ok (.istore_n 3, 1) := by decide +kernel
theorem dX12_findAbove_192 : decode cX12_findAbove 192 = .ok (.iload_n 3, 1) := by decide +kernel
theorem dX12_findAbove_193 : decode cX12_findAbove 193 = .ok (.aload_n 0, 1) := by decide +kernel
theorem dX12_findAbove_194 : decode cX12_findAbove 194 = .ok (.getfield 384, 3) := by decide +kernel
theorem dX12_findAbove_197 : decode cX12_findAbove 197 = .ok (.if_icmp .ge 49, 3) := by decide +kernel
theorem dX12_findAbove_246 : decode cX12_findAbove 246 = .ok (.iinc 2 1, 3) := by decide +kernel
theorem dX12_findAbove_249 : decode cX12_findAbove 249 = .ok (.goto (-67), 3) := by decide +kernel
theorem dX12_findAbove_200 : decode cX12_findAbove 200 = .ok (.aload_n 0, 1) := by decide +kernel
theorem dX12_findAbove_201 : decode cX12_findAbove 201 = .ok (.getfield 105, 3) := by decide +kernel
theorem dX12_findAbove_204 : decode cX12_findAbove 204 = .ok (.bipush 40, 2) := by decide +kernel
theorem dX12_findAbove_206 : decode cX12_findAbove 206 = .ok (.iload_n 2, 1) := by decide +kernel
theorem dX12_findAbove_207 : decode cX12_findAbove 207 = .ok (.imul, 1) := by decide +kernel
theorem dX12_findAbove_208 : decode cX12_findAbove 208 = .ok (.iload_n 1, 1) := by decide +kernel
theorem dX12_findAbove_209 : decode cX12_findAbove 209 = .ok (.iadd, 1) := by decide +kernel
theorem dX12_findAbove_210 : decode cX12_findAbove 210 = .ok (.baload, 1) := by decide +kernel
theorem dX12_findAbove_211 : decode cX12_findAbove 211 = .ok (.ifCond .eq 29, 3) := by decide +kernel
theorem dX12_findAbove_240 : decode cX12_findAbove 240 = .ok (.iinc 3 1, 3) := by decide +kernel
theorem dX12_findAbove_243 : decode cX12_findAbove 243 = .ok (.goto (-51), 3) := by decide +kernel
theorem dX12_findAbove_214 : decode cX12_findAbove 214 = .ok (.aload_n 0, 1) := by decide +kernel
theorem dX12_findAbove_215 : decode cX12_findAbove 215 = .ok (.getfield 105, 3) := by decide +kernel
theorem dX12_findAbove_218 : decode cX12_findAbove 218 = .ok (.bipush 40, 2) := by decide +kernel
theorem dX12_findAbove_220 : decode cX12_findAbove 220 = .ok (.iload_n 1, 1) := by decide +kernel
theorem dX12_findAbove_221 : decode cX12_findAbove 221 = .ok (.imul, 1) := by decide +kernel
theorem dX12_findAbove_222 : decode cX12_findAbove 222 = .ok (.iload_n 3, 1) := by decide +kernel
theorem dX12_findAbove_223 : decode cX12_findAbove 223 = .ok (.iadd, 1) := by decide +kernel
theorem dX12_findAbove_224 : decode cX12_findAbove 224 = .ok (.baload, 1) := by decide +kernel
theorem dX12_findAbove_225 : decode cX12_findAbove 225 = .ok (.ifCond .eq 15, 3) := by decide +kernel
theorem dX12_findAbove_228 : decode cX12_findAbove 228 = .ok (.aload_n 0, 1) := by decide +kernel
theorem dX12_findAbove_229 : decode cX12_findAbove 229 = .ok (.getfield 105, 3) := by decide +kernel
theorem dX12_findAbove_232 : decode cX12_findAbove 232 = .ok (.bipush 40, 2) := by decide +kernel
theorem dX12_findAbove_234 : decode cX12_findAbove 234 = .ok (.iload_n 2, 1) := by decide +kernel
theorem dX12_findAbove_235 : decode cX12_findAbove 235 = .ok (.imul, 1) := by decide +kernel
theorem dX12_findAbove_236 : decode cX12_findAbove 236 = .ok (.iload_n 3, 1) := by decide +kernel
theorem dX12_findAbove_237 : decode cX12_findAbove 237 = .ok (.iadd, 1) := by decide +kernel
theorem dX12_findAbove_238 : decode cX12_findAbove 238 = .ok (.iconst 1, 1) := by decide +kernel
theorem dX12_findAbove_239 : decode cX12_findAbove 239 = .ok (.bastore, 1) := by decide +kernel
theorem dX12_findAbove_9 : decode cX12_findAbove 9 = .ok (.aload_n 0, 1) := by decide +kernel
theorem dX12_findAbove_10 : decode cX12_findAbove 10 = .ok (.getfield 105, 3) := by decide +kernel
theorem dX12_findAbove_13 : decode cX12_findAbove 13 = .ok (.iload_n 1, 1) := by decide +kernel
theorem dX12_findAbove_14 : decode cX12_findAbove 14 = .ok (.iconst 0, 1) := by decide +kernel
theorem dX12_findAbove_15 : decode cX12_findAbove 15 = .ok (.bastore, 1) := by decide +kernel
theorem dX12_findAbove_16 : decode cX12_findAbove 16 = .ok (.iinc 1 1, 3) := by decide +kernel
theorem dX12_findAbove_19 : decode cX12_findAbove 19 = .ok (.goto (-17), 3) := by decide +kernel
set_option maxHeartbeats 4000000 in
set_option maxRecDepth 100000 in
/-- findAbove of the seven -/
theorem m_findAbove (l : Launch) (G : pT) (h0 : Nat) (a : Nat → Nat) (fs : List Value) (f43 : Nat → Int32) (f41 : Nat → Int32) (f39 : Nat → Int32) (f40 : Nat → Int32) (hn : fs.length = 134) (hf_35 : fs[35]? = some (.int 7)) (hf_43 : fs[43]? = some (.ref (a 31))) (hf_41 : fs[41]? = some (.ref (a 29))) (hf_39 : fs[39]? = some (.ref (a 27))) (hf_40 : fs[40]? = some (.ref (a 28))) (h39 : ∀ j : Nat, j < 7 → f39 j = (-1)) (h40 : ∀ j : Nat, j < 7 → f40 j = (-1)) : PM l G pX0 yX12_findAbove cX12_findAbove 4 none ({ frames := 2, cells := 0, slots := 0, locals := 60 }) [.ref h0] [(h0, .inr (9, fs)), ((a 31), .inl (G.2.1 3, 1600, .inl f43)), ((a 29), .inl (G.2.1 0, 40, .inl f41)), ((a 27), .inl (G.2.1 0, 40, .inl f39)), ((a 28), .inl (G.2.1 0, 40, .inl f40))] (fun (v : Option Value) (u : Unit) => v = none) (fun u => [(h0, .inr (9, fs))]) := by
  intro sz
  refine Met.ofW (cc := cX12_findAbove) (maxL := 4) (ret := none) (by decide) rfl ?_
  intro p e s m args below meth c s₁ B hml hv
  obtain ⟨rfl, hsz, hP, hD0, hE, hX⟩ := hv
  have hx := B.exec
  have hb := B.bytes
  have hr := B.returns
  have hts := atoms_spec (ws := Cond.code yX12_findAbove cX12_findAbove 4 none :: pw) B.pre
  have hq : ∀ w ∈ pw, w.before _ s = true := fun w h => hts w (List.mem_cons_of_mem _ h)
  have hown : s.vm.findClass RX12 = some m.cls := findClass_of_methodNamed B.named
  have hlocks := B.notSynchronized
  subst hsz
  have hD := hD0.self (sz := s.heap.size)
  have hA : ∀ q : Nat, s.heap.size ≤ q → va_A [(h0, .inr (9, fs)), ((a 31), .inl (G.2.1 3, 1600, .inl f43)), ((a 29), .inl (G.2.1 0, 40, .inl f41)), ((a 27), .inl (G.2.1 0, 40, .inl f39)), ((a 28), .inl (G.2.1 0, 40, .inl f40))] s.heap.size q := fun q h => Or.inr h
  have hP : va_P G.1 pCl [(h0, .inr (9, fs)), ((a 31), .inl (G.2.1 3, 1600, .inl f43)), ((a 29), .inl (G.2.1 0, 40, .inl f41)), ((a 27), .inl (G.2.1 0, 40, .inl f39)), ((a 28), .inl (G.2.1 0, 40, .inl f40))] s.heap := hP
  generalize va_A [(h0, .inr (9, fs)), ((a 31), .inl (G.2.1 3, 1600, .inl f43)), ((a 29), .inl (G.2.1 0, 40, .inl f41)), ((a 27), .inl (G.2.1 0, 40, .inl f39)), ((a 28), .inl (G.2.1 0, 40, .inl f40))] s.heap.size = A at hD hE hA ⊢
  have hS : va_S A s.heap s.heap [] := va_S.rf
  have hl := lv_entry ([.ref h0]) (n := 4) (Nat.le_of_ble_eq_true rfl)
  rw [lg_entry_eq]
  generalize (lg_sl ([.ref h0]) ++ List.replicate (4 - (lg_sl ([.ref h0])).length) Slot.unset).toArray = ls at hl ⊢
  have hl : lv_has ls 4 [(0, .ref h0)] := hl
  refine lv_iconst (v := 0) hx hb dX12_findAbove_0 (by decide) ?_
  refine lv_istore_n (lv' := [(1, .int 0), (0, .ref h0)]) hx hb dX12_findAbove_1 rfl hl (by decide) rfl (fun ls hl => ?_)
  have loop_z : ∀ (n_z k : Nat) (g : Nat → Int32) (H : Heap) (locs : List Loc) (ls : Array Slot), k ≤ 1600 → 1600 + 1 ≤ k + n_z → va_P G.1 pCl [(h0, .inr (9, fs)), ((a 31), .inl (G.2.1 3, 1600, .inl g)), ((a 29), .inl (G.2.1 0, 40, .inl f41)), ((a 27), .inl (G.2.1 0, 40, .inl f39)), ((a 28), .inl (G.2.1 0, 40, .inl f40))] H → va_D A [(h0, .inr (9, fs)), ((a 31), .inl (G.2.1 3, 1600, .inl g)), ((a 29), .inl (G.2.1 0, 40, .inl f41)), ((a 27), .inl (G.2.1 0, 40, .inl f39)), ((a 28), .inl (G.2.1 0, 40, .inl f40))] → va_S A s.heap H locs → lv_has ls 4 [(1, .int (nI k)), (0, .ref h0)] → W p l e (headSpec (Cond.code yX12_findAbove cX12_findAbove 4 none :: pw) ({ frames := 2, cells := 0, slots := 0, locals := 60 } : Room)).room s m ([.ref h0] : List Value).toArray below meth c H locs 0 0 (MQ below (pQ G A (fun (v : Option Value) (u : Unit) => v = none) (fun u => [(h0, .inr (9, fs))])) ([.ref h0] : List Value).toArray s ({ frames := 2, cells := 0, slots := 0, locals := 60 } : Room).cells ({ frames := 2, cells := 0, slots := 0, locals := 60 } : Room).slots A) (F0 m 2 ls []) := by
    intro n_z
    induction n_z with
    | zero => intro k g H locs ls hk_z hn_z; omega
    | succ n_z ih_z =>
      intro k g H locs ls hk_z hn_z hP hD hS hl
      refine lv_iload_n hx hb dX12_findAbove_2 rfl (lv_at hl 0 rfl) ?_
      refine lv_sipush (v := 1600) hx hb dX12_findAbove_3 (by decide) ?_
      refine lv_icmp_ge (tgt := 22) hx hb dX12_findAbove_6 (by decide) (fun c1 => ?_) (fun c1 => ?_)
      · refine lv_iconst (v := 1) hx hb dX12_findAbove_22 (by decide) ?_
        refine lv_istore_n (lv' := [(1, .int 1), (0, .ref h0)]) hx hb dX12_findAbove_23 rfl hl (by decide) rfl (fun ls hl => ?_)
        refine lv_iload_n hx hb dX12_findAbove_24 rfl (lv_at hl 0 rfl) ?_
        refine lv_aload_n hx hb dX12_findAbove_25 rfl (lv_at hl 1 rfl) ?_
        refine va_get (D := G.1) (ci := 9) (v := .int 7) (C := RX12) (T := TX12) (N := 134) hx hb hq pin_wsX120 hown hE.1.1 hP 0 rfl rfl 35 (by decide) (by rw [tFX12_35]; exact hq _ pw_277) (fun _ h9 => h9) hf_35 dX12_findAbove_26 ?_
        refine lv_icmp_ge (tgt := 170) hx hb dX12_findAbove_29 (by decide) (fun c2 => absurd c2 (by decide)) (fun c2 => ?_)
        refine lv_aload_n hx hb dX12_findAbove_32 rfl (lv_at hl 1 rfl) ?_
        refine va_get (D := G.1) (ci := 9) (v := .ref (a 31)) (C := RX12) (T := TX12) (N := 134) hx hb hq pin_wsX120 hown hE.1.1 hP 0 rfl rfl 43 (by decide) (by rw [tFX12_43]; exact hq _ pw_209) (fun _ h9 => h9) hf_43 dX12_findAbove_33 ?_
        refine lv_iload_n hx hb dX12_findAbove_36 rfl (lv_at hl 0 rfl) ?_
        refine lv_iconst (v := 1) hx hb dX12_findAbove_37 (by decide) ?_
        refine va_zast hx hb hE.1.1 hP hD hS 1 3 rfl rfl (by unfold vp_in; decide) dX12_findAbove_38 (fun H locs hP hD hS => ?_)
        have hP : va_P G.1 pCl [(h0, .inr (9, fs)), ((a 31), .inl (G.2.1 3, 1600, .inl (upd g (Int32.toNatClampNeg 1) (vp_nar .boolean 1)))), ((a 29), .inl (G.2.1 0, 40, .inl f41)), ((a 27), .inl (G.2.1 0, 40, .inl f39)), ((a 28), .inl (G.2.1 0, 40, .inl f40))] H := hP
        have hD : va_D A [(h0, .inr (9, fs)), ((a 31), .inl (G.2.1 3, 1600, .inl (upd g (Int32.toNatClampNeg 1) (vp_nar .boolean 1)))), ((a 29), .inl (G.2.1 0, 40, .inl f41)), ((a 27), .inl (G.2.1 0, 40, .inl f39)), ((a 28), .inl (G.2.1 0, 40, .inl f40))] := hD
        generalize (upd g (Int32.toNatClampNeg 1) (vp_nar .boolean 1)) = f3 at hP hD
        refine lv_aload_n hx hb dX12_findAbove_39 rfl (lv_at hl 1 rfl) ?_
        refine va_get (D := G.1) (ci := 9) (v := .ref (a 29)) (C := RX12) (T := TX12) (N := 134) hx hb hq pin_wsX120 hown hE.1.1 hP 0 rfl rfl 41 (by decide) (by rw [tFX12_41]; exact hq _ pw_207) (fun _ h9 => h9) hf_41 dX12_findAbove_40 ?_
        refine lv_iload_n hx hb dX12_findAbove_43 rfl (lv_at hl 0 rfl) ?_
        refine lv_iconst (v := 0) hx hb dX12_findAbove_44 (by decide) ?_
        refine va_iast hx hb hE.1.1 hP hD hS 2 0 rfl rfl (by unfold vp_in; decide) dX12_findAbove_45 (fun H locs hP hD hS => ?_)
        have hP : va_P G.1 pCl [(h0, .inr (9, fs)), ((a 31), .inl (G.2.1 3, 1600, .inl f3)), ((a 29), .inl (G.2.1 0, 40, .inl (upd f41 (Int32.toNatClampNeg 1) 0))), ((a 27), .inl (G.2.1 0, 40, .inl f39)), ((a 28), .inl (G.2.1 0, 40, .inl f40))] H := hP
        have hD : va_D A [(h0, .inr (9, fs)), ((a 31), .inl (G.2.1 3, 1600, .inl f3)), ((a 29), .inl (G.2.1 0, 40, .inl (upd f41 (Int32.toNatClampNeg 1) 0))), ((a 27), .inl (G.2.1 0, 40, .inl f39)), ((a 28), .inl (G.2.1 0, 40, .inl f40))] := hD
        generalize (upd f41 (Int32.toNatClampNeg 1) 0) = f4 at hP hD
        refine lv_aload_n hx hb dX12_findAbove_46 rfl (lv_at hl 1 rfl) ?_
        refine va_get (D := G.1) (ci := 9) (v := .ref (a 27)) (C := RX12) (T := TX12) (N := 134) hx hb hq pin_wsX120 hown hE.1.1 hP 0 rfl rfl 39 (by decide) (by rw [tFX12_39]; exact hq _ pw_205) (fun _ h9 => h9) hf_39 dX12_findAbove_47 ?_
        refine lv_iload_n hx hb dX12_findAbove_50 rfl (lv_at hl 0 rfl) ?_
        refine va_iald hx hb hE.1.1 hP 3 0 rfl rfl (by unfold vp_in; decide) dX12_findAbove_51 ?_
        refine lv_topi (fun x5 e6 => ?_)
        obtain rfl : x5 = (-1) := e6.trans (h39 1 (by decide))
        refine lv_istore_n (lv' := [(2, .int (-1)), (1, .int 1), (0, .ref h0)]) hx hb dX12_findAbove_52 rfl hl (by decide) rfl (fun ls hl => ?_)
        refine lv_iload_n hx hb dX12_findAbove_53 rfl (lv_at hl 0 rfl) ?_
        refine lv_iconst (v := (-1)) hx hb dX12_findAbove_54 (by decide) ?_
        refine lv_icmp_eq (tgt := 116) hx hb dX12_findAbove_55 (by decide) (fun c7 => ?_) (fun c7 => absurd c7 (by decide))
        refine lv_aload_n hx hb dX12_findAbove_116 rfl (lv_at hl 2 rfl) ?_
        refine va_get (D := G.1) (ci := 9) (v := .ref (a 28)) (C := RX12) (T := TX12) (N := 134) hx hb hq pin_wsX120 hown hE.1.1 hP 0 rfl rfl 40 (by decide) (by rw [tFX12_40]; exact hq _ pw_206) (fun _ h9 => h9) hf_40 dX12_findAbove_117 ?_
        refine lv_iload_n hx hb dX12_findAbove_120 rfl (lv_at hl 1 rfl) ?_
        refine va_iald hx hb hE.1.1 hP 4 0 rfl rfl (by unfold vp_in; decide) dX12_findAbove_121 ?_
        refine lv_topi (fun x8 e9 => ?_)
        obtain rfl : x8 = (-1) := e9.trans (h40 1 (by decide))
        refine lv_istore_n (lv' := [(2, .int (-1)), (1, .int 1), (0, .ref h0)]) hx hb dX12_findAbove_122 rfl hl (by decide) rfl (fun ls hl => ?_)
        refine lv_iload_n hx hb dX12_findAbove_123 rfl (lv_at hl 0 rfl) ?_
        refine lv_iconst (v := (-1)) hx hb dX12_findAbove_124 (by decide) ?_
        refine lv_icmp_eq (tgt := 164) hx hb dX12_findAbove_125 (by decide) (fun c10 => ?_) (fun c10 => absurd c10 (by decide))
        refine lv_iinc (v := 2) (lv' := [(1, .int 2), (2, .int (-1)), (0, .ref h0)]) hx hb dX12_findAbove_164 hl (k := 1) rfl (by decide) (by decide) rfl (fun ls hl => ?_)
        refine lv_goto (tgt := 24) hx hb dX12_findAbove_167 (by decide) ?_
        refine lv_iload_n hx hb dX12_findAbove_24 rfl (lv_at hl 0 rfl) ?_
        refine lv_aload_n hx hb dX12_findAbove_25 rfl (lv_at hl 2 rfl) ?_
        refine va_get (D := G.1) (ci := 9) (v := .int 7) (C := RX12) (T := TX12) (N := 134) hx hb hq pin_wsX120 hown hE.1.1 hP 0 rfl rfl 35 (by decide) (by rw [tFX12_35]; exact hq _ pw_277) (fun _ h9 => h9) hf_35 dX12_findAbove_26 ?_
        refine lv_icmp_ge (tgt := 170) hx hb dX12_findAbove_29 (by decide) (fun c11 => absurd c11 (by decide)) (fun c11 => ?_)
        refine lv_aload_n hx hb dX12_findAbove_32 rfl (lv_at hl 2 rfl) ?_
        refine va_get (D := G.1) (ci := 9) (v := .ref (a 31)) (C := RX12) (T := TX12) (N := 134) hx hb hq pin_wsX120 hown hE.1.1 hP 0 rfl rfl 43 (by decide) (by rw [tFX12_43]; exact hq _ pw_209) (fun _ h9 => h9) hf_43 dX12_findAbove_33 ?_
        refine lv_iload_n hx hb dX12_findAbove_36 rfl (lv_at hl 0 rfl) ?_
        refine lv_iconst (v := 1) hx hb dX12_findAbove_37 (by decide) ?_
        refine va_zast hx hb hE.1.1 hP hD hS 1 3 rfl rfl (by unfold vp_in; decide) dX12_findAbove_38 (fun H locs hP hD hS => ?_)
        have hP : va_P G.1 pCl [(h0, .inr (9, fs)), ((a 31), .inl (G.2.1 3, 1600, .inl (upd f3 (Int32.toNatClampNeg 2) (vp_nar .boolean 1)))), ((a 29), .inl (G.2.1 0, 40, .inl f4)), ((a 27), .inl (G.2.1 0, 40, .inl f39)), ((a 28), .inl (G.2.1 0, 40, .inl f40))] H := hP
        have hD : va_D A [(h0, .inr (9, fs)), ((a 31), .inl (G.2.1 3, 1600, .inl (upd f3 (Int32.toNatClampNeg 2) (vp_nar .boolean 1)))), ((a 29), .inl (G.2.1 0, 40, .inl f4)), ((a 27), .inl (G.2.1 0, 40, .inl f39)), ((a 28), .inl (G.2.1 0, 40, .inl f40))] := hD
        generalize (upd f3 (Int32.toNatClampNeg 2) (vp_nar .boolean 1)) = f12 at hP hD
        refine lv_aload_n hx hb dX12_findAbove_39 rfl (lv_at hl 2 rfl) ?_
        refine va_get (D := G.1) (ci := 9) (v := .ref (a 29)) (C := RX12) (T := TX12) (N := 134) hx hb hq pin_wsX120 hown hE.1.1 hP 0 rfl rfl 41 (by decide) (by rw [tFX12_41]; exact hq _ pw_207) (fun _ h9 => h9) hf_41 dX12_findAbove_40 ?_
        refine lv_iload_n hx hb dX12_findAbove_43 rfl (lv_at hl 0 rfl) ?_
        refine lv_iconst (v := 0) hx hb dX12_findAbove_44 (by decide) ?_
        refine va_iast hx hb hE.1.1 hP hD hS 2 0 rfl rfl (by unfold vp_in; decide) dX12_findAbove_45 (fun H locs hP hD hS => ?_)
        have hP : va_P G.1 pCl [(h0, .inr (9, fs)), ((a 31), .inl (G.2.1 3, 1600, .inl f12)), ((a 29), .inl (G.2.1 0, 40, .inl (upd f4 (Int32.toNatClampNeg 2) 0))), ((a 27), .inl (G.2.1 0, 40, .inl f39)), ((a 28), .inl (G.2.1 0, 40, .inl f40))] H := hP
        have hD : va_D A [(h0, .inr (9, fs)), ((a 31), .inl (G.2.1 3, 1600, .inl f12)), ((a 29), .inl (G.2.1 0, 40, .inl (upd f4 (Int32.toNatClampNeg 2) 0))), ((a 27), .inl (G.2.1 0, 40, .inl f39)), ((a 28), .inl (G.2.1 0, 40, .inl f40))] := hD
        generalize (upd f4 (Int32.toNatClampNeg 2) 0) = f13 at hP hD
        refine lv_aload_n hx hb dX12_findAbove_46 rfl (lv_at hl 2 rfl) ?_
        refine va_get (D := G.1) (ci := 9) (v := .ref (a 27)) (C := RX12) (T := TX12) (N := 134) hx hb hq pin_wsX120 hown hE.1.1 hP 0 rfl rfl 39 (by decide) (by rw [tFX12_39]; exact hq _ pw_205) (fun _ h9 => h9) hf_39 dX12_findAbove_47 ?_
        refine lv_iload_n hx hb dX12_findAbove_50 rfl (lv_at hl 0 rfl) ?_
        refine va_iald hx hb hE.1.1 hP 3 0 rfl rfl (by unfold vp_in; decide) dX12_findAbove_51 ?_
        refine lv_topi (fun x14 e15 => ?_)
        obtain rfl : x14 = (-1) := e15.trans (h39 2 (by decide))
        refine lv_istore_n (lv' := [(2, .int (-1)), (1, .int 2), (0, .ref h0)]) hx hb dX12_findAbove_52 rfl hl (by decide) rfl (fun ls hl => ?_)
        refine lv_iload_n hx hb dX12_findAbove_53 rfl (lv_at hl 0 rfl) ?_
        refine lv_iconst (v := (-1)) hx hb dX12_findAbove_54 (by decide) ?_
        refine lv_icmp_eq (tgt := 116) hx hb dX12_findAbove_55 (by decide) (fun c16 => ?_) (fun c16 => absurd c16 (by decide))
        refine lv_aload_n hx hb dX12_findAbove_116 rfl (lv_at hl 2 rfl) ?_
        refine va_get (D := G.1) (ci := 9) (v := .ref (a 28)) (C := RX12) (T := TX12) (N := 134) hx hb hq pin_wsX120 hown hE.1.1 hP 0 rfl rfl 40 (by decide) (by rw [tFX12_40]; exact hq _ pw_206) (fun _ h9 => h9) hf_40 dX12_findAbove_117 ?_
        refine lv_iload_n hx hb dX12_findAbove_120 rfl (lv_at hl 1 rfl) ?_
        refine va_iald hx hb hE.1.1 hP 4 0 rfl rfl (by unfold vp_in; decide) dX12_findAbove_121 ?_
        refine lv_topi (fun x17 e18 => ?_)
        obtain rfl : x17 = (-1) := e18.trans (h40 2 (by decide))
        refine lv_istore_n (lv' := [(2, .int (-1)), (1, .int 2), (0, .ref h0)]) hx hb dX12_findAbove_122 rfl hl (by decide) rfl (fun ls hl => ?_)
        refine lv_iload_n hx hb dX12_findAbove_123 rfl (lv_at hl 0 rfl) ?_
        refine lv_iconst (v := (-1)) hx hb dX12_findAbove_124 (by decide) ?_
        refine lv_icmp_eq (tgt := 164) hx hb dX12_findAbove_125 (by decide) (fun c19 => ?_) (fun c19 => absurd c19 (by decide))
        refine lv_iinc (v := 3) (lv' := [(1, .int 3), (2, .int (-1)), (0, .ref h0)]) hx hb dX12_findAbove_164 hl (k := 1) rfl (by decide) (by decide) rfl (fun ls hl => ?_)
        refine lv_goto (tgt := 24) hx hb dX12_findAbove_167 (by decide) ?_
        refine lv_iload_n hx hb dX12_findAbove_24 rfl (lv_at hl 0 rfl) ?_
        refine lv_aload_n hx hb dX12_findAbove_25 rfl (lv_at hl 2 rfl) ?_
        refine va_get (D := G.1) (ci := 9) (v := .int 7) (C := RX12) (T := TX12) (N := 134) hx hb hq pin_wsX120 hown hE.1.1 hP 0 rfl rfl 35 (by decide) (by rw [tFX12_35]; exact hq _ pw_277) (fun _ h9 => h9) hf_35 dX12_findAbove_26 ?_
        refine lv_icmp_ge (tgt := 170) hx hb dX12_findAbove_29 (by decide) (fun c20 => absurd c20 (by decide)) (fun c20 => ?_)
        refine lv_aload_n hx hb dX12_findAbove_32 rfl (lv_at hl 2 rfl) ?_
        refine va_get (D := G.1) (ci := 9) (v := .ref (a 31)) (C := RX12) (T := TX12) (N := 134) hx hb hq pin_wsX120 hown hE.1.1 hP 0 rfl rfl 43 (by decide) (by rw [tFX12_43]; exact hq _ pw_209) (fun _ h9 => h9) hf_43 dX12_findAbove_33 ?_
        refine lv_iload_n hx hb dX12_findAbove_36 rfl (lv_at hl 0 rfl) ?_
        refine lv_iconst (v := 1) hx hb dX12_findAbove_37 (by decide) ?_
        refine va_zast hx hb hE.1.1 hP hD hS 1 3 rfl rfl (by unfold vp_in; decide) dX12_findAbove_38 (fun H locs hP hD hS => ?_)
        have hP : va_P G.1 pCl [(h0, .inr (9, fs)), ((a 31), .inl (G.2.1 3, 1600, .inl (upd f12 (Int32.toNatClampNeg 3) (vp_nar .boolean 1)))), ((a 29), .inl (G.2.1 0, 40, .inl f13)), ((a 27), .inl (G.2.1 0, 40, .inl f39)), ((a 28), .inl (G.2.1 0, 40, .inl f40))] H := hP
        have hD : va_D A [(h0, .inr (9, fs)), ((a 31), .inl (G.2.1 3, 1600, .inl (upd f12 (Int32.toNatClampNeg 3) (vp_nar .boolean 1)))), ((a 29), .inl (G.2.1 0, 40, .inl f13)), ((a 27), .inl (G.2.1 0, 40, .inl f39)), ((a 28), .inl (G.2.1 0, 40, .inl f40))] := hD
        generalize (upd f12 (Int32.toNatClampNeg 3) (vp_nar .boolean 1)) = f21 at hP hD
        refine lv_aload_n hx hb dX12_findAbove_39 rfl (lv_at hl 2 rfl) ?_
        refine va_get (D := G.1) (ci := 9) (v := .ref (a 29)) (C := RX12) (T := TX12) (N := 134) hx hb hq pin_wsX120 hown hE.1.1 hP 0 rfl rfl 41 (by decide) (by rw [tFX12_41]; exact hq _ pw_207) (fun _ h9 => h9) hf_41 dX12_findAbove_40 ?_
        refine lv_iload_n hx hb dX12_findAbove_43 rfl (lv_at hl 0 rfl) ?_
        refine lv_iconst (v := 0) hx hb dX12_findAbove_44 (by decide) ?_
        refine va_iast hx hb hE.1.1 hP hD hS 2 0 rfl rfl (by unfold vp_in; decide) dX12_findAbove_45 (fun H locs hP hD hS => ?_)
        have hP : va_P G.1 pCl [(h0, .inr (9, fs)), ((a 31), .inl (G.2.1 3, 1600, .inl f21)), ((a 29), .inl (G.2.1 0, 40, .inl (upd f13 (Int32.toNatClampNeg 3) 0))), ((a 27), .inl (G.2.1 0, 40, .inl f39)), ((a 28), .inl (G.2.1 0, 40, .inl f40))] H := hP
        have hD : va_D A [(h0, .inr (9, fs)), ((a 31), .inl (G.2.1 3, 1600, .inl f21)), ((a 29), .inl (G.2.1 0, 40, .inl (upd f13 (Int32.toNatClampNeg 3) 0))), ((a 27), .inl (G.2.1 0, 40, .inl f39)), ((a 28), .inl (G.2.1 0, 40, .inl f40))] := hD
        generalize (upd f13 (Int32.toNatClampNeg 3) 0) = f22 at hP hD
        refine lv_aload_n hx hb dX12_findAbove_46 rfl (lv_at hl 2 rfl) ?_
        refine va_get (D := G.1) (ci := 9) (v := .ref (a 27)) (C := RX12) (T := TX12) (N := 134) hx hb hq pin_wsX120 hown hE.1.1 hP 0 rfl rfl 39 (by decide) (by rw [tFX12_39]; exact hq _ pw_205) (fun _ h9 => h9) hf_39 dX12_findAbove_47 ?_
        refine lv_iload_n hx hb dX12_findAbove_50 rfl (lv_at hl 0 rfl) ?_
        refine va_iald hx hb hE.1.1 hP 3 0 rfl rfl (by unfold vp_in; decide) dX12_findAbove_51 ?_
        refine lv_topi (fun x23 e24 => ?_)
        obtain rfl : x23 = (-1) := e24.trans (h39 3 (by decide))
        refine lv_istore_n (lv' := [(2, .int (-1)), (1, .int 3), (0, .ref h0)]) hx hb dX12_findAbove_52 rfl hl (by decide) rfl (fun ls hl => ?_)
        refine lv_iload_n hx hb dX12_findAbove_53 rfl (lv_at hl 0 rfl) ?_
        refine lv_iconst (v := (-1)) hx hb dX12_findAbove_54 (by decide) ?_
        refine lv_icmp_eq (tgt := 116) hx hb dX12_findAbove_55 (by decide) (fun c25 => ?_) (fun c25 => absurd c25 (by decide))
        refine lv_aload_n hx hb dX12_findAbove_116 rfl (lv_at hl 2 rfl) ?_
        refine va_get (D := G.1) (ci := 9) (v := .ref (a 28)) (C := RX12) (T := TX12) (N := 134) hx hb hq pin_wsX120 hown hE.1.1 hP 0 rfl rfl 40 (by decide) (by rw [tFX12_40]; exact hq _ pw_206) (fun _ h9 => h9) hf_40 dX12_findAbove_117 ?_
        refine lv_iload_n hx hb dX12_findAbove_120 rfl (lv_at hl 1 rfl) ?_
        refine va_iald hx hb hE.1.1 hP 4 0 rfl rfl (by unfold vp_in; decide) dX12_findAbove_121 ?_
        refine lv_topi (fun x26 e27 => ?_)
        obtain rfl : x26 = (-1) := e27.trans (h40 3 (by decide))
        refine lv_istore_n (lv' := [(2, .int (-1)), (1, .int 3), (0, .ref h0)]) hx hb dX12_findAbove_122 rfl hl (by decide) rfl (fun ls hl => ?_)
        refine lv_iload_n hx hb dX12_findAbove_123 rfl (lv_at hl 0 rfl) ?_
        refine lv_iconst (v := (-1)) hx hb dX12_findAbove_124 (by decide) ?_
        refine lv_icmp_eq (tgt := 164) hx hb dX12_findAbove_125 (by decide) (fun c28 => ?_) (fun c28 => absurd c28 (by decide))
        refine lv_iinc (v := 4) (lv' := [(1, .int 4), (2, .int (-1)), (0, .ref h0)]) hx hb dX12_findAbove_164 hl (k := 1) rfl (by decide) (by decide) rfl (fun ls hl => ?_)
        refine lv_goto (tgt := 24) hx hb dX12_findAbove_167 (by decide) ?_
        refine lv_iload_n hx hb dX12_findAbove_24 rfl (lv_at hl 0 rfl) ?_
        refine lv_aload_n hx hb dX12_findAbove_25 rfl (lv_at hl 2 rfl) ?_
        refine va_get (D := G.1) (ci := 9) (v := .int 7) (C := RX12) (T := TX12) (N := 134) hx hb hq pin_wsX120 hown hE.1.1 hP 0 rfl rfl 35 (by decide) (by rw [tFX12_35]; exact hq _ pw_277) (fun _ h9 => h9) hf_35 dX12_findAbove_26 ?_
        refine lv_icmp_ge (tgt := 170) hx hb dX12_findAbove_29 (by decide) (fun c29 => absurd c29 (by decide)) (fun c29 => ?_)
        refine lv_aload_n hx hb dX12_findAbove_32 rfl (lv_at hl 2 rfl) ?_
        refine va_get (D := G.1) (ci := 9) (v := .ref (a 31)) (C := RX12) (T := TX12) (N := 134) hx hb hq pin_wsX120 hown hE.1.1 hP 0 rfl rfl 43 (by decide) (by rw [tFX12_43]; exact hq _ pw_209) (fun _ h9 => h9) hf_43 dX12_findAbove_33 ?_
        refine lv_iload_n hx hb dX12_findAbove_36 rfl (lv_at hl 0 rfl) ?_
        refine lv_iconst (v := 1) hx hb dX12_findAbove_37 (by decide) ?_
        refine va_zast hx hb hE.1.1 hP hD hS 1 3 rfl rfl (by unfold vp_in; decide) dX12_findAbove_38 (fun H locs hP hD hS => ?_)
        have hP : va_P G.1 pCl [(h0, .inr (9, fs)), ((a 31), .inl (G.2.1 3, 1600, .inl (upd f21 (Int32.toNatClampNeg 4) (vp_nar .boolean 1)))), ((a 29), .inl (G.2.1 0, 40, .inl f22)), ((a 27), .inl (G.2.1 0, 40, .inl f39)), ((a 28), .inl (G.2.1 0, 40, .inl f40))] H := hP
        have hD : va_D A [(h0, .inr (9, fs)), ((a 31), .inl (G.2.1 3, 1600, .inl (upd f21 (Int32.toNatClampNeg 4) (vp_nar .boolean 1)))), ((a 29), .inl (G.2.1 0, 40, .inl f22)), ((a 27), .inl (G.2.1 0, 40, .inl f39)), ((a 28), .inl (G.2.1 0, 40, .inl f40))] := hD
        generalize (upd f21 (Int32.toNatClampNeg 4) (vp_nar .boolean 1)) = f30 at hP hD
        refine lv_aload_n hx hb dX12_findAbove_39 rfl (lv_at hl 2 rfl) ?_
        refine va_get (D := G.1) (ci := 9) (v := .ref (a 29)) (C := RX12) (T := TX12) (N := 134) hx hb hq pin_wsX120 hown hE.1.1 hP 0 rfl rfl 41 (by decide) (by rw [tFX12_41]; exact hq _ pw_207) (fun _ h9 => h9) hf_41 dX12_findAbove_40 ?_
        refine lv_iload_n hx hb dX12_findAbove_43 rfl (lv_at hl 0 rfl) ?_
        refine lv_iconst (v := 0) hx hb dX12_findAbove_44 (by decide) ?_
        refine va_iast hx hb hE.1.1 hP hD hS 2 0 rfl rfl (by unfold vp_in; decide) dX12_findAbove_45 (fun H locs hP hD hS => ?_)
        have hP : va_P G.1 pCl [(h0, .inr (9, fs)), ((a 31), .inl (G.2.1 3, 1600, .inl f30)), ((a 29), .inl (G.2.1 0, 40, .inl (upd f22 (Int32.toNatClampNeg 4) 0))), ((a 27), .inl (G.2.1 0, 40, .inl f39)), ((a 28), .inl (G.2.1 0, 40, .inl f40))] H := hP
        have hD : va_D A [(h0, .inr (9, fs)), ((a 31), .inl (G.2.1 3, 1600, .inl f30)), ((a 29), .inl (G.2.1 0, 40, .inl (upd f22 (Int32.toNatClampNeg 4) 0))), ((a 27), .inl (G.2.1 0, 40, .inl f39)), ((a 28), .inl (G.2.1 0, 40, .inl f40))] := hD
        generalize (upd f22 (Int32.toNatClampNeg 4) 0) = f31 at hP hD
        refine lv_aload_n hx hb dX12_findAbove_46 rfl (lv_at hl 2 rfl) ?_
        refine va_get (D := G.1) (ci := 9) (v := .ref (a 27)) (C := RX12) (T := TX12) (N := 134) hx hb hq pin_wsX120 hown hE.1.1 hP 0 rfl rfl 39 (by decide) (by rw [tFX12_39]; exact hq _ pw_205) (fun _ h9 => h9) hf_39 dX12_findAbove_47 ?_
        refine lv_iload_n hx hb dX12_findAbove_50 rfl (lv_at hl 0 rfl) ?_
        refine va_iald hx hb hE.1.1 hP 3 0 rfl rfl (by unfold vp_in; decide) dX12_findAbove_51 ?_
        refine lv_topi (fun x32 e33 => ?_)
        obtain rfl : x32 = (-1) := e33.trans (h39 4 (by decide))
        refine lv_istore_n (lv' := [(2, .int (-1)), (1, .int 4), (0, .ref h0)]) hx hb dX12_findAbove_52 rfl hl (by decide) rfl (fun ls hl => ?_)
        refine lv_iload_n hx hb dX12_findAbove_53 rfl (lv_at hl 0 rfl) ?_
        refine lv_iconst (v := (-1)) hx hb dX12_findAbove_54 (by decide) ?_
        refine lv_icmp_eq (tgt := 116) hx hb dX12_findAbove_55 (by decide) (fun c34 => ?_) (fun c34 => absurd c34 (by decide))
        refine lv_aload_n hx hb dX12_findAbove_116 rfl (lv_at hl 2 rfl) ?_
        refine va_get (D := G.1) (ci := 9) (v := .ref (a 28)) (C := RX12) (T := TX12) (N := 134) hx hb hq pin_wsX120 hown hE.1.1 hP 0 rfl rfl 40 (by decide) (by rw [tFX12_40]; exact hq _ pw_206) (fun _ h9 => h9) hf_40 dX12_findAbove_117 ?_
        refine lv_iload_n hx hb dX12_findAbove_120 rfl (lv_at hl 1 rfl) ?_
        refine va_iald hx hb hE.1.1 hP 4 0 rfl rfl (by unfold vp_in; decide) dX12_findAbove_121 ?_
        refine lv_topi (fun x35 e36 => ?_)
        obtain rfl : x35 = (-1) := e36.trans (h40 4 (by decide))
        refine lv_istore_n (lv' := [(2, .int (-1)), (1, .int 4), (0, .ref h0)]) hx hb dX12_findAbove_122 rfl hl (by decide) rfl (fun ls hl => ?_)
        refine lv_iload_n hx hb dX12_findAbove_123 rfl (lv_at hl 0 rfl) ?_
        refine lv_iconst (v := (-1)) hx hb dX12_findAbove_124 (by decide) ?_
        refine lv_icmp_eq (tgt := 164) hx hb dX12_findAbove_125 (by decide) (fun c37 => ?_) (fun c37 => absurd c37 (by decide))
        refine lv_iinc (v := 5) (lv' := [(1, .int 5), (2, .int (-1)), (0, .ref h0)]) hx hb dX12_findAbove_164 hl (k := 1) rfl (by decide) (by decide) rfl (fun ls hl => ?_)
        refine lv_goto (tgt := 24) hx hb dX12_findAbove_167 (by decide) ?_
        refine lv_iload_n hx hb dX12_findAbove_24 rfl (lv_at hl 0 rfl) ?_
        refine lv_aload_n hx hb dX12_findAbove_25 rfl (lv_at hl 2 rfl) ?_
        refine va_get (D := G.1) (ci := 9) (v := .int 7) (C := RX12) (T := TX12) (N := 134) hx hb hq pin_wsX120 hown hE.1.1 hP 0 rfl rfl 35 (by decide) (by rw [tFX12_35]; exact hq _ pw_277) (fun _ h9 => h9) hf_35 dX12_findAbove_26 ?_
        refine lv_icmp_ge (tgt := 170) hx hb dX12_findAbove_29 (by decide) (fun c38 => absurd c38 (by decide)) (fun c38 => ?_)
        refine lv_aload_n hx hb dX12_findAbove_32 rfl (lv_at hl 2 rfl) ?_
        refine va_get (D := G.1) (ci := 9) (v := .ref (a 31)) (C := RX12) (T := TX12) (N := 134) hx hb hq pin_wsX120 hown hE.1.1 hP 0 rfl rfl 43 (by decide) (by rw [tFX12_43]; exact hq _ pw_209) (fun _ h9 => h9) hf_43 dX12_findAbove_33 ?_
        refine lv_iload_n hx hb dX12_findAbove_36 rfl (lv_at hl 0 rfl) ?_
        refine lv_iconst (v := 1) hx hb dX12_findAbove_37 (by decide) ?_
        refine va_zast hx hb hE.1.1 hP hD hS 1 3 rfl rfl (by unfold vp_in; decide) dX12_findAbove_38 (fun H locs hP hD hS => ?_)
        have hP : va_P G.1 pCl [(h0, .inr (9, fs)), ((a 31), .inl (G.2.1 3, 1600, .inl (upd f30 (Int32.toNatClampNeg 5) (vp_nar .boolean 1)))), ((a 29), .inl (G.2.1 0, 40, .inl f31)), ((a 27), .inl (G.2.1 0, 40, .inl f39)), ((a 28), .inl (G.2.1 0, 40, .inl f40))] H := hP
        have hD : va_D A [(h0, .inr (9, fs)), ((a 31), .inl (G.2.1 3, 1600, .inl (upd f30 (Int32.toNatClampNeg 5) (vp_nar .boolean 1)))), ((a 29), .inl (G.2.1 0, 40, .inl f31)), ((a 27), .inl (G.2.1 0, 40, .inl f39)), ((a 28), .inl (G.2.1 0, 40, .inl f40))] := hD
        generalize (upd f30 (Int32.toNatClampNeg 5) (vp_nar .boolean 1)) = f42 at hP hD
        refine lv_aload_n hx hb dX12_findAbove_39 rfl (lv_at hl 2 rfl) ?_
        refine va_get (D := G.1) (ci := 9) (v := .ref (a 29)) (C := RX12) (T := TX12) (N := 134) hx hb hq pin_wsX120 hown hE.1.1 hP 0 rfl rfl 41 (by decide) (by rw [tFX12_41]; exact hq _ pw_207) (fun _ h9 => h9) hf_41 dX12_findAbove_40 ?_
        refine lv_iload_n hx hb dX12_findAbove_43 rfl (lv_at hl 0 rfl) ?_
        refine lv_iconst (v := 0) hx hb dX12_findAbove_44 (by decide) ?_
        refine va_iast hx hb hE.1.1 hP hD hS 2 0 rfl rfl (by unfold vp_in; decide) dX12_findAbove_45 (fun H locs hP hD hS => ?_)
        have hP : va_P G.1 pCl [(h0, .inr (9, fs)), ((a 31), .inl (G.2.1 3, 1600, .inl f42)), ((a 29), .inl (G.2.1 0, 40, .inl (upd f31 (Int32.toNatClampNeg 5) 0))), ((a 27), .inl (G.2.1 0, 40, .inl f39)), ((a 28), .inl (G.2.1 0, 40, .inl f40))] H := hP
        have hD : va_D A [(h0, .inr (9, fs)), ((a 31), .inl (G.2.1 3, 1600, .inl f42)), ((a 29), .inl (G.2.1 0, 40, .inl (upd f31 (Int32.toNatClampNeg 5) 0))), ((a 27), .inl (G.2.1 0, 40, .inl f39)), ((a 28), .inl (G.2.1 0, 40, .inl f40))] := hD
        generalize (upd f31 (Int32.toNatClampNeg 5) 0) = f44 at hP hD
        refine lv_aload_n hx hb dX12_findAbove_46 rfl (lv_at hl 2 rfl) ?_
        refine va_get (D := G.1) (ci := 9) (v := .ref (a 27)) (C := RX12) (T := TX12) (N := 134) hx hb hq pin_wsX120 hown hE.1.1 hP 0 rfl rfl 39 (by decide) (by rw [tFX12_39]; exact hq _ pw_205) (fun _ h9 => h9) hf_39 dX12_findAbove_47 ?_
        refine lv_iload_n hx hb dX12_findAbove_50 rfl (lv_at hl 0 rfl) ?_
        refine va_iald hx hb hE.1.1 hP 3 0 rfl rfl (by unfold vp_in; decide) dX12_findAbove_51 ?_
        refine lv_topi (fun x45 e46 => ?_)
        obtain rfl : x45 = (-1) := e46.trans (h39 5 (by decide))
        refine lv_istore_n (lv' := [(2, .int (-1)), (1, .int 5), (0, .ref h0)]) hx hb dX12_findAbove_52 rfl hl (by decide) rfl (fun ls hl => ?_)
        refine lv_iload_n hx hb dX12_findAbove_53 rfl (lv_at hl 0 rfl) ?_
        refine lv_iconst (v := (-1)) hx hb dX12_findAbove_54 (by decide) ?_
        refine lv_icmp_eq (tgt := 116) hx hb dX12_findAbove_55 (by decide) (fun c47 => ?_) (fun c47 => absurd c47 (by decide))
        refine lv_aload_n hx hb dX12_findAbove_116 rfl (lv_at hl 2 rfl) ?_
        refine va_get (D := G.1) (ci := 9) (v := .ref (a 28)) (C := RX12) (T := TX12) (N := 134) hx hb hq pin_wsX120 hown hE.1.1 hP 0 rfl rfl 40 (by decide) (by rw [tFX12_40]; exact hq _ pw_206) (fun _ h9 => h9) hf_40 dX12_findAbove_117 ?_
        refine lv_iload_n hx hb dX12_findAbove_120 rfl (lv_at hl 1 rfl) ?_
        refine va_iald hx hb hE.1.1 hP 4 0 rfl rfl (by unfold vp_in; decide) dX12_findAbove_121 ?_
        refine lv_topi (fun x48 e49 => ?_)
        obtain rfl : x48 = (-1) := e49.trans (h40 5 (by decide))
        refine lv_istore_n (lv' := [(2, .int (-1)), (1, .int 5), (0, .ref h0)]) hx hb dX12_findAbove_122 rfl hl (by decide) rfl (fun ls hl => ?_)
        refine lv_iload_n hx hb dX12_findAbove_123 rfl (lv_at hl 0 rfl) ?_
        refine lv_iconst (v := (-1)) hx hb dX12_findAbove_124 (by decide) ?_
        refine lv_icmp_eq (tgt := 164) hx hb dX12_findAbove_125 (by decide) (fun c50 => ?_) (fun c50 => absurd c50 (by decide))
        refine lv_iinc (v := 6) (lv' := [(1, .int 6), (2, .int (-1)), (0, .ref h0)]) hx hb dX12_findAbove_164 hl (k := 1) rfl (by decide) (by decide) rfl (fun ls hl => ?_)
        refine lv_goto (tgt := 24) hx hb dX12_findAbove_167 (by decide) ?_
        refine lv_iload_n hx hb dX12_findAbove_24 rfl (lv_at hl 0 rfl) ?_
        refine lv_aload_n hx hb dX12_findAbove_25 rfl (lv_at hl 2 rfl) ?_
        refine va_get (D := G.1) (ci := 9) (v := .int 7) (C := RX12) (T := TX12) (N := 134) hx hb hq pin_wsX120 hown hE.1.1 hP 0 rfl rfl 35 (by decide) (by rw [tFX12_35]; exact hq _ pw_277) (fun _ h9 => h9) hf_35 dX12_findAbove_26 ?_
        refine lv_icmp_ge (tgt := 170) hx hb dX12_findAbove_29 (by decide) (fun c51 => absurd c51 (by decide)) (fun c51 => ?_)
        refine lv_aload_n hx hb dX12_findAbove_32 rfl (lv_at hl 2 rfl) ?_
        refine va_get (D := G.1) (ci := 9) (v := .ref (a 31)) (C := RX12) (T := TX12) (N := 134) hx hb hq pin_wsX120 hown hE.1.1 hP 0 rfl rfl 43 (by decide) (by rw [tFX12_43]; exact hq _ pw_209) (fun _ h9 => h9) hf_43 dX12_findAbove_33 ?_
        refine lv_iload_n hx hb dX12_findAbove_36 rfl (lv_at hl 0 rfl) ?_
        refine lv_iconst (v := 1) hx hb dX12_findAbove_37 (by decide) ?_
        refine va_zast hx hb hE.1.1 hP hD hS 1 3 rfl rfl (by unfold vp_in; decide) dX12_findAbove_38 (fun H locs hP hD hS => ?_)
        have hP : va_P G.1 pCl [(h0, .inr (9, fs)), ((a 31), .inl (G.2.1 3, 1600, .inl (upd f42 (Int32.toNatClampNeg 6) (vp_nar .boolean 1)))), ((a 29), .inl (G.2.1 0, 40, .inl f44)), ((a 27), .inl (G.2.1 0, 40, .inl f39)), ((a 28), .inl (G.2.1 0, 40, .inl f40))] H := hP
        have hD : va_D A [(h0, .inr (9, fs)), ((a 31), .inl (G.2.1 3, 1600, .inl (upd f42 (Int32.toNatClampNeg 6) (vp_nar .boolean 1)))), ((a 29), .inl (G.2.1 0, 40, .inl f44)), ((a 27), .inl (G.2.1 0, 40, .inl f39)), ((a 28), .inl (G.2.1 0, 40, .inl f40))] := hD
        generalize (upd f42 (Int32.toNatClampNeg 6) (vp_nar .boolean 1)) = f52 at hP hD
        refine lv_aload_n hx hb dX12_findAbove_39 rfl (lv_at hl 2 rfl) ?_
        refine va_get (D := G.1) (ci := 9) (v := .ref (a 29)) (C := RX12) (T := TX12) (N := 134) hx hb hq pin_wsX120 hown hE.1.1 hP 0 rfl rfl 41 (by decide) (by rw [tFX12_41]; exact hq _ pw_207) (fun _ h9 => h9) hf_41 dX12_findAbove_40 ?_
        refine lv_iload_n hx hb dX12_findAbove_43 rfl (lv_at hl 0 rfl) ?_
        refine lv_iconst (v := 0) hx hb dX12_findAbove_44 (by decide) ?_
        refine va_iast hx hb hE.1.1 hP hD hS 2 0 rfl rfl (by unfold vp_in; decide) dX12_findAbove_45 (fun H locs hP hD hS => ?_)
        have hP : va_P G.1 pCl [(h0, .inr (9, fs)), ((a 31), .inl (G.2.1 3, 1600, .inl f52)), ((a 29), .inl (G.2.1 0, 40, .inl (upd f44 (Int32.toNatClampNeg 6) 0))), ((a 27), .inl (G.2.1 0, 40, .inl f39)), ((a 28), .inl (G.2.1 0, 40, .inl f40))] H := hP
        have hD : va_D A [(h0, .inr (9, fs)), ((a 31), .inl (G.2.1 3, 1600, .inl f52)), ((a 29), .inl (G.2.1 0, 40, .inl (upd f44 (Int32.toNatClampNeg 6) 0))), ((a 27), .inl (G.2.1 0, 40, .inl f39)), ((a 28), .inl (G.2.1 0, 40, .inl f40))] := hD
        generalize (upd f44 (Int32.toNatClampNeg 6) 0) = f53 at hP hD
        refine lv_aload_n hx hb dX12_findAbove_46 rfl (lv_at hl 2 rfl) ?_
        refine va_get (D := G.1) (ci := 9) (v := .ref (a 27)) (C := RX12) (T := TX12) (N := 134) hx hb hq pin_wsX120 hown hE.1.1 hP 0 rfl rfl 39 (by decide) (by rw [tFX12_39]; exact hq _ pw_205) (fun _ h9 => h9) hf_39 dX12_findAbove_47 ?_
        refine lv_iload_n hx hb dX12_findAbove_50 rfl (lv_at hl 0 rfl) ?_
        refine va_iald hx hb hE.1.1 hP 3 0 rfl rfl (by unfold vp_in; decide) dX12_findAbove_51 ?_
        refine lv_topi (fun x54 e55 => ?_)
        obtain rfl : x54 = (-1) := e55.trans (h39 6 (by decide))
        refine lv_istore_n (lv' := [(2, .int (-1)), (1, .int 6), (0, .ref h0)]) hx hb dX12_findAbove_52 rfl hl (by decide) rfl (fun ls hl => ?_)
        refine lv_iload_n hx hb dX12_findAbove_53 rfl (lv_at hl 0 rfl) ?_
        refine lv_iconst (v := (-1)) hx hb dX12_findAbove_54 (by decide) ?_
        refine lv_icmp_eq (tgt := 116) hx hb dX12_findAbove_55 (by decide) (fun c56 => ?_) (fun c56 => absurd c56 (by decide))
        refine lv_aload_n hx hb dX12_findAbove_116 rfl (lv_at hl 2 rfl) ?_
        refine va_get (D := G.1) (ci := 9) (v := .ref (a 28)) (C := RX12) (T := TX12) (N := 134) hx hb hq pin_wsX120 hown hE.1.1 hP 0 rfl rfl 40 (by decide) (by rw [tFX12_40]; exact hq _ pw_206) (fun _ h9 => h9) hf_40 dX12_findAbove_117 ?_
        refine lv_iload_n hx hb dX12_findAbove_120 rfl (lv_at hl 1 rfl) ?_
        refine va_iald hx hb hE.1.1 hP 4 0 rfl rfl (by unfold vp_in; decide) dX12_findAbove_121 ?_
        refine lv_topi (fun x57 e58 => ?_)
        obtain rfl : x57 = (-1) := e58.trans (h40 6 (by decide))
        refine lv_istore_n (lv' := [(2, .int (-1)), (1, .int 6), (0, .ref h0)]) hx hb dX12_findAbove_122 rfl hl (by decide) rfl (fun ls hl => ?_)
        refine lv_iload_n hx hb dX12_findAbove_123 rfl (lv_at hl 0 rfl) ?_
        refine lv_iconst (v := (-1)) hx hb dX12_findAbove_124 (by decide) ?_
        refine lv_icmp_eq (tgt := 164) hx hb dX12_findAbove_125 (by decide) (fun c59 => ?_) (fun c59 => absurd c59 (by decide))
        refine lv_iinc (v := 7) (lv' := [(1, .int 7), (2, .int (-1)), (0, .ref h0)]) hx hb dX12_findAbove_164 hl (k := 1) rfl (by decide) (by decide) rfl (fun ls hl => ?_)
        refine lv_goto (tgt := 24) hx hb dX12_findAbove_167 (by decide) ?_
        refine lv_iload_n hx hb dX12_findAbove_24 rfl (lv_at hl 0 rfl) ?_
        refine lv_aload_n hx hb dX12_findAbove_25 rfl (lv_at hl 2 rfl) ?_
        refine va_get (D := G.1) (ci := 9) (v := .int 7) (C := RX12) (T := TX12) (N := 134) hx hb hq pin_wsX120 hown hE.1.1 hP 0 rfl rfl 35 (by decide) (by rw [tFX12_35]; exact hq _ pw_277) (fun _ h9 => h9) hf_35 dX12_findAbove_26 ?_
        refine lv_icmp_ge (tgt := 170) hx hb dX12_findAbove_29 (by decide) (fun c60 => ?_) (fun c60 => absurd c60 (by decide))
        refine lv_iconst (v := 0) hx hb dX12_findAbove_170 (by decide) ?_
        refine lv_istore_n (lv' := [(1, .int 0), (2, .int (-1)), (0, .ref h0)]) hx hb dX12_findAbove_171 rfl hl (by decide) rfl (fun ls hl => ?_)
        have loop_k : ∀ (n_k k1 : Nat) (g1 : Nat → Int32) (H : Heap) (locs : List Loc) (ls : Array Slot), k1 ≤ 7 → 7 + 1 ≤ k1 + n_k → va_P G.1 pCl [(h0, .inr (9, fs)), ((a 31), .inl (G.2.1 3, 1600, .inl g1)), ((a 29), .inl (G.2.1 0, 40, .inl f53)), ((a 27), .inl (G.2.1 0, 40, .inl f39)), ((a 28), .inl (G.2.1 0, 40, .inl f40))] H → va_D A [(h0, .inr (9, fs)), ((a 31), .inl (G.2.1 3, 1600, .inl g1)), ((a 29), .inl (G.2.1 0, 40, .inl f53)), ((a 27), .inl (G.2.1 0, 40, .inl f39)), ((a 28), .inl (G.2.1 0, 40, .inl f40))] → va_S A s.heap H locs → lv_has ls 4 [(1, .int (nI k1)), (0, .ref h0)] → W p l e (headSpec (Cond.code yX12_findAbove cX12_findAbove 4 none :: pw) ({ frames := 2, cells := 0, slots := 0, locals := 60 } : Room)).room s m ([.ref h0] : List Value).toArray below meth c H locs 0 0 (MQ below (pQ G A (fun (v : Option Value) (u : Unit) => v = none) (fun u => [(h0, .inr (9, fs))])) ([.ref h0] : List Value).toArray s ({ frames := 2, cells := 0, slots := 0, locals := 60 } : Room).cells ({ frames := 2, cells := 0, slots := 0, locals := 60 } : Room).slots A) (F0 m 172 ls []) := by
          intro n_k
          induction n_k with
          | zero => intro k1 g1 H locs ls hk_k hn_k; omega
          | succ n_k ih_k =>
            intro k1 g1 H locs ls hk_k hn_k hP hD hS hl
            refine lv_iload_n hx hb dX12_findAbove_172 rfl (lv_at hl 0 rfl) ?_
            refine lv_aload_n hx hb dX12_findAbove_173 rfl (lv_at hl 1 rfl) ?_
            refine va_get (D := G.1) (ci := 9) (v := .int 7) (C := RX12) (T := TX12) (N := 134) hx hb hq pin_wsX120 hown hE.1.1 hP 0 rfl rfl 35 (by decide) (by rw [tFX12_35]; exact hq _ pw_277) (fun _ h9 => h9) hf_35 dX12_findAbove_174 ?_
            refine lv_icmp_ge (tgt := 258) hx hb dX12_findAbove_177 (by decide) (fun c61 => ?_) (fun c61 => ?_)
            · refine W.widen (k := 0) (n := 0) (Nat.le_of_ble_eq_true rfl) (Nat.le_of_ble_eq_true rfl) ?_
              exact W.vret hx hb hr (fun t ht hW => ⟨⟨_, (), rfl, rfl, by rw [ht]; exact hP.sub [0] rfl, hD.sub [0] (by decide) rfl⟩, hS.F ht⟩) hS.2.2 dX12_findAbove_258
            · have hlt_k1 : k1 < 7 := Nat.lt_of_not_le (fun h => c61 (nI_le (a := 7) h (by omega)))
              refine lv_iconst (v := 0) hx hb dX12_findAbove_180 (by decide) ?_
              refine lv_istore_n (lv' := [(2, .int 0), (1, .int (nI k1)), (0, .ref h0)]) hx hb dX12_findAbove_181 rfl hl (by decide) rfl (fun ls hl => ?_)
              have loop_a : ∀ (n_a k2 : Nat) (g2 : Nat → Int32) (H : Heap) (locs : List Loc) (ls : Array Slot), k2 ≤ 7 → 7 + 1 ≤ k2 + n_a → va_P G.1 pCl [(h0, .inr (9, fs)), ((a 31), .inl (G.2.1 3, 1600, .inl g2)), ((a 29), .inl (G.2.1 0, 40, .inl f53)), ((a 27), .inl (G.2.1 0, 40, .inl f39)), ((a 28), .inl (G.2.1 0, 40, .inl f40))] H → va_D A [(h0, .inr (9, fs)), ((a 31), .inl (G.2.1 3, 1600, .inl g2)), ((a 29), .inl (G.2.1 0, 40, .inl f53)), ((a 27), .inl (G.2.1 0, 40, .inl f39)), ((a 28), .inl (G.2.1 0, 40, .inl f40))] → va_S A s.heap H locs → lv_has ls 4 [(2, .int (nI k2)), (1, .int (nI k1)), (0, .ref h0)] → W p l e (headSpec (Cond.code yX12_findAbove cX12_findAbove 4 none :: pw) ({ frames := 2, cells := 0, slots := 0, locals := 60 } : Room)).room s m ([.ref h0] : List Value).toArray below meth c H locs 0 0 (MQ below (pQ G A (fun (v : Option Value) (u : Unit) => v = none) (fun u => [(h0, .inr (9, fs))])) ([.ref h0] : List Value).toArray s ({ frames := 2, cells := 0, slots := 0, locals := 60 } : Room).cells ({ frames := 2, cells := 0, slots := 0, locals := 60 } : Room).slots A) (F0 m 182 ls []) := by
                intro n_a
                induction n_a with
                | zero => intro k2 g2 H locs ls hk_a hn_a; omega
                | succ n_a ih_a =>
                  intro k2 g2 H locs ls hk_a hn_a hP hD hS hl
                  refine lv_iload_n hx hb dX12_findAbove_182 rfl (lv_at hl 0 rfl) ?_
                  refine lv_aload_n hx hb dX12_findAbove_183 rfl (lv_at hl 2 rfl) ?_
                  refine va_get (D := G.1) (ci := 9) (v := .int 7) (C := RX12) (T := TX12) (N := 134) hx hb hq pin_wsX120 hown hE.1.1 hP 0 rfl rfl 35 (by decide) (by rw [tFX12_35]; exact hq _ pw_277) (fun _ h9 => h9) hf_35 dX12_findAbove_184 ?_
                  refine lv_icmp_ge (tgt := 252) hx hb dX12_findAbove_187 (by decide) (fun c62 => ?_) (fun c62 => ?_)
                  · refine lv_iinc (v := (nI (k1 + 1))) (lv' := [(1, .int (nI (k1 + 1))), (2, .int (nI k2)), (0, .ref h0)]) hx hb dX12_findAbove_252 hl (k := 1) rfl (nI_1 k1) (by decide) rfl (fun ls hl => ?_)
                    refine lv_goto (tgt := 172) hx hb dX12_findAbove_255 (by decide) ?_
                    exact ih_k (k1 + 1) g2 _ _ _ (by omega) (by omega) hP hD hS (lv_sub hl [0, 2] rfl)
                  · have hlt_k2 : k2 < 7 := Nat.lt_of_not_le (fun h => c62 (nI_le (a := 7) h (by omega)))
                    refine lv_iconst (v := 0) hx hb dX12_findAbove_190 (by decide) ?_
                    refine lv_istore_n (lv' := [(3, .int 0), (2, .int (nI k2)), (1, .int (nI k1)), (0, .ref h0)]) hx hb dX12_findAbove_191 rfl hl (by decide) rfl (fun ls hl => ?_)
                    have loop_b : ∀ (n_b k3 : Nat) (g3 : Nat → Int32) (H : Heap) (locs : List Loc) (ls : Array Slot), k3 ≤ 7 → 7 + 1 ≤ k3 + n_b → va_P G.1 pCl [(h0, .inr (9, fs)), ((a 31), .inl (G.2.1 3, 1600, .inl g3)), ((a 29), .inl (G.2.1 0, 40, .inl f53)), ((a 27), .inl (G.2.1 0, 40, .inl f39)), ((a 28), .inl (G.2.1 0, 40, .inl f40))] H → va_D A [(h0, .inr (9, fs)), ((a 31), .inl (G.2.1 3, 1600, .inl g3)), ((a 29), .inl (G.2.1 0, 40, .inl f53)), ((a 27), .inl (G.2.1 0, 40, .inl f39)), ((a 28), .inl (G.2.1 0, 40, .inl f40))] → va_S A s.heap H locs → lv_has ls 4 [(3, .int (nI k3)), (2, .int (nI k2)), (1, .int (nI k1)), (0, .ref h0)] → W p l e (headSpec (Cond.code yX12_findAbove cX12_findAbove 4 none :: pw) ({ frames := 2, cells := 0, slots := 0, locals := 60 } : Room)).room s m ([.ref h0] : List Value).toArray below meth c H locs 0 0 (MQ below (pQ G A (fun (v : Option Value) (u : Unit) => v = none) (fun u => [(h0, .inr (9, fs))])) ([.ref h0] : List Value).toArray s ({ frames := 2, cells := 0, slots := 0, locals := 60 } : Room).cells ({ frames := 2, cells := 0, slots := 0, locals := 60 } : Room).slots A) (F0 m 192 ls []) := by
                      intro n_b
                      induction n_b with
                      | zero => intro k3 g3 H locs ls hk_b hn_b; omega
                      | succ n_b ih_b =>
                        intro k3 g3 H locs ls hk_b hn_b hP hD hS hl
                        refine lv_iload_n hx hb dX12_findAbove_192 rfl (lv_at hl 0 rfl) ?_
                        refine lv_aload_n hx hb dX12_findAbove_193 rfl (lv_at hl 3 rfl) ?_
                        refine va_get (D := G.1) (ci := 9) (v := .int 7) (C := RX12) (T := TX12) (N := 134) hx hb hq pin_wsX120 hown hE.1.1 hP 0 rfl rfl 35 (by decide) (by rw [tFX12_35]; exact hq _ pw_277) (fun _ h9 => h9) hf_35 dX12_findAbove_194 ?_
                        refine lv_icmp_ge (tgt := 246) hx hb dX12_findAbove_197 (by decide) (fun c63 => ?_) (fun c63 => ?_)
                        · refine lv_iinc (v := (nI (k2 + 1))) (lv' := [(2, .int (nI (k2 + 1))), (3, .int (nI k3)), (1, .int (nI k1)), (0, .ref h0)]) hx hb dX12_findAbove_246 hl (k := 1) rfl (nI_1 k2) (by decide) rfl (fun ls hl => ?_)
                          refine lv_goto (tgt := 182) hx hb dX12_findAbove_249 (by decide) ?_
                          exact ih_a (k2 + 1) g3 _ _ _ (by omega) (by omega) hP hD hS (lv_sub hl [0, 2, 3] rfl)
                        · have hlt_k3 : k3 < 7 := Nat.lt_of_not_le (fun h => c63 (nI_le (a := 7) h (by omega)))
                          refine lv_aload_n hx hb dX12_findAbove_200 rfl (lv_at hl 3 rfl) ?_
                          refine va_get (D := G.1) (ci := 9) (v := .ref (a 31)) (C := RX12) (T := TX12) (N := 134) hx hb hq pin_wsX120 hown hE.1.1 hP 0 rfl rfl 43 (by decide) (by rw [tFX12_43]; exact hq _ pw_209) (fun _ h9 => h9) hf_43 dX12_findAbove_201 ?_
                          refine lv_bipush (v := 40) hx hb dX12_findAbove_204 (by decide) ?_
                          refine lv_iload_n hx hb dX12_findAbove_206 rfl (lv_at hl 1 rfl) ?_
                          refine lv_imul hx hb dX12_findAbove_207 ?_
                          refine lv_topi (fun x64 e65 => ?_)
                          obtain rfl : x64 = nI (40 * k2) := e65.trans (nI_mulN (40) (k2))
                          refine lv_iload_n hx hb dX12_findAbove_208 rfl (lv_at hl 2 rfl) ?_
                          refine lv_iadd hx hb dX12_findAbove_209 ?_
                          refine lv_topi (fun x66 e67 => ?_)
                          obtain rfl : x66 = nI ((40 * k2) + k1) := e67.trans (nI_add ((40 * k2)) (k1))
                          refine va_zald hx hb hE.1.1 hP 1 3 rfl rfl (vp_in_nI (by omega) (by decide)) dX12_findAbove_210 ?_
                          refine lv_topi (fun x68 e69 => ?_)
                          refine lv_if_eq (tgt := 240) hx hb dX12_findAbove_211 (by decide) (fun c70 => ?_) (fun c70 => ?_)
                          · refine lv_iinc (v := (nI (k3 + 1))) (lv' := [(3, .int (nI (k3 + 1))), (2, .int (nI k2)), (1, .int (nI k1)), (0, .ref h0)]) hx hb dX12_findAbove_240 hl (k := 0) rfl (nI_1 k3) (by decide) rfl (fun ls hl => ?_)
                            refine lv_goto (tgt := 192) hx hb dX12_findAbove_243 (by decide) ?_
                            exact ih_b (k3 + 1) g3 _ _ _ (by omega) (by omega) hP hD hS (lv_sub hl [0, 1, 2, 3] rfl)
                          · refine lv_aload_n hx hb dX12_findAbove_214 rfl (lv_at hl 3 rfl) ?_
                            refine va_get (D := G.1) (ci := 9) (v := .ref (a 31)) (C := RX12) (T := TX12) (N := 134) hx hb hq pin_wsX120 hown hE.1.1 hP 0 rfl rfl 43 (by decide) (by rw [tFX12_43]; exact hq _ pw_209) (fun _ h9 => h9) hf_43 dX12_findAbove_215 ?_
                            refine lv_bipush (v := 40) hx hb dX12_findAbove_218 (by decide) ?_
                            refine lv_iload_n hx hb dX12_findAbove_220 rfl (lv_at hl 2 rfl) ?_
                            refine lv_imul hx hb dX12_findAbove_221 ?_
                            refine lv_topi (fun x71 e72 => ?_)
                            obtain rfl : x71 = nI (40 * k1) := e72.trans (nI_mulN (40) (k1))
                            refine lv_iload_n hx hb dX12_findAbove_222 rfl (lv_at hl 0 rfl) ?_
                            refine lv_iadd hx hb dX12_findAbove_223 ?_
                            refine lv_topi (fun x73 e74 => ?_)
                            obtain rfl : x73 = nI ((40 * k1) + k3) := e74.trans (nI_add ((40 * k1)) (k3))
                            refine va_zald hx hb hE.1.1 hP 1 3 rfl rfl (vp_in_nI (by omega) (by decide)) dX12_findAbove_224 ?_
                            refine lv_topi (fun x75 e76 => ?_)
                            refine lv_if_eq (tgt := 240) hx hb dX12_findAbove_225 (by decide) (fun c77 => ?_) (fun c77 => ?_)
                            · refine lv_iinc (v := (nI (k3 + 1))) (lv' := [(3, .int (nI (k3 + 1))), (2, .int (nI k2)), (1, .int (nI k1)), (0, .ref h0)]) hx hb dX12_findAbove_240 hl (k := 0) rfl (nI_1 k3) (by decide) rfl (fun ls hl => ?_)
                              refine lv_goto (tgt := 192) hx hb dX12_findAbove_243 (by decide) ?_
                              exact ih_b (k3 + 1) g3 _ _ _ (by omega) (by omega) hP hD hS (lv_sub hl [0, 1, 2, 3] rfl)
                            · refine lv_aload_n hx hb dX12_findAbove_228 rfl (lv_at hl 3 rfl) ?_
                              refine va_get (D := G.1) (ci := 9) (v := .ref (a 31)) (C := RX12) (T := TX12) (N := 134) hx hb hq pin_wsX120 hown hE.1.1 hP 0 rfl rfl 43 (by decide) (by rw [tFX12_43]; exact hq _ pw_209) (fun _ h9 => h9) hf_43 dX12_findAbove_229 ?_
                              refine lv_bipush (v := 40) hx hb dX12_findAbove_232 (by decide) ?_
                              refine lv_iload_n hx hb dX12_findAbove_234 rfl (lv_at hl 1 rfl) ?_
                              refine lv_imul hx hb dX12_findAbove_235 ?_
                              refine lv_topi (fun x78 e79 => ?_)
                              obtain rfl : x78 = nI (40 * k2) := e79.trans (nI_mulN (40) (k2))
                              refine lv_iload_n hx hb dX12_findAbove_236 rfl (lv_at hl 0 rfl) ?_
                              refine lv_iadd hx hb dX12_findAbove_237 ?_
                              refine lv_topi (fun x80 e81 => ?_)
                              obtain rfl : x80 = nI ((40 * k2) + k3) := e81.trans (nI_add ((40 * k2)) (k3))
                              refine lv_iconst (v := 1) hx hb dX12_findAbove_238 (by decide) ?_
                              refine va_zast hx hb hE.1.1 hP hD hS 1 3 rfl rfl (vp_in_nI (by omega) (by decide)) dX12_findAbove_239 (fun H locs hP hD hS => ?_)
                              have hP : va_P G.1 pCl [(h0, .inr (9, fs)), ((a 31), .inl (G.2.1 3, 1600, .inl (upd g3 (Int32.toNatClampNeg (nI ((40 * k2) + k3))) (vp_nar .boolean 1)))), ((a 29), .inl (G.2.1 0, 40, .inl f53)), ((a 27), .inl (G.2.1 0, 40, .inl f39)), ((a 28), .inl (G.2.1 0, 40, .inl f40))] H := hP
                              have hD : va_D A [(h0, .inr (9, fs)), ((a 31), .inl (G.2.1 3, 1600, .inl (upd g3 (Int32.toNatClampNeg (nI ((40 * k2) + k3))) (vp_nar .boolean 1)))), ((a 29), .inl (G.2.1 0, 40, .inl f53)), ((a 27), .inl (G.2.1 0, 40, .inl f39)), ((a 28), .inl (G.2.1 0, 40, .inl f40))] := hD
                              generalize (upd g3 (Int32.toNatClampNeg (nI ((40 * k2) + k3))) (vp_nar .boolean 1)) = f82 at hP hD
                              refine lv_iinc (v := (nI (k3 + 1))) (lv' := [(3, .int (nI (k3 + 1))), (2, .int (nI k2)), (1, .int (nI k1)), (0, .ref h0)]) hx hb dX12_findAbove_240 hl (k := 0) rfl (nI_1 k3) (by decide) rfl (fun ls hl => ?_)
                              refine lv_goto (tgt := 192) hx hb dX12_findAbove_243 (by decide) ?_
                              exact ih_b (k3 + 1) f82 _ _ _ (by omega) (by omega) hP hD hS (lv_sub hl [0, 1, 2, 3] rfl)
                    exact loop_b (7 + 1) 0 g2 _ _ _ (by omega) (by omega) hP hD hS (lv_sub hl [0, 1, 2, 3] rfl)
              exact loop_a (7 + 1) 0 g1 _ _ _ (by omega) (by omega) hP hD hS (lv_sub hl [0, 1, 2] rfl)
        exact loop_k (7 + 1) 0 f52 _ _ _ (by omega) (by omega) hP hD hS (lv_sub hl [0, 2] rfl)
      · have hlt : k < 1600 := Nat.lt_of_not_le (fun h => c1 (nI_le (a := 1600) h (by omega)))
        refine lv_aload_n hx hb dX12_findAbove_9 rfl (lv_at hl 1 rfl) ?_
        refine va_get (D := G.1) (ci := 9) (v := .ref (a 31)) (C := RX12) (T := TX12) (N := 134) hx hb hq pin_wsX120 hown hE.1.1 hP 0 rfl rfl 43 (by decide) (by rw [tFX12_43]; exact hq _ pw_209) (fun _ h9 => h9) hf_43 dX12_findAbove_10 ?_
        refine lv_iload_n hx hb dX12_findAbove_13 rfl (lv_at hl 0 rfl) ?_
        refine lv_iconst (v := 0) hx hb dX12_findAbove_14 (by decide) ?_
        refine va_zast hx hb hE.1.1 hP hD hS 1 3 rfl rfl (vp_in_nI hlt (by decide)) dX12_findAbove_15 (fun H locs hP hD hS => ?_)
        have hP : va_P G.1 pCl [(h0, .inr (9, fs)), ((a 31), .inl (G.2.1 3, 1600, .inl (upd g (Int32.toNatClampNeg (nI k)) (vp_nar .boolean 0)))), ((a 29), .inl (G.2.1 0, 40, .inl f41)), ((a 27), .inl (G.2.1 0, 40, .inl f39)), ((a 28), .inl (G.2.1 0, 40, .inl f40))] H := hP
        have hD : va_D A [(h0, .inr (9, fs)), ((a 31), .inl (G.2.1 3, 1600, .inl (upd g (Int32.toNatClampNeg (nI k)) (vp_nar .boolean 0)))), ((a 29), .inl (G.2.1 0, 40, .inl f41)), ((a 27), .inl (G.2.1 0, 40, .inl f39)), ((a 28), .inl (G.2.1 0, 40, .inl f40))] := hD
        generalize (upd g (Int32.toNatClampNeg (nI k)) (vp_nar .boolean 0)) = f83 at hP hD
        refine lv_iinc (v := (nI (k + 1))) (lv' := [(1, .int (nI (k + 1))), (0, .ref h0)]) hx hb dX12_findAbove_16 hl (k := 0) rfl (nI_1 k) (by decide) rfl (fun ls hl => ?_)
        refine lv_goto (tgt := 2) hx hb dX12_findAbove_19 (by decide) ?_
        exact ih_z (k + 1) f83 _ _ _ (by omega) (by omega) hP hD hS (lv_sub hl [0, 1] rfl)
  exact loop_z (1600 + 1) 0 f43 _ _ _ (by omega) (by omega) hP hD hS (lv_sub hl [0, 1] rfl)
