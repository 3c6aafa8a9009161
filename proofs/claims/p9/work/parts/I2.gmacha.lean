theorem dX5_work_0 : decode cX5_work 0 = .ok (.iconst 0, 1) := by decide +kernel
theorem dX5_work_1 : decode cX5_work 1 = .ok (.istore_n 1, 1) := by decide +kernel
theorem dX5_work_2 : decode cX5_work 2 = .ok (.iload_n 1, 1) := by decide +kernel
theorem dX5_work_3 : decode cX5_work 3 = .ok (.ldc 135, 2) := by decide +kernel
theorem dX5_work_5 : decode cX5_work 5 = .ok (.if_icmp .ge 148, 3) := by decide +kernel
theorem dX5_work_153 : decode cX5_work 153 = .ok (.aload_n 0, 1) := by decide +kernel
theorem dX5_work_154 : decode cX5_work 154 = .ok (.getfield 116, 3) := by decide +kernel
theorem dX5_work_157 : decode cX5_work 157 = .ok (.iconst 5, 1) := by decide +kernel
theorem dX5_work_158 : decode cX5_work 158 = .ok (.if_icmp .ne 7, 3) := by decide +kernel
theorem dX5_work_165 : decode cX5_work 165 = .ok (.aload_n 0, 1) := by decide +kernel
theorem dX5_work_166 : decode cX5_work 166 = .ok (.getfield 116, 3) := by decide +kernel
theorem dX5_work_169 : decode cX5_work 169 = .ok (.ireturn, 1) := by decide +kernel
theorem dX5_work_161 : decode cX5_work 161 = .ok (.aload_n 0, 1) := by decide +kernel
theorem dX5_work_162 : decode cX5_work 162 = .ok (.invokevirtual 160, 3) := by decide +kernel
theorem dX5_work_8 : decode cX5_work 8 = .ok (.aload_n 0, 1) := by decide +kernel
theorem dX5_work_9 : decode cX5_work 9 = .ok (.getfield 116, 3) := by decide +kernel
theorem dX5_work_12 : decode cX5_work 12 = .ok (.iconst 5, 1) := by decide +kernel
theorem dX5_work_13 : decode cX5_work 13 = .ok (.if_icmp .ne 140, 3) := by decide +kernel
theorem dX5_work_16 : decode cX5_work 16 = .ok (.aload_n 0, 1) := by decide +kernel
theorem dX5_work_17 : decode cX5_work 17 = .ok (.aload_n 0, 1) := by decide +kernel
theorem dX5_work_18 : decode cX5_work 18 = .ok (.getfield 106, 3) := by decide +kernel
theorem dX5_work_21 : decode cX5_work 21 = .ok (.iconst 1, 1) := by decide +kernel
theorem dX5_work_22 : decode cX5_work 22 = .ok (.iadd, 1) := by decide +kernel
theorem dX5_work_23 : decode cX5_work 23 = .ok (.putfield 132, 3) := by decide +kernel
theorem dX5_work_26 : decode cX5_work 26 = .ok (.aload_n 0, 1) := by decide +kernel
theorem dX5_work_27 : decode cX5_work 27 = .ok (.getfield 11, 3) := by decide +kernel
theorem dX5_work_30 : decode cX5_work 30 = .ok (.aload_n 0, 1) := by decide +kernel
theorem dX5_work_31 : decode cX5_work 31 = .ok (.getfield 106, 3) := by decide +kernel
theorem dX5_work_34 : decode cX5_work 34 = .ok (.invokevirtual 136, 3) := by decide +kernel
theorem dX5_work_37 : decode cX5_work 37 = .ok (.istore_n 2, 1) := by decide +kernel
theorem dX5_work_38 : decode cX5_work 38 = .ok (.iload_n 2, 1) := by decide +kernel
theorem dX5_work_39 : decode cX5_work 39 = .ok (.bipush 14, 2) := by decide +kernel
theorem dX5_work_41 : decode cX5_work 41 = .ok (.if_icmp .ge 22, 3) := by decide +kernel
theorem dX5_work_63 : decode cX5_work 63 = .ok (.iload_n 2, 1) := by decide +kernel
theorem dX5_work_64 : decode cX5_work 64 = .ok (.bipush 26, 2) := by decide +kernel
theorem dX5_work_66 : decode cX5_work 66 = .ok (.if_icmp .ge 33, 3) := by decide +kernel
theorem dX5_work_99 : decode cX5_work 99 = .ok (.aload_n 0, 1) := by decide +kernel
theorem dX5_work_100 : decode cX5_work 100 = .ok (.iload_n 2, 1) := by decide +kernel
theorem dX5_work_101 : decode cX5_work 101 = .ok (.aload_n 0, 1) := by decide +kernel
theorem dX5_work_102 : decode cX5_work 102 = .ok (.getfield 11, 3) := by decide +kernel
theorem dX5_work_105 : decode cX5_work 105 = .ok (.aload_n 0, 1) := by decide +kernel
theorem dX5_work_106 : decode cX5_work 106 = .ok (.getfield 106, 3) := by decide +kernel
theorem dX5_work_109 : decode cX5_work 109 = .ok (.invokevirtual 141, 3) := by decide +kernel
theorem dX5_work_112 : decode cX5_work 112 = .ok (.aload_n 0, 1) := by decide +kernel
theorem dX5_work_113 : decode cX5_work 113 = .ok (.getfield 11, 3) := by decide +kernel
theorem dX5_work_116 : decode cX5_work 116 = .ok (.aload_n 0, 1) := by decide +kernel
theorem dX5_work_117 : decode cX5_work 117 = .ok (.getfield 106, 3) := by decide +kernel
theorem dX5_work_120 : decode cX5_work 120 = .ok (.invokevirtual 147, 3) := by decide +kernel
theorem dX5_work_123 : decode cX5_work 123 = .ok (.invokevirtual 154, 3) := by decide +kernel
theorem dX5_work_126 : decode cX5_work 126 = .ok (.aload_n 0, 1) := by decide +kernel
theorem dX5_work_127 : decode cX5_work 127 = .ok (.getfield 43, 3) := by decide +kernel
theorem dX5_work_130 : decode cX5_work 130 = .ok (.lconst 0, 1) := by decide +kernel
theorem dX5_work_131 : decode cX5_work 131 = .ok (.lcmp, 1) := by decide +kernel
theorem dX5_work_132 : decode cX5_work 132 = .ok (.ifCond .eq 7, 3) := by decide +kernel
theorem dX5_work_139 : decode cX5_work 139 = .ok (.aload_n 0, 1) := by decide +kernel
theorem dX5_work_140 : decode cX5_work 140 = .ok (.aload_n 0, 1) := by decide +kernel
theorem dX5_work_141 : decode cX5_work 141 = .ok (.getfield 132, 3) := by decide +kernel
theorem dX5_work_144 : decode cX5_work 144 = .ok (.putfield 106, 3) := by decide +kernel
theorem dX5_work_147 : decode cX5_work 147 = .ok (.iinc 1 1, 3) := by decide +kernel
theorem dX5_work_150 : decode cX5_work 150 = .ok (.goto (-148), 3) := by decide +kernel
theorem dX5_work_135 : decode cX5_work 135 = .ok (.aload_n 0, 1) := by decide +kernel
theorem dX5_work_136 : decode cX5_work 136 = .ok (.invokevirtual 157, 3) := by decide +kernel
theorem dX5_work_69 : decode cX5_work 69 = .ok (.aload_n 0, 1) := by decide +kernel
theorem dX5_work_70 : decode cX5_work 70 = .ok (.iload_n 2, 1) := by decide +kernel
theorem dX5_work_71 : decode cX5_work 71 = .ok (.aload_n 0, 1) := by decide +kernel
theorem dX5_work_72 : decode cX5_work 72 = .ok (.getfield 11, 3) := by decide +kernel
theorem dX5_work_75 : decode cX5_work 75 = .ok (.aload_n 0, 1) := by decide +kernel
theorem dX5_work_76 : decode cX5_work 76 = .ok (.getfield 106, 3) := by decide +kernel
theorem dX5_work_79 : decode cX5_work 79 = .ok (.invokevirtual 141, 3) := by decide +kernel
theorem dX5_work_82 : decode cX5_work 82 = .ok (.aload_n 0, 1) := by decide +kernel
theorem dX5_work_83 : decode cX5_work 83 = .ok (.getfield 11, 3) := by decide +kernel
theorem dX5_work_86 : decode cX5_work 86 = .ok (.aload_n 0, 1) := by decide +kernel
theorem dX5_work_87 : decode cX5_work 87 = .ok (.getfield 106, 3) := by decide +kernel
theorem dX5_work_90 : decode cX5_work 90 = .ok (.invokevirtual 147, 3) := by decide +kernel
theorem dX5_work_93 : decode cX5_work 93 = .ok (.invokevirtual 150, 3) := by decide +kernel
theorem dX5_work_96 : decode cX5_work 96 = .ok (.goto 30, 3) := by decide +kernel
theorem dX5_work_44 : decode cX5_work 44 = .ok (.aload_n 0, 1) := by decide +kernel
theorem dX5_work_45 : decode cX5_work 45 = .ok (.iload_n 2, 1) := by decide +kernel
theorem dX5_work_46 : decode cX5_work 46 = .ok (.aload_n 0, 1) := by decide +kernel
theorem dX5_work_47 : decode cX5_work 47 = .ok (.getfield 11, 3) := by decide +kernel
theorem dX5_work_50 : decode cX5_work 50 = .ok (.aload_n 0, 1) := by decide +kernel
theorem dX5_work_51 : decode cX5_work 51 = .ok (.getfield 106, 3) := by decide +kernel
theorem dX5_work_54 : decode cX5_work 54 = .ok (.invokevirtual 141, 3) := by decide +kernel
theorem dX5_work_57 : decode cX5_work 57 = .ok (.invokevirtual 144, 3) := by decide +kernel
theorem dX5_work_60 : decode cX5_work 60 = .ok (.goto 66, 3) := by decide +kernel
theorem hV_X1_operation : yX1_operation.cls = RX1 ∧ yX1_operation.cls ≠ "java/lang/invoke/MethodHandle" ∧ yX1_operation.cls ≠ "java/lang/invoke/VarHandle" ∧ (parseMethodDescriptor yX1_operation.desc).map (fun d => d.parameters.length) = some 1 := by decide +kernel
theorem hV_X1_left : yX1_left.cls = RX1 ∧ yX1_left.cls ≠ "java/lang/invoke/MethodHandle" ∧ yX1_left.cls ≠ "java/lang/invoke/VarHandle" ∧ (parseMethodDescriptor yX1_left.desc).map (fun d => d.parameters.length) = some 1 := by decide +kernel
theorem hV_X1_right : yX1_right.cls = RX1 ∧ yX1_right.cls ≠ "java/lang/invoke/MethodHandle" ∧ yX1_right.cls ≠ "java/lang/invoke/VarHandle" ∧ (parseMethodDescriptor yX1_right.desc).map (fun d => d.parameters.length) = some 1 := by decide +kernel
theorem hV_X5_stepOut : yX5_stepOut.cls = RX5 ∧ yX5_stepOut.cls ≠ "java/lang/invoke/MethodHandle" ∧ yX5_stepOut.cls ≠ "java/lang/invoke/VarHandle" ∧ (parseMethodDescriptor yX5_stepOut.desc).map (fun d => d.parameters.length) = some 3 := by decide +kernel
theorem hV_X5_goOutward : yX5_goOutward.cls = RX5 ∧ yX5_goOutward.cls ≠ "java/lang/invoke/MethodHandle" ∧ yX5_goOutward.cls ≠ "java/lang/invoke/VarHandle" ∧ (parseMethodDescriptor yX5_goOutward.desc).map (fun d => d.parameters.length) = some 0 := by decide +kernel
theorem hV_X5_stepAmongThings : yX5_stepAmongThings.cls = RX5 ∧ yX5_stepAmongThings.cls ≠ "java/lang/invoke/MethodHandle" ∧ yX5_stepAmongThings.cls ≠ "java/lang/invoke/VarHandle" ∧ (parseMethodDescriptor yX5_stepAmongThings.desc).map (fun d => d.parameters.length) = some 3 := by decide +kernel
theorem hV_X5_step : yX5_step.cls = RX5 ∧ yX5_step.cls ≠ "java/lang/invoke/MethodHandle" ∧ yX5_step.cls ≠ "java/lang/invoke/VarHandle" ∧ (parseMethodDescriptor yX5_step.desc).map (fun d => d.parameters.length) = some 2 := by decide +kernel
set_option maxHeartbeats 80000000 in
set_option maxRecDepth 100000 in
theorem M_work (l : Launch) (G : pT) (h0 : Nat) (a : Nat → Nat) (F : Nat → Int32) (R : Nat → Value) (Z : Int64) (B : Nat → Nat → Int32) (J : Nat → Nat → Int64) (K : PK) (w : va_W) (tp : Nat) (sp : Nat) (op : Nat) (ht : Nat) (pq : Nat) (dr : Nat) (ml : Nat) (nd : Nat) (nm : Nat) (cp : Nat) (it : Nat → Nat) (s9 : Nat) (g : Nat → Nat → Nat) (rk : Nat → Nat) (ba : Nat) (on : Nat) (mo : Option Nat) (cs : Nat) (rg : Nat) (htp : tp ≤ 32000) (hsp : (sp = 34 ∧ op = 35) ∨ (sp = 35 ∧ op = 34)) (hht : 8 ≤ ht ∧ ht ≤ 3008) (hwp : WPr G K g) (hps : PgT G K g (a 1) pq dr ml nd nm cp it s9) (hrk : RkO K rk) (hba : ba ≤ 32000) (hon : on ≤ 100) (hms : MsO K mo ba) (hfr : FrO K nm it (B 30) on) (hcs : cs ≤ 10000) (hrg : rg ≤ 625) (hng : Nng (B 18)) (hO : OKP G h0 a (upd (upd (upd (upd (upd (upd F 5 (nI cs)) 6 (nI rg)) 18 (nI ba)) 19 (nI tp)) 22 (nI on)) 26 (nI ht)) (updR (updR (updR (updR R 5 (.ref pq)) 6 (va_rf mo)) 7 (.ref (a sp))) 8 (.ref (a op))) Z B J K w) : PM l G pX0 yX5_work cX5_work 3 (some .int) ({ frames := 11, cells := 0, slots := 0, locals := 259 }) [.ref (a 5)] w (fun (v : Option Value) (u : va_W × (Int32 × Nat × Int32 × Int32 × Int32 × Int32 × Int32 × (Nat → Nat → Int64) × Int64 × (Nat → Int32) × (Nat → Int32) × Nat × Nat × Nat × Int32 × Nat × Nat × Option Nat × (Nat → Int32))) => v = some (.int u.2.1) ∧ (u.2.2.1 ≤ 32000) ∧ (8 ≤ u.2.2.2.2.2.2.2.2.2.2.2.2.2.2.1 ∧ u.2.2.2.2.2.2.2.2.2.2.2.2.2.2.1 ≤ 3008) ∧ ((u.2.2.2.2.2.2.2.2.2.2.2.2.1 = 34 ∧ u.2.2.2.2.2.2.2.2.2.2.2.2.2.1 = 35) ∨ (u.2.2.2.2.2.2.2.2.2.2.2.2.1 = 35 ∧ u.2.2.2.2.2.2.2.2.2.2.2.2.2.1 = 34)) ∧ (u.2.2.2.2.2.2.2.2.2.2.2.2.2.2.2.2.1 ≤ 32000 ∧ u.2.2.2.2.2.2.2.2.2.2.2.2.2.2.2.2.2.1 ≤ 100) ∧ (MsO K u.2.2.2.2.2.2.2.2.2.2.2.2.2.2.2.2.2.2.1 u.2.2.2.2.2.2.2.2.2.2.2.2.2.2.2.2.1) ∧ (FrO K nm it u.2.2.2.2.2.2.2.2.2.2.2.2.2.2.2.2.2.2.2 u.2.2.2.2.2.2.2.2.2.2.2.2.2.2.2.2.2.1) ∧ (OKP G h0 a (upd (upd (upd (upd (upd (upd (upd (upd (upd (upd (upd (upd F 5 (nI cs)) 6 (nI rg)) 18 (nI u.2.2.2.2.2.2.2.2.2.2.2.2.2.2.2.2.1)) 19 (nI u.2.2.1)) 20 u.2.2.2.2.2.2.1) 21 u.2.2.2.2.2.1) 22 (nI u.2.2.2.2.2.2.2.2.2.2.2.2.2.2.2.2.2.1)) 23 u.2.2.2.1) 24 u.2.2.2.2.2.2.2.1) 25 u.2.2.2.2.1) 26 (nI u.2.2.2.2.2.2.2.2.2.2.2.2.2.2.1)) 27 u.2.2.2.2.2.2.2.2.2.2.2.2.2.2.2.1) (updR (updR (updR (updR R 5 (.ref pq)) 6 (va_rf u.2.2.2.2.2.2.2.2.2.2.2.2.2.2.2.2.2.2.1)) 7 (.ref (a u.2.2.2.2.2.2.2.2.2.2.2.2.1))) 8 (.ref (a u.2.2.2.2.2.2.2.2.2.2.2.2.2.1))) u.2.2.2.2.2.2.2.2.2.1 (updA (updA (updA B 30 u.2.2.2.2.2.2.2.2.2.2.2.2.2.2.2.2.2.2.2) 32 u.2.2.2.2.2.2.2.2.2.2.2.1) 33 u.2.2.2.2.2.2.2.2.2.2.1) u.2.2.2.2.2.2.2.2.1 K u.1)) (fun u => u.1) := by
  intro sz
  refine Met.ofW (cc := cX5_work) (maxL := 3) (ret := (some .int)) (by decide) rfl ?_
  intro p e s m args below meth c s₁ B9 hml hv
  obtain ⟨rfl, hsz, hP, hD0, hE, hX⟩ := hv
  have hx := B9.exec
  have hb := B9.bytes
  have hr := B9.returns
  have hts := atoms_spec (ws := Cond.code yX5_work cX5_work 3 (some .int) :: pw) B9.pre
  have hq : ∀ w ∈ pw, w.before _ s = true := fun w h => hts w (List.mem_cons_of_mem _ h)
  have hown : s.vm.findClass RX5 = some m.cls := findClass_of_methodNamed B9.named
  have hlocks := B9.notSynchronized
  subst hsz
  have hD := hD0.self (sz := s.heap.size)
  have hA : ∀ q : Nat, s.heap.size ≤ q → va_A w s.heap.size q := fun q h => Or.inr h
  generalize va_A w s.heap.size = A at hD hE hA ⊢
  have hS : va_S A s.heap s.heap [] := va_S.rf
  have hl := lv_entry ([.ref (a 5)]) (n := 3) (Nat.le_of_ble_eq_true rfl)
  rw [lg_entry_eq]
  generalize (lg_sl ([.ref (a 5)]) ++ List.replicate (3 - (lg_sl ([.ref (a 5)])).length) Slot.unset).toArray = ls at hl ⊢
  have hl : lv_has ls 3 [(0, .ref (a 5))] := hl
  have hpg := hps.1
  have hp1 := hpg.1
  have hp2 := hpg.2.1
  have hp3 := hpg.2.2.1
  have hp4 := hpg.2.2.2.1
  have hp5 := hpg.2.2.2.2.1
  have hp6 := hpg.2.2.2.2.2.1
  have hp8 := hpg.2.2.2.2.2.2.2.1
  have hp9 := hpg.2.2.2.2.2.2.2.2
  refine lv_iconst (v := 0) hx hb dX5_work_0 (by decide) ?_
  refine lv_istore_n (lv' := [(1, .int 0), (0, .ref (a 5))]) hx hb dX5_work_1 rfl hl (by decide) rfl (fun ls hl => ?_)
  have loop_w : ∀ (n_w : Nat) (i2 : Nat) (tp2 : Nat) (ba2 : Nat) (on2 : Nat) (sp2 : Nat) (op2 : Nat) (ht2 : Nat) (ot2 : Int32) (en2 : Int32) (rf2 : Int32) (nx2 : Int32) (pc2 : Int32) (rs2 : Int32) (mo2 : Option Nat) (f2 : Nat → Int32) (ta2 : Nat → Int32) (ou2 : Nat → Int32) (z2 : Int64) (J2 : Nat → Nat → Int64) (H : Heap) (locs : List Loc) (ls : Array Slot) (w : va_W), i2 ≤ 400000000 → 400000000 + 1 ≤ i2 + n_w → (ba2 ≤ 32000 ∧ on2 ≤ 100 ∧ tp2 ≤ 32000) → (8 ≤ ht2 ∧ ht2 ≤ 3008) → ((sp2 = 34 ∧ op2 = 35) ∨ (sp2 = 35 ∧ op2 = 34)) → (MsO K mo2 ba2) → (FrO K nm it f2 on2) → va_P G.1 pCl w H → va_D A w → va_S A s.heap H locs → OKP G h0 a (upd (upd (upd (upd (upd (upd (upd (upd (upd (upd (upd (upd F 5 (nI cs)) 6 (nI rg)) 18 (nI ba2)) 19 (nI tp2)) 20 pc2) 21 nx2) 22 (nI on2)) 23 en2) 24 rs2) 25 rf2) 26 (nI ht2)) 27 ot2) (updR (updR (updR (updR R 5 (.ref pq)) 6 (va_rf mo2)) 7 (.ref (a sp2))) 8 (.ref (a op2))) z2 (updA (updA (updA B 30 f2) 32 ou2) 33 ta2) J2 K w → lv_has ls 3 [(1, .int (nI i2)), (0, .ref (a 5))] → W p l e (headSpec (Cond.code yX5_work cX5_work 3 (some .int) :: pw) ({ frames := 11, cells := 0, slots := 0, locals := 259 } : Room)).room s m ([.ref (a 5)] : List Value).toArray below meth c H locs 0 0 (MQ below (pQ G A (fun (v : Option Value) (u : va_W × (Int32 × Nat × Int32 × Int32 × Int32 × Int32 × Int32 × (Nat → Nat → Int64) × Int64 × (Nat → Int32) × (Nat → Int32) × Nat × Nat × Nat × Int32 × Nat × Nat × Option Nat × (Nat → Int32))) => v = some (.int u.2.1) ∧ (u.2.2.1 ≤ 32000) ∧ (8 ≤ u.2.2.2.2.2.2.2.2.2.2.2.2.2.2.1 ∧ u.2.2.2.2.2.2.2.2.2.2.2.2.2.2.1 ≤ 3008) ∧ ((u.2.2.2.2.2.2.2.2.2.2.2.2.1 = 34 ∧ u.2.2.2.2.2.2.2.2.2.2.2.2.2.1 = 35) ∨ (u.2.2.2.2.2.2.2.2.2.2.2.2.1 = 35 ∧ u.2.2.2.2.2.2.2.2.2.2.2.2.2.1 = 34)) ∧ (u.2.2.2.2.2.2.2.2.2.2.2.2.2.2.2.2.1 ≤ 32000 ∧ u.2.2.2.2.2.2.2.2.2.2.2.2.2.2.2.2.2.1 ≤ 100) ∧ (MsO K u.2.2.2.2.2.2.2.2.2.2.2.2.2.2.2.2.2.2.1 u.2.2.2.2.2.2.2.2.2.2.2.2.2.2.2.2.1) ∧ (FrO K nm it u.2.2.2.2.2.2.2.2.2.2.2.2.2.2.2.2.2.2.2 u.2.2.2.2.2.2.2.2.2.2.2.2.2.2.2.2.2.1) ∧ (OKP G h0 a (upd (upd (upd (upd (upd (upd (upd (upd (upd (upd (upd (upd F 5 (nI cs)) 6 (nI rg)) 18 (nI u.2.2.2.2.2.2.2.2.2.2.2.2.2.2.2.2.1)) 19 (nI u.2.2.1)) 20 u.2.2.2.2.2.2.1) 21 u.2.2.2.2.2.1) 22 (nI u.2.2.2.2.2.2.2.2.2.2.2.2.2.2.2.2.2.1)) 23 u.2.2.2.1) 24 u.2.2.2.2.2.2.2.1) 25 u.2.2.2.2.1) 26 (nI u.2.2.2.2.2.2.2.2.2.2.2.2.2.2.1)) 27 u.2.2.2.2.2.2.2.2.2.2.2.2.2.2.2.1) (updR (updR (updR (updR R 5 (.ref pq)) 6 (va_rf u.2.2.2.2.2.2.2.2.2.2.2.2.2.2.2.2.2.2.1)) 7 (.ref (a u.2.2.2.2.2.2.2.2.2.2.2.2.1))) 8 (.ref (a u.2.2.2.2.2.2.2.2.2.2.2.2.2.1))) u.2.2.2.2.2.2.2.2.2.1 (updA (updA (updA B 30 u.2.2.2.2.2.2.2.2.2.2.2.2.2.2.2.2.2.2.2) 32 u.2.2.2.2.2.2.2.2.2.2.2.1) 33 u.2.2.2.2.2.2.2.2.2.2.1) u.2.2.2.2.2.2.2.2.1 K u.1)) (fun u => u.1)) ([.ref (a 5)] : List Value).toArray s ({ frames := 11, cells := 0, slots := 0, locals := 259 } : Room).cells ({ frames := 11, cells := 0, slots := 0, locals := 259 } : Room).slots A) (F0 m 2 ls []) := by
    intro n_w
    induction n_w with
    | zero => intro i2 tp2 ba2 on2 sp2 op2 ht2 ot2 en2 rf2 nx2 pc2 rs2 mo2 f2 ta2 ou2 z2 J2 H locs ls w hk_w hn_w; omega
    | succ n_w ih_w =>
      intro i2 tp2 ba2 on2 sp2 op2 ht2 ot2 en2 rf2 nx2 pc2 rs2 mo2 f2 ta2 ou2 z2 J2 H locs ls w hk_w hn_w hba2 hht2 hsp2 hms2 hfr2 hP hD hS hO hl
      refine lv_iload_n hx hb dX5_work_2 rfl (lv_at hl 0 rfl) ?_
      refine lv_ldc (v := 400000000) hx hb hown (hq _ pw_732) dX5_work_3 ?_
      refine lv_icmp_ge (tgt := 153) hx hb dX5_work_5 (by decide) (fun c1 => ?_) (fun c1 => ?_)
      · have n2 : 400000000 ≤ i2 := (nI_leI (a := 400000000) (b := i2) (by omega) (by omega)).mp c1
        refine lv_aload_n hx hb dX5_work_153 rfl (lv_at hl 1 rfl) ?_
        refine c_get (v := .int en2) (C := RX5) (Tc := TX5) (N := 19) (ci := 4) hx hb hq pin_wsX50 hown hE hP hO 28 (sg_28 G h0 a _ _ _ _ _) rfl 16 (by decide) (hq _ pw_513) (fun _ h9 => h9) rfl dX5_work_154 ?_
        refine lv_iconst (v := 5) hx hb dX5_work_157 (by decide) ?_
        refine lv_icmp_ne (tgt := 165) hx hb dX5_work_158 (by decide) (fun c3 => ?_) (fun c3 => ?_)
        · refine lv_aload_n hx hb dX5_work_165 rfl (lv_at hl 1 rfl) ?_
          refine c_get (v := .int en2) (C := RX5) (Tc := TX5) (N := 19) (ci := 4) hx hb hq pin_wsX50 hown hE hP hO 28 (sg_28 G h0 a _ _ _ _ _) rfl 16 (by decide) (hq _ pw_513) (fun _ h9 => h9) rfl dX5_work_166 ?_
          have hz4 : tp2 ≤ 32000 := (by omega)
          have hz5 : 8 ≤ ht2 ∧ ht2 ≤ 3008 := (by omega)
          have hz6 : (sp2 = 34 ∧ op2 = 35) ∨ (sp2 = 35 ∧ op2 = 34) := (by omega)
          have hz7 : ba2 ≤ 32000 ∧ on2 ≤ 100 := (by omega)
          have hz8 : MsO K mo2 ba2 := hms2
          have hz9 : FrO K nm it f2 on2 := hfr2
          have hO : OKP G h0 a (upd (upd (upd (upd (upd (upd (upd (upd (upd (upd (upd (upd F 5 (nI cs)) 6 (nI rg)) 18 (nI ba2)) 19 (nI tp2)) 20 pc2) 21 nx2) 22 (nI on2)) 23 en2) 24 rs2) 25 rf2) 26 (nI ht2)) 27 ot2) (updR (updR (updR (updR R 5 (.ref pq)) 6 (va_rf mo2)) 7 (.ref (a sp2))) 8 (.ref (a op2))) z2 (updA (updA (updA B 30 f2) 32 ou2) 33 ta2) J2 K w := hO.to rfl
          exact W.iret (v := en2) hx hb hr (fun t99 ht99 hW99 => ⟨⟨_, (w, (en2, tp2, en2, rf2, nx2, pc2, rs2, J2, z2, ta2, ou2, sp2, op2, ht2, ot2, ba2, on2, mo2, f2)), rfl, ⟨rfl, hz4, hz5, hz6, hz7, hz8, hz9, hO⟩, by rw [ht99]; exact hP, hD⟩, hS.F ht99⟩) hS.2.2 dX5_work_169
        · refine lv_aload_n hx hb dX5_work_161 rfl (lv_at hl 1 rfl) ?_
          have hO : OKW G h0 a (upd (upd (upd (upd (upd (upd (upd (upd (upd (upd (upd (upd F 5 (nI cs)) 6 (nI rg)) 18 (nI ba2)) 19 (nI tp2)) 20 pc2) 21 nx2) 22 (nI on2)) 23 en2) 24 rs2) 25 rf2) 26 (nI ht2)) 27 ot2) (updR (updR (updR (updR R 5 (.ref pq)) 6 (va_rf mo2)) 7 (.ref (a sp2))) 8 (.ref (a op2))) z2 (updA (updA (updA B 30 f2) 32 ou2) 33 ta2) J2 K.1 (fun q99 x99 => x99 = rep G a K q99) w := hO.to rfl
          obtain ⟨_, qr13, hqr14⟩ := hO.2.1 28 _ (sg_28 G h0 a _ _ _ _ _)
          refine pc_V0 (G := G) (As := []) (rest := []) hx hb hml hown hq hE hX pX0_al hP hD hS hA hl.1 (M_refuse l G h0 a (upd (upd (upd (upd (upd (upd (upd (upd (upd (upd (upd (upd F 5 (nI cs)) 6 (nI rg)) 18 (nI ba2)) 19 (nI tp2)) 20 pc2) 21 nx2) 22 (nI on2)) 23 en2) 24 rs2) 25 rf2) 26 (nI ht2)) 27 ot2) (updR (updR (updR (updR R 5 (.ref pq)) 6 (va_rf mo2)) 7 (.ref (a sp2))) 8 (.ref (a op2))) z2 (updA (updA (updA B 30 f2) 32 ou2) 33 ta2) J2 K.1 (fun q99 x99 => x99 = rep G a K q99) w hO) (gV pw_536 pw_537 pw_538 pw_539 pw_511) hV_X5_refuse qr13 4 hqr14 rfl rfl rfl (Nat.le_of_ble_eq_true rfl) dX5_work_162 ⟨Nat.le_of_ble_eq_true rfl, Nat.le_of_ble_eq_true rfl⟩ ⟨Nat.le_of_ble_eq_true rfl, Nat.le_of_ble_eq_true rfl⟩ (fun v12 u10 H locs hw11 hP hD hS => ?_)
          obtain ⟨w, en15, rf16⟩ := u10
          obtain ⟨hw11, hO⟩ := hw11
          obtain rfl : v12 = none := hw11
          have hO : OKP G h0 a (upd (upd (upd (upd (upd (upd (upd (upd (upd (upd (upd (upd F 5 (nI cs)) 6 (nI rg)) 18 (nI ba2)) 19 (nI tp2)) 20 pc2) 21 nx2) 22 (nI on2)) 23 en15) 24 rs2) 25 rf16) 26 (nI ht2)) 27 ot2) (updR (updR (updR (updR R 5 (.ref pq)) 6 (va_rf mo2)) 7 (.ref (a sp2))) 8 (.ref (a op2))) z2 (updA (updA (updA B 30 f2) 32 ou2) 33 ta2) J2 K w := hO.to rfl
          refine W.widen (k := 0) (n := 0) (Nat.le_of_ble_eq_true rfl) (Nat.le_of_ble_eq_true rfl) ?_
          refine W.eq (g2 := F0 m 165 ls []) rfl ?_
          refine lv_aload_n hx hb dX5_work_165 rfl (lv_at hl 1 rfl) ?_
          refine c_get (v := .int en15) (C := RX5) (Tc := TX5) (N := 19) (ci := 4) hx hb hq pin_wsX50 hown hE hP hO 28 (sg_28 G h0 a _ _ _ _ _) rfl 16 (by decide) (hq _ pw_513) (fun _ h9 => h9) rfl dX5_work_166 ?_
          have hz17 : tp2 ≤ 32000 := (by omega)
          have hz18 : 8 ≤ ht2 ∧ ht2 ≤ 3008 := (by omega)
          have hz19 : (sp2 = 34 ∧ op2 = 35) ∨ (sp2 = 35 ∧ op2 = 34) := (by omega)
          have hz20 : ba2 ≤ 32000 ∧ on2 ≤ 100 := (by omega)
          have hz21 : MsO K mo2 ba2 := hms2
          have hz22 : FrO K nm it f2 on2 := hfr2
          have hO : OKP G h0 a (upd (upd (upd (upd (upd (upd (upd (upd (upd (upd (upd (upd F 5 (nI cs)) 6 (nI rg)) 18 (nI ba2)) 19 (nI tp2)) 20 pc2) 21 nx2) 22 (nI on2)) 23 en15) 24 rs2) 25 rf16) 26 (nI ht2)) 27 ot2) (updR (updR (updR (updR R 5 (.ref pq)) 6 (va_rf mo2)) 7 (.ref (a sp2))) 8 (.ref (a op2))) z2 (updA (updA (updA B 30 f2) 32 ou2) 33 ta2) J2 K w := hO.to rfl
          exact W.iret (v := en15) hx hb hr (fun t99 ht99 hW99 => ⟨⟨_, (w, (en15, tp2, en15, rf16, nx2, pc2, rs2, J2, z2, ta2, ou2, sp2, op2, ht2, ot2, ba2, on2, mo2, f2)), rfl, ⟨rfl, hz17, hz18, hz19, hz20, hz21, hz22, hO⟩, by rw [ht99]; exact hP, hD⟩, hS.F ht99⟩) hS.2.2 dX5_work_169
      · have n23 : ¬ (400000000 ≤ i2) := fun h9 => c1 ((nI_leI (a := 400000000) (b := i2) (by omega) (by omega)).mpr h9)
        refine lv_aload_n hx hb dX5_work_8 rfl (lv_at hl 1 rfl) ?_
        refine c_get (v := .int en2) (C := RX5) (Tc := TX5) (N := 19) (ci := 4) hx hb hq pin_wsX50 hown hE hP hO 28 (sg_28 G h0 a _ _ _ _ _) rfl 16 (by decide) (hq _ pw_513) (fun _ h9 => h9) rfl dX5_work_9 ?_
        refine lv_iconst (v := 5) hx hb dX5_work_12 (by decide) ?_
        refine lv_icmp_ne (tgt := 153) hx hb dX5_work_13 (by decide) (fun c24 => ?_) (fun c24 => ?_)
        · refine lv_aload_n hx hb dX5_work_153 rfl (lv_at hl 1 rfl) ?_
          refine c_get (v := .int en2) (C := RX5) (Tc := TX5) (N := 19) (ci := 4) hx hb hq pin_wsX50 hown hE hP hO 28 (sg_28 G h0 a _ _ _ _ _) rfl 16 (by decide) (hq _ pw_513) (fun _ h9 => h9) rfl dX5_work_154 ?_
          refine lv_iconst (v := 5) hx hb dX5_work_157 (by decide) ?_
          refine lv_icmp_ne (tgt := 165) hx hb dX5_work_158 (by decide) (fun c25 => ?_) (fun c25 => ?_)
          · refine lv_aload_n hx hb dX5_work_165 rfl (lv_at hl 1 rfl) ?_
            refine c_get (v := .int en2) (C := RX5) (Tc := TX5) (N := 19) (ci := 4) hx hb hq pin_wsX50 hown hE hP hO 28 (sg_28 G h0 a _ _ _ _ _) rfl 16 (by decide) (hq _ pw_513) (fun _ h9 => h9) rfl dX5_work_166 ?_
            have hz26 : tp2 ≤ 32000 := (by omega)
            have hz27 : 8 ≤ ht2 ∧ ht2 ≤ 3008 := (by omega)
            have hz28 : (sp2 = 34 ∧ op2 = 35) ∨ (sp2 = 35 ∧ op2 = 34) := (by omega)
            have hz29 : ba2 ≤ 32000 ∧ on2 ≤ 100 := (by omega)
            have hz30 : MsO K mo2 ba2 := hms2
            have hz31 : FrO K nm it f2 on2 := hfr2
            have hO : OKP G h0 a (upd (upd (upd (upd (upd (upd (upd (upd (upd (upd (upd (upd F 5 (nI cs)) 6 (nI rg)) 18 (nI ba2)) 19 (nI tp2)) 20 pc2) 21 nx2) 22 (nI on2)) 23 en2) 24 rs2) 25 rf2) 26 (nI ht2)) 27 ot2) (updR (updR (updR (updR R 5 (.ref pq)) 6 (va_rf mo2)) 7 (.ref (a sp2))) 8 (.ref (a op2))) z2 (updA (updA (updA B 30 f2) 32 ou2) 33 ta2) J2 K w := hO.to rfl
            exact W.iret (v := en2) hx hb hr (fun t99 ht99 hW99 => ⟨⟨_, (w, (en2, tp2, en2, rf2, nx2, pc2, rs2, J2, z2, ta2, ou2, sp2, op2, ht2, ot2, ba2, on2, mo2, f2)), rfl, ⟨rfl, hz26, hz27, hz28, hz29, hz30, hz31, hO⟩, by rw [ht99]; exact hP, hD⟩, hS.F ht99⟩) hS.2.2 dX5_work_169
          · refine lv_aload_n hx hb dX5_work_161 rfl (lv_at hl 1 rfl) ?_
            have hO : OKW G h0 a (upd (upd (upd (upd (upd (upd (upd (upd (upd (upd (upd (upd F 5 (nI cs)) 6 (nI rg)) 18 (nI ba2)) 19 (nI tp2)) 20 pc2) 21 nx2) 22 (nI on2)) 23 en2) 24 rs2) 25 rf2) 26 (nI ht2)) 27 ot2) (updR (updR (updR (updR R 5 (.ref pq)) 6 (va_rf mo2)) 7 (.ref (a sp2))) 8 (.ref (a op2))) z2 (updA (updA (updA B 30 f2) 32 ou2) 33 ta2) J2 K.1 (fun q99 x99 => x99 = rep G a K q99) w := hO.to rfl
            obtain ⟨_, qr35, hqr36⟩ := hO.2.1 28 _ (sg_28 G h0 a _ _ _ _ _)
            refine pc_V0 (G := G) (As := []) (rest := []) hx hb hml hown hq hE hX pX0_al hP hD hS hA hl.1 (M_refuse l G h0 a (upd (upd (upd (upd (upd (upd (upd (upd (upd (upd (upd (upd F 5 (nI cs)) 6 (nI rg)) 18 (nI ba2)) 19 (nI tp2)) 20 pc2) 21 nx2) 22 (nI on2)) 23 en2) 24 rs2) 25 rf2) 26 (nI ht2)) 27 ot2) (updR (updR (updR (updR R 5 (.ref pq)) 6 (va_rf mo2)) 7 (.ref (a sp2))) 8 (.ref (a op2))) z2 (updA (updA (updA B 30 f2) 32 ou2) 33 ta2) J2 K.1 (fun q99 x99 => x99 = rep G a K q99) w hO) (gV pw_536 pw_537 pw_538 pw_539 pw_511) hV_X5_refuse qr35 4 hqr36 rfl rfl rfl (Nat.le_of_ble_eq_true rfl) dX5_work_162 ⟨Nat.le_of_ble_eq_true rfl, Nat.le_of_ble_eq_true rfl⟩ ⟨Nat.le_of_ble_eq_true rfl, Nat.le_of_ble_eq_true rfl⟩ (fun v34 u32 H locs hw33 hP hD hS => ?_)
            obtain ⟨w, en37, rf38⟩ := u32
            obtain ⟨hw33, hO⟩ := hw33
            obtain rfl : v34 = none := hw33
            have hO : OKP G h0 a (upd (upd (upd (upd (upd (upd (upd (upd (upd (upd (upd (upd F 5 (nI cs)) 6 (nI rg)) 18 (nI ba2)) 19 (nI tp2)) 20 pc2) 21 nx2) 22 (nI on2)) 23 en37) 24 rs2) 25 rf38) 26 (nI ht2)) 27 ot2) (updR (updR (updR (updR R 5 (.ref pq)) 6 (va_rf mo2)) 7 (.ref (a sp2))) 8 (.ref (a op2))) z2 (updA (updA (updA B 30 f2) 32 ou2) 33 ta2) J2 K w := hO.to rfl
            refine W.widen (k := 0) (n := 0) (Nat.le_of_ble_eq_true rfl) (Nat.le_of_ble_eq_true rfl) ?_
            refine W.eq (g2 := F0 m 165 ls []) rfl ?_
            refine lv_aload_n hx hb dX5_work_165 rfl (lv_at hl 1 rfl) ?_
            refine c_get (v := .int en37) (C := RX5) (Tc := TX5) (N := 19) (ci := 4) hx hb hq pin_wsX50 hown hE hP hO 28 (sg_28 G h0 a _ _ _ _ _) rfl 16 (by decide) (hq _ pw_513) (fun _ h9 => h9) rfl dX5_work_166 ?_
            have hz39 : tp2 ≤ 32000 := (by omega)
            have hz40 : 8 ≤ ht2 ∧ ht2 ≤ 3008 := (by omega)
            have hz41 : (sp2 = 34 ∧ op2 = 35) ∨ (sp2 = 35 ∧ op2 = 34) := (by omega)
            have hz42 : ba2 ≤ 32000 ∧ on2 ≤ 100 := (by omega)
            have hz43 : MsO K mo2 ba2 := hms2
            have hz44 : FrO K nm it f2 on2 := hfr2
            have hO : OKP G h0 a (upd (upd (upd (upd (upd (upd (upd (upd (upd (upd (upd (upd F 5 (nI cs)) 6 (nI rg)) 18 (nI ba2)) 19 (nI tp2)) 20 pc2) 21 nx2) 22 (nI on2)) 23 en37) 24 rs2) 25 rf38) 26 (nI ht2)) 27 ot2) (updR (updR (updR (updR R 5 (.ref pq)) 6 (va_rf mo2)) 7 (.ref (a sp2))) 8 (.ref (a op2))) z2 (updA (updA (updA B 30 f2) 32 ou2) 33 ta2) J2 K w := hO.to rfl
            exact W.iret (v := en37) hx hb hr (fun t99 ht99 hW99 => ⟨⟨_, (w, (en37, tp2, en37, rf38, nx2, pc2, rs2, J2, z2, ta2, ou2, sp2, op2, ht2, ot2, ba2, on2, mo2, f2)), rfl, ⟨rfl, hz39, hz40, hz41, hz42, hz43, hz44, hO⟩, by rw [ht99]; exact hP, hD⟩, hS.F ht99⟩) hS.2.2 dX5_work_169
        · refine lv_aload_n hx hb dX5_work_16 rfl (lv_at hl 1 rfl) ?_
          refine lv_aload_n hx hb dX5_work_17 rfl (lv_at hl 1 rfl) ?_
          refine c_get (v := .int pc2) (C := RX5) (Tc := TX5) (N := 19) (ci := 4) hx hb hq pin_wsX50 hown hE hP hO 28 (sg_28 G h0 a _ _ _ _ _) rfl 12 (by decide) (hq _ pw_506) (fun _ h9 => h9) rfl dX5_work_18 ?_
          refine lv_iconst (v := 1) hx hb dX5_work_21 (by decide) ?_
          refine lv_iadd hx hb dX5_work_22 ?_
          refine lv_topi (fun x45 e46 => ?_)
          refine c_put (v := .int x45) (ty := .int) (C := RX5) (Tc := TX5) (N := 19) (ci := 4) hx hb hq pin_wsX50 tyX5 tyX5_ok nmX5 hown hE hP hD hS hO 28 (sg_28 G h0 a _ _ _ _ _) rfl 13 (by decide) (hq _ pw_566) (fun _ h9 => h9) rfl (by decide +kernel) rfl rfl (Nat.le_of_ble_eq_true rfl) (sf_21 G h0 a _ _ _ _ _ x45) dX5_work_23 (fun H locs w hP hD hS hO => ?_)
          refine lv_aload_n hx hb dX5_work_26 rfl (lv_at hl 1 rfl) ?_
          refine c_get (v := .ref (a 2)) (C := RX5) (Tc := TX5) (N := 19) (ci := 4) hx hb hq pin_wsX50 hown hE hP hO 28 (sg_28 G h0 a _ _ _ _ _) rfl 0 (by decide) (hq _ pw_470) (fun _ h9 => h9) rfl dX5_work_27 ?_
          refine lv_aload_n hx hb dX5_work_30 rfl (lv_at hl 1 rfl) ?_
          refine c_get (v := .int pc2) (C := RX5) (Tc := TX5) (N := 19) (ci := 4) hx hb hq pin_wsX50 hown hE hP hO 28 (sg_28 G h0 a _ _ _ _ _) rfl 12 (by decide) (hq _ pw_506) (fun _ h9 => h9) rfl dX5_work_31 ?_
          have hO : OKW G h0 a (upd (upd (upd (upd (upd (upd (upd (upd (upd (upd (upd (upd (upd F 5 (nI cs)) 6 (nI rg)) 18 (nI ba2)) 19 (nI tp2)) 20 pc2) 21 x45) 22 (nI on2)) 23 en2) 24 rs2) 25 rf2) 26 (nI ht2)) 27 ot2) 5 (nI cs)) (updR (updR (updR (updR R 5 (.ref pq)) 6 (va_rf mo2)) 7 (.ref (a sp2))) 8 (.ref (a op2))) z2 (updA (updA (updA B 30 f2) 32 ou2) 33 ta2) J2 K.1 (fun q99 x99 => x99 = rep G a K q99) w := hO.to rfl
          obtain ⟨_, qr50, hqr51⟩ := hO.2.1 13 _ (sg_13 G h0 a _ _ _ _ _)
          refine pc_V0 (G := G) (As := [.int pc2]) (rest := []) hx hb hml hown hq hE hX pX0_al hP hD hS hA hl.1 (K_operation l G h0 a (upd (upd (upd (upd (upd (upd (upd (upd (upd (upd (upd (upd F 5 (nI cs)) 6 (nI rg)) 18 (nI ba2)) 19 (nI tp2)) 20 pc2) 21 x45) 22 (nI on2)) 23 en2) 24 rs2) 25 rf2) 26 (nI ht2)) 27 ot2) (updR (updR (updR (updR R 5 (.ref pq)) 6 (va_rf mo2)) 7 (.ref (a sp2))) 8 (.ref (a op2))) z2 (updA (updA (updA B 30 f2) 32 ou2) 33 ta2) J2 K.1 (fun q99 x99 => x99 = rep G a K q99) w pc2 cs (by omega) hO) (gV pw_733 pw_734 pw_735 pw_70 pw_379) hV_X1_operation qr50 1 hqr51 rfl rfl rfl (Nat.le_of_ble_eq_true rfl) dX5_work_34 ⟨Nat.le_of_ble_eq_true rfl, Nat.le_of_ble_eq_true rfl⟩ ⟨Nat.le_of_ble_eq_true rfl, Nat.le_of_ble_eq_true rfl⟩ (fun v49 u47 H locs hw48 hP hD hS => ?_)
          obtain ⟨w, r52⟩ := u47
          obtain ⟨hw48, hO⟩ := hw48
          obtain rfl : v49 = some (.int r52) := hw48
          have hO : OKP G h0 a (upd (upd (upd (upd (upd (upd (upd (upd (upd (upd (upd (upd F 5 (nI cs)) 6 (nI rg)) 18 (nI ba2)) 19 (nI tp2)) 20 pc2) 21 x45) 22 (nI on2)) 23 en2) 24 rs2) 25 rf2) 26 (nI ht2)) 27 ot2) (updR (updR (updR (updR R 5 (.ref pq)) 6 (va_rf mo2)) 7 (.ref (a sp2))) 8 (.ref (a op2))) z2 (updA (updA (updA B 30 f2) 32 ou2) 33 ta2) J2 K w := hO.to rfl
          refine W.widen (k := 0) (n := 0) (Nat.le_of_ble_eq_true rfl) (Nat.le_of_ble_eq_true rfl) ?_
          refine W.eq (g2 := F0 m 37 ls [.int r52]) rfl ?_
          refine lv_istore_n (lv' := [(2, .int r52), (1, .int (nI i2)), (0, .ref (a 5))]) hx hb dX5_work_37 rfl hl (by decide) rfl (fun ls hl => ?_)
          refine lv_iload_n hx hb dX5_work_38 rfl (lv_at hl 0 rfl) ?_
          refine lv_bipush (v := 14) hx hb dX5_work_39 (by decide) ?_
          refine lv_icmp_ge (tgt := 63) hx hb dX5_work_41 (by decide) (fun c53 => ?_) (fun c53 => ?_)
          · refine lv_iload_n hx hb dX5_work_63 rfl (lv_at hl 0 rfl) ?_
            refine lv_bipush (v := 26) hx hb dX5_work_64 (by decide) ?_
            refine lv_icmp_ge (tgt := 99) hx hb dX5_work_66 (by decide) (fun c54 => ?_) (fun c54 => ?_)
            · refine lv_aload_n hx hb dX5_work_99 rfl (lv_at hl 2 rfl) ?_
              refine lv_iload_n hx hb dX5_work_100 rfl (lv_at hl 0 rfl) ?_
              refine lv_aload_n hx hb dX5_work_101 rfl (lv_at hl 2 rfl) ?_
              refine c_get (v := .ref (a 2)) (C := RX5) (Tc := TX5) (N := 19) (ci := 4) hx hb hq pin_wsX50 hown hE hP hO 28 (sg_28 G h0 a _ _ _ _ _) rfl 0 (by decide) (hq _ pw_470) (fun _ h9 => h9) rfl dX5_work_102 ?_
              refine lv_aload_n hx hb dX5_work_105 rfl (lv_at hl 2 rfl) ?_
              refine c_get (v := .int pc2) (C := RX5) (Tc := TX5) (N := 19) (ci := 4) hx hb hq pin_wsX50 hown hE hP hO 28 (sg_28 G h0 a _ _ _ _ _) rfl 12 (by decide) (hq _ pw_506) (fun _ h9 => h9) rfl dX5_work_106 ?_
              have hO : OKW G h0 a (upd (upd (upd (upd (upd (upd (upd (upd (upd (upd (upd (upd (upd F 5 (nI cs)) 6 (nI rg)) 18 (nI ba2)) 19 (nI tp2)) 20 pc2) 21 x45) 22 (nI on2)) 23 en2) 24 rs2) 25 rf2) 26 (nI ht2)) 27 ot2) 5 (nI cs)) (updR (updR (updR (updR R 5 (.ref pq)) 6 (va_rf mo2)) 7 (.ref (a sp2))) 8 (.ref (a op2))) z2 (updA (updA (updA B 30 f2) 32 ou2) 33 ta2) J2 K.1 (fun q99 x99 => x99 = rep G a K q99) w := hO.to rfl
              obtain ⟨_, qr58, hqr59⟩ := hO.2.1 13 _ (sg_13 G h0 a _ _ _ _ _)
              refine pc_V0 (G := G) (As := [.int pc2]) (rest := [.int r52, .ref (a 5)]) hx hb hml hown hq hE hX pX0_al hP hD hS hA hl.1 (K_left l G h0 a (upd (upd (upd (upd (upd (upd (upd (upd (upd (upd (upd (upd F 5 (nI cs)) 6 (nI rg)) 18 (nI ba2)) 19 (nI tp2)) 20 pc2) 21 x45) 22 (nI on2)) 23 en2) 24 rs2) 25 rf2) 26 (nI ht2)) 27 ot2) (updR (updR (updR (updR R 5 (.ref pq)) 6 (va_rf mo2)) 7 (.ref (a sp2))) 8 (.ref (a op2))) z2 (updA (updA (updA B 30 f2) 32 ou2) 33 ta2) J2 K.1 (fun q99 x99 => x99 = rep G a K q99) w pc2 cs (by omega) hO) (gV pw_736 pw_737 pw_738 pw_70 pw_380) hV_X1_left qr58 1 hqr59 rfl rfl rfl (Nat.le_of_ble_eq_true rfl) dX5_work_109 ⟨Nat.le_of_ble_eq_true rfl, Nat.le_of_ble_eq_true rfl⟩ ⟨Nat.le_of_ble_eq_true rfl, Nat.le_of_ble_eq_true rfl⟩ (fun v57 u55 H locs hw56 hP hD hS => ?_)
              obtain ⟨w, r60⟩ := u55
              obtain ⟨hw56, hO⟩ := hw56
              obtain rfl : v57 = some (.int r60) := hw56
              have hO : OKP G h0 a (upd (upd (upd (upd (upd (upd (upd (upd (upd (upd (upd (upd F 5 (nI cs)) 6 (nI rg)) 18 (nI ba2)) 19 (nI tp2)) 20 pc2) 21 x45) 22 (nI on2)) 23 en2) 24 rs2) 25 rf2) 26 (nI ht2)) 27 ot2) (updR (updR (updR (updR R 5 (.ref pq)) 6 (va_rf mo2)) 7 (.ref (a sp2))) 8 (.ref (a op2))) z2 (updA (updA (updA B 30 f2) 32 ou2) 33 ta2) J2 K w := hO.to rfl
              refine W.widen (k := 0) (n := 0) (Nat.le_of_ble_eq_true rfl) (Nat.le_of_ble_eq_true rfl) ?_
              refine W.eq (g2 := F0 m 112 ls [.int r60, .int r52, .ref (a 5)]) rfl ?_
              refine lv_aload_n hx hb dX5_work_112 rfl (lv_at hl 2 rfl) ?_
              refine c_get (v := .ref (a 2)) (C := RX5) (Tc := TX5) (N := 19) (ci := 4) hx hb hq pin_wsX50 hown hE hP hO 28 (sg_28 G h0 a _ _ _ _ _) rfl 0 (by decide) (hq _ pw_470) (fun _ h9 => h9) rfl dX5_work_113 ?_
              refine lv_aload_n hx hb dX5_work_116 rfl (lv_at hl 2 rfl) ?_
              refine c_get (v := .int pc2) (C := RX5) (Tc := TX5) (N := 19) (ci := 4) hx hb hq pin_wsX50 hown hE hP hO 28 (sg_28 G h0 a _ _ _ _ _) rfl 12 (by decide) (hq _ pw_506) (fun _ h9 => h9) rfl dX5_work_117 ?_
              have hO : OKW G h0 a (upd (upd (upd (upd (upd (upd (upd (upd (upd (upd (upd (upd (upd F 5 (nI cs)) 6 (nI rg)) 18 (nI ba2)) 19 (nI tp2)) 20 pc2) 21 x45) 22 (nI on2)) 23 en2) 24 rs2) 25 rf2) 26 (nI ht2)) 27 ot2) 5 (nI cs)) (updR (updR (updR (updR R 5 (.ref pq)) 6 (va_rf mo2)) 7 (.ref (a sp2))) 8 (.ref (a op2))) z2 (updA (updA (updA B 30 f2) 32 ou2) 33 ta2) J2 K.1 (fun q99 x99 => x99 = rep G a K q99) w := hO.to rfl
              obtain ⟨_, qr64, hqr65⟩ := hO.2.1 13 _ (sg_13 G h0 a _ _ _ _ _)
              refine pc_V0 (G := G) (As := [.int pc2]) (rest := [.int r60, .int r52, .ref (a 5)]) hx hb hml hown hq hE hX pX0_al hP hD hS hA hl.1 (K_right l G h0 a (upd (upd (upd (upd (upd (upd (upd (upd (upd (upd (upd (upd F 5 (nI cs)) 6 (nI rg)) 18 (nI ba2)) 19 (nI tp2)) 20 pc2) 21 x45) 22 (nI on2)) 23 en2) 24 rs2) 25 rf2) 26 (nI ht2)) 27 ot2) (updR (updR (updR (updR R 5 (.ref pq)) 6 (va_rf mo2)) 7 (.ref (a sp2))) 8 (.ref (a op2))) z2 (updA (updA (updA B 30 f2) 32 ou2) 33 ta2) J2 K.1 (fun q99 x99 => x99 = rep G a K q99) w pc2 cs (by omega) hng hO) (gV pw_742 pw_743 pw_744 pw_70 pw_381) hV_X1_right qr64 1 hqr65 rfl rfl rfl (Nat.le_of_ble_eq_true rfl) dX5_work_120 ⟨Nat.le_of_ble_eq_true rfl, Nat.le_of_ble_eq_true rfl⟩ ⟨Nat.le_of_ble_eq_true rfl, Nat.le_of_ble_eq_true rfl⟩ (fun v63 u61 H locs hw62 hP hD hS => ?_)
              obtain ⟨w, r66⟩ := u61
              obtain ⟨hw62, h67, hO⟩ := hw62
              have h67 : r66 ≤ 6000 := h67
              obtain rfl : v63 = some (.int (nI r66)) := hw62
              have hO : OKP G h0 a (upd (upd (upd (upd (upd (upd (upd (upd (upd (upd (upd (upd F 5 (nI cs)) 6 (nI rg)) 18 (nI ba2)) 19 (nI tp2)) 20 pc2) 21 x45) 22 (nI on2)) 23 en2) 24 rs2) 25 rf2) 26 (nI ht2)) 27 ot2) (updR (updR (updR (updR R 5 (.ref pq)) 6 (va_rf mo2)) 7 (.ref (a sp2))) 8 (.ref (a op2))) z2 (updA (updA (updA B 30 f2) 32 ou2) 33 ta2) J2 K w := hO.to rfl
              refine W.widen (k := 0) (n := 0) (Nat.le_of_ble_eq_true rfl) (Nat.le_of_ble_eq_true rfl) ?_
              refine W.eq (g2 := F0 m 123 ls [.int (nI r66), .int r60, .int r52, .ref (a 5)]) rfl ?_
              have hO : OKP G h0 a (upd (upd (upd (upd (upd (upd (upd (upd (upd (upd (upd (upd (upd (upd (upd (upd F 5 (nI cs)) 6 (nI rg)) 18 (nI ba2)) 19 (nI tp2)) 20 pc2) 21 x45) 22 (nI on2)) 23 en2) 24 rs2) 25 rf2) 26 (nI ht2)) 27 ot2) 6 (nI rg)) 18 (nI ba2)) 19 (nI tp2)) 22 (nI on2)) (updR (updR (updR (updR (updR (updR R 5 (.ref pq)) 6 (va_rf mo2)) 7 (.ref (a sp2))) 8 (.ref (a op2))) 5 (.ref pq)) 6 (va_rf mo2)) z2 (updA (updA (updA B 30 f2) 32 ou2) 33 ta2) J2 K w := hO.to rfl
              obtain ⟨_, qr71, hqr72⟩ := hO.2.1 28 _ (sg_28 G h0 a _ _ _ _ _)
              refine pc_V0 (G := G) (As := [.int r52, .int r60, .int (nI r66)]) (rest := []) hx hb hml hown hq hE hX pX0_al hP hD hS hA hl.1 (M_stepOut l G h0 a (upd (upd (upd (upd (upd (upd (upd (upd (upd (upd (upd (upd F 5 (nI cs)) 6 (nI rg)) 18 (nI ba2)) 19 (nI tp2)) 20 pc2) 21 x45) 22 (nI on2)) 23 en2) 24 rs2) 25 rf2) 26 (nI ht2)) 27 ot2) (updR (updR (updR (updR R 5 (.ref pq)) 6 (va_rf mo2)) 7 (.ref (a sp2))) 8 (.ref (a op2))) z2 (updA (updA (updA B 30 f2) 32 ou2) 33 ta2) J2 K w r52 r60 r66 tp2 pq dr ml nd nm cp it s9 g rk ba2 on2 mo2 rg (by omega) hwp hps hrk (by omega) (by omega) hms2 hfr2 (by omega) (by omega) hO) (gV pw_748 pw_749 pw_750 pw_539 pw_726) hV_X5_stepOut qr71 4 hqr72 rfl rfl rfl (Nat.le_of_ble_eq_true rfl) dX5_work_123 ⟨Nat.le_of_ble_eq_true rfl, Nat.le_of_ble_eq_true rfl⟩ ⟨Nat.le_of_ble_eq_true rfl, Nat.le_of_ble_eq_true rfl⟩ (fun v70 u68 H locs hw69 hP hD hS => ?_)
              obtain ⟨w, z73, tp74, en75, rf76, nx77, pc78, rs79, J80, ba81, on82, mo83, fr84⟩ := u68
              obtain ⟨hw69, h85, h86, h87, h88, hO⟩ := hw69
              have h85 : tp74 ≤ 32000 := h85
              have h86 : ba81 ≤ 32000 ∧ on82 ≤ 100 := h86
              have h87 : MsO K mo83 ba81 := h87
              have h88 : FrO K nm it fr84 on82 := h88
              obtain rfl : v70 = none := hw69
              have hO : OKP G h0 a (upd (upd (upd (upd (upd (upd (upd (upd (upd (upd (upd (upd F 5 (nI cs)) 6 (nI rg)) 18 (nI ba81)) 19 (nI tp74)) 20 pc78) 21 nx77) 22 (nI on82)) 23 en75) 24 rs79) 25 rf76) 26 (nI ht2)) 27 ot2) (updR (updR (updR (updR R 5 (.ref pq)) 6 (va_rf mo83)) 7 (.ref (a sp2))) 8 (.ref (a op2))) z73 (updA (updA (updA B 30 fr84) 32 ou2) 33 ta2) J80 K w := hO.to rfl
              refine W.widen (k := 0) (n := 0) (Nat.le_of_ble_eq_true rfl) (Nat.le_of_ble_eq_true rfl) ?_
              refine W.eq (g2 := F0 m 126 ls []) rfl ?_
              refine lv_aload_n hx hb dX5_work_126 rfl (lv_at hl 2 rfl) ?_
              refine c_get (v := .long z73) (C := RX5) (Tc := TX5) (N := 19) (ci := 4) hx hb hq pin_wsX50 hown hE hP hO 28 (sg_28 G h0 a _ _ _ _ _) rfl 14 (by decide) (hq _ pw_485) (fun _ h9 => h9) rfl dX5_work_127 ?_
              refine lv_lconst (v := 0) hx hb dX5_work_130 (by decide) ?_
              refine W.lcmp hx hb dX5_work_131 ?_
              refine lv_topi (fun x89 e90 => ?_)
              refine lv_if_eq (tgt := 139) hx hb dX5_work_132 (by decide) (fun c91 => ?_) (fun c91 => ?_)
              · refine lv_aload_n hx hb dX5_work_139 rfl (lv_at hl 2 rfl) ?_
                refine lv_aload_n hx hb dX5_work_140 rfl (lv_at hl 2 rfl) ?_
                refine c_get (v := .int nx77) (C := RX5) (Tc := TX5) (N := 19) (ci := 4) hx hb hq pin_wsX50 hown hE hP hO 28 (sg_28 G h0 a _ _ _ _ _) rfl 13 (by decide) (hq _ pw_566) (fun _ h9 => h9) rfl dX5_work_141 ?_
                refine c_put (v := .int nx77) (ty := .int) (C := RX5) (Tc := TX5) (N := 19) (ci := 4) hx hb hq pin_wsX50 tyX5 tyX5_ok nmX5 hown hE hP hD hS hO 28 (sg_28 G h0 a _ _ _ _ _) rfl 12 (by decide) (hq _ pw_506) (fun _ h9 => h9) rfl (by decide +kernel) rfl rfl (Nat.le_of_ble_eq_true rfl) (sf_20 G h0 a _ _ _ _ _ nx77) dX5_work_144 (fun H locs w hP hD hS hO => ?_)
                refine lv_iinc (v := (nI (i2 + 1))) (lv' := [(1, .int (nI (i2 + 1))), (2, .int r52), (0, .ref (a 5))]) hx hb dX5_work_147 hl (k := 1) rfl (nI_1 i2) (by decide) rfl (fun ls hl => ?_)
                refine lv_goto (tgt := 2) hx hb dX5_work_150 (by decide) ?_
                have hO : OKP G h0 a (upd (upd (upd (upd (upd (upd (upd (upd (upd (upd (upd (upd F 5 (nI cs)) 6 (nI rg)) 18 (nI ba81)) 19 (nI tp74)) 20 nx77) 21 nx77) 22 (nI on82)) 23 en75) 24 rs79) 25 rf76) 26 (nI ht2)) 27 ot2) (updR (updR (updR (updR R 5 (.ref pq)) 6 (va_rf mo83)) 7 (.ref (a sp2))) 8 (.ref (a op2))) z73 (updA (updA (updA B 30 fr84) 32 ou2) 33 ta2) J80 K w := hO.to rfl
                exact ih_w (i2 + 1) tp74 ba81 on82 sp2 op2 ht2 ot2 en75 rf76 nx77 nx77 rs79 mo83 fr84 ta2 ou2 z73 J80 _ _ _ _ (by omega) (by omega) (by omega) (by omega) hsp2 h87 h88 hP hD hS hO (lv_sub hl [0, 2] rfl)
              · refine lv_aload_n hx hb dX5_work_135 rfl (lv_at hl 2 rfl) ?_
                have hO : OKP G h0 a (upd (upd (upd (upd (upd (upd (upd (upd (upd (upd (upd (upd (upd (upd (upd (upd (upd F 5 (nI cs)) 6 (nI rg)) 18 (nI ba81)) 19 (nI tp74)) 20 pc78) 21 nx77) 22 (nI on82)) 23 en75) 24 rs79) 25 rf76) 26 (nI ht2)) 27 ot2) 6 (nI rg)) 18 (nI ba81)) 19 (nI tp74)) 22 (nI on82)) 26 (nI ht2)) (updR (updR (updR (updR (updR (updR (updR (updR R 5 (.ref pq)) 6 (va_rf mo83)) 7 (.ref (a sp2))) 8 (.ref (a op2))) 5 (.ref pq)) 6 (va_rf mo83)) 7 (.ref (a sp2))) 8 (.ref (a op2))) z73 (updA (updA (updA B 30 fr84) 32 ou2) 33 ta2) J80 K w := hO.to rfl
                obtain ⟨_, qr95, hqr96⟩ := hO.2.1 28 _ (sg_28 G h0 a _ _ _ _ _)
                refine pc_V0 (G := G) (As := []) (rest := []) hx hb hml hown hq hE hX pX0_al hP hD hS hA hl.1 (M_goOutward l G h0 a (upd (upd (upd (upd (upd (upd (upd (upd (upd (upd (upd (upd F 5 (nI cs)) 6 (nI rg)) 18 (nI ba81)) 19 (nI tp74)) 20 pc78) 21 nx77) 22 (nI on82)) 23 en75) 24 rs79) 25 rf76) 26 (nI ht2)) 27 ot2) (updR (updR (updR (updR R 5 (.ref pq)) 6 (va_rf mo83)) 7 (.ref (a sp2))) 8 (.ref (a op2))) z73 (updA (updA (updA B 30 fr84) 32 ou2) 33 ta2) J80 K w tp74 sp2 op2 ht2 pq dr ml nd nm cp it s9 g rk ba81 on82 mo83 rg (by omega) hsp2 (by omega) hwp hps hrk (by omega) (by omega) h87 h88 (by omega) hO) (gV pw_751 pw_752 pw_753 pw_539 pw_731) hV_X5_goOutward qr95 4 hqr96 rfl rfl rfl (Nat.le_of_ble_eq_true rfl) dX5_work_136 ⟨Nat.le_of_ble_eq_true rfl, Nat.le_of_ble_eq_true rfl⟩ ⟨Nat.le_of_ble_eq_true rfl, Nat.le_of_ble_eq_true rfl⟩ (fun v94 u92 H locs hw93 hP hD hS => ?_)
                obtain ⟨w, tp97, en98, rf99, nx100, pc101, J102, z103, ba104, on105, mo106, fr107⟩ := u92
                obtain ⟨hw93, h108, h109, h110, h111, hO⟩ := hw93
                have h108 : tp97 ≤ 32000 := h108
                have h109 : ba104 ≤ 32000 ∧ on105 ≤ 100 := h109
                have h110 : MsO K mo106 ba104 := h110
                have h111 : FrO K nm it fr107 on105 := h111
                obtain rfl : v94 = none := hw93
                have hO : OKP G h0 a (upd (upd (upd (upd (upd (upd (upd (upd (upd (upd (upd (upd F 5 (nI cs)) 6 (nI rg)) 18 (nI ba104)) 19 (nI tp97)) 20 pc101) 21 nx100) 22 (nI on105)) 23 en98) 24 rs79) 25 rf99) 26 (nI ht2)) 27 ot2) (updR (updR (updR (updR R 5 (.ref pq)) 6 (va_rf mo106)) 7 (.ref (a sp2))) 8 (.ref (a op2))) z103 (updA (updA (updA B 30 fr107) 32 ou2) 33 ta2) J102 K w := hO.to rfl
                refine W.widen (k := 0) (n := 0) (Nat.le_of_ble_eq_true rfl) (Nat.le_of_ble_eq_true rfl) ?_
                refine W.eq (g2 := F0 m 139 ls []) rfl ?_
                refine lv_aload_n hx hb dX5_work_139 rfl (lv_at hl 2 rfl) ?_
                refine lv_aload_n hx hb dX5_work_140 rfl (lv_at hl 2 rfl) ?_
                refine c_get (v := .int nx100) (C := RX5) (Tc := TX5) (N := 19) (ci := 4) hx hb hq pin_wsX50 hown hE hP hO 28 (sg_28 G h0 a _ _ _ _ _) rfl 13 (by decide) (hq _ pw_566) (fun _ h9 => h9) rfl dX5_work_141 ?_
                refine c_put (v := .int nx100) (ty := .int) (C := RX5) (Tc := TX5) (N := 19) (ci := 4) hx hb hq pin_wsX50 tyX5 tyX5_ok nmX5 hown hE hP hD hS hO 28 (sg_28 G h0 a _ _ _ _ _) rfl 12 (by decide) (hq _ pw_506) (fun _ h9 => h9) rfl (by decide +kernel) rfl rfl (Nat.le_of_ble_eq_true rfl) (sf_20 G h0 a _ _ _ _ _ nx100) dX5_work_144 (fun H locs w hP hD hS hO => ?_)
                refine lv_iinc (v := (nI (i2 + 1))) (lv' := [(1, .int (nI (i2 + 1))), (2, .int r52), (0, .ref (a 5))]) hx hb dX5_work_147 hl (k := 1) rfl (nI_1 i2) (by decide) rfl (fun ls hl => ?_)
                refine lv_goto (tgt := 2) hx hb dX5_work_150 (by decide) ?_
                have hO : OKP G h0 a (upd (upd (upd (upd (upd (upd (upd (upd (upd (upd (upd (upd F 5 (nI cs)) 6 (nI rg)) 18 (nI ba104)) 19 (nI tp97)) 20 nx100) 21 nx100) 22 (nI on105)) 23 en98) 24 rs79) 25 rf99) 26 (nI ht2)) 27 ot2) (updR (updR (updR (updR R 5 (.ref pq)) 6 (va_rf mo106)) 7 (.ref (a sp2))) 8 (.ref (a op2))) z103 (updA (updA (updA B 30 fr107) 32 ou2) 33 ta2) J102 K w := hO.to rfl
                exact ih_w (i2 + 1) tp97 ba104 on105 sp2 op2 ht2 ot2 en98 rf99 nx100 nx100 rs79 mo106 fr107 ta2 ou2 z103 J102 _ _ _ _ (by omega) (by omega) (by omega) (by omega) hsp2 h110 h111 hP hD hS hO (lv_sub hl [0, 2] rfl)
            · refine lv_aload_n hx hb dX5_work_69 rfl (lv_at hl 2 rfl) ?_
              refine lv_iload_n hx hb dX5_work_70 rfl (lv_at hl 0 rfl) ?_
              refine lv_aload_n hx hb dX5_work_71 rfl (lv_at hl 2 rfl) ?_
              refine c_get (v := .ref (a 2)) (C := RX5) (Tc := TX5) (N := 19) (ci := 4) hx hb hq pin_wsX50 hown hE hP hO 28 (sg_28 G h0 a _ _ _ _ _) rfl 0 (by decide) (hq _ pw_470) (fun _ h9 => h9) rfl dX5_work_72 ?_
              refine lv_aload_n hx hb dX5_work_75 rfl (lv_at hl 2 rfl) ?_
              refine c_get (v := .int pc2) (C := RX5) (Tc := TX5) (N := 19) (ci := 4) hx hb hq pin_wsX50 hown hE hP hO 28 (sg_28 G h0 a _ _ _ _ _) rfl 12 (by decide) (hq _ pw_506) (fun _ h9 => h9) rfl dX5_work_76 ?_
              have hO : OKW G h0 a (upd (upd (upd (upd (upd (upd (upd (upd (upd (upd (upd (upd (upd F 5 (nI cs)) 6 (nI rg)) 18 (nI ba2)) 19 (nI tp2)) 20 pc2) 21 x45) 22 (nI on2)) 23 en2) 24 rs2) 25 rf2) 26 (nI ht2)) 27 ot2) 5 (nI cs)) (updR (updR (updR (updR R 5 (.ref pq)) 6 (va_rf mo2)) 7 (.ref (a sp2))) 8 (.ref (a op2))) z2 (updA (updA (updA B 30 f2) 32 ou2) 33 ta2) J2 K.1 (fun q99 x99 => x99 = rep G a K q99) w := hO.to rfl
              obtain ⟨_, qr115, hqr116⟩ := hO.2.1 13 _ (sg_13 G h0 a _ _ _ _ _)
              refine pc_V0 (G := G) (As := [.int pc2]) (rest := [.int r52, .ref (a 5)]) hx hb hml hown hq hE hX pX0_al hP hD hS hA hl.1 (K_left l G h0 a (upd (upd (upd (upd (upd (upd (upd (upd (upd (upd (upd (upd F 5 (nI cs)) 6 (nI rg)) 18 (nI ba2)) 19 (nI tp2)) 20 pc2) 21 x45) 22 (nI on2)) 23 en2) 24 rs2) 25 rf2) 26 (nI ht2)) 27 ot2) (updR (updR (updR (updR R 5 (.ref pq)) 6 (va_rf mo2)) 7 (.ref (a sp2))) 8 (.ref (a op2))) z2 (updA (updA (updA B 30 f2) 32 ou2) 33 ta2) J2 K.1 (fun q99 x99 => x99 = rep G a K q99) w pc2 cs (by omega) hO) (gV pw_736 pw_737 pw_738 pw_70 pw_380) hV_X1_left qr115 1 hqr116 rfl rfl rfl (Nat.le_of_ble_eq_true rfl) dX5_work_79 ⟨Nat.le_of_ble_eq_true rfl, Nat.le_of_ble_eq_true rfl⟩ ⟨Nat.le_of_ble_eq_true rfl, Nat.le_of_ble_eq_true rfl⟩ (fun v114 u112 H locs hw113 hP hD hS => ?_)
              obtain ⟨w, r117⟩ := u112
              obtain ⟨hw113, hO⟩ := hw113
              obtain rfl : v114 = some (.int r117) := hw113
              have hO : OKP G h0 a (upd (upd (upd (upd (upd (upd (upd (upd (upd (upd (upd (upd F 5 (nI cs)) 6 (nI rg)) 18 (nI ba2)) 19 (nI tp2)) 20 pc2) 21 x45) 22 (nI on2)) 23 en2) 24 rs2) 25 rf2) 26 (nI ht2)) 27 ot2) (updR (updR (updR (updR R 5 (.ref pq)) 6 (va_rf mo2)) 7 (.ref (a sp2))) 8 (.ref (a op2))) z2 (updA (updA (updA B 30 f2) 32 ou2) 33 ta2) J2 K w := hO.to rfl
              refine W.widen (k := 0) (n := 0) (Nat.le_of_ble_eq_true rfl) (Nat.le_of_ble_eq_true rfl) ?_
              refine W.eq (g2 := F0 m 82 ls [.int r117, .int r52, .ref (a 5)]) rfl ?_
              refine lv_aload_n hx hb dX5_work_82 rfl (lv_at hl 2 rfl) ?_
              refine c_get (v := .ref (a 2)) (C := RX5) (Tc := TX5) (N := 19) (ci := 4) hx hb hq pin_wsX50 hown hE hP hO 28 (sg_28 G h0 a _ _ _ _ _) rfl 0 (by decide) (hq _ pw_470) (fun _ h9 => h9) rfl dX5_work_83 ?_
              refine lv_aload_n hx hb dX5_work_86 rfl (lv_at hl 2 rfl) ?_
              refine c_get (v := .int pc2) (C := RX5) (Tc := TX5) (N := 19) (ci := 4) hx hb hq pin_wsX50 hown hE hP hO 28 (sg_28 G h0 a _ _ _ _ _) rfl 12 (by decide) (hq _ pw_506) (fun _ h9 => h9) rfl dX5_work_87 ?_
              have hO : OKW G h0 a (upd (upd (upd (upd (upd (upd (upd (upd (upd (upd (upd (upd (upd F 5 (nI cs)) 6 (nI rg)) 18 (nI ba2)) 19 (nI tp2)) 20 pc2) 21 x45) 22 (nI on2)) 23 en2) 24 rs2) 25 rf2) 26 (nI ht2)) 27 ot2) 5 (nI cs)) (updR (updR (updR (updR R 5 (.ref pq)) 6 (va_rf mo2)) 7 (.ref (a sp2))) 8 (.ref (a op2))) z2 (updA (updA (updA B 30 f2) 32 ou2) 33 ta2) J2 K.1 (fun q99 x99 => x99 = rep G a K q99) w := hO.to rfl
              obtain ⟨_, qr121, hqr122⟩ := hO.2.1 13 _ (sg_13 G h0 a _ _ _ _ _)
              refine pc_V0 (G := G) (As := [.int pc2]) (rest := [.int r117, .int r52, .ref (a 5)]) hx hb hml hown hq hE hX pX0_al hP hD hS hA hl.1 (K_right l G h0 a (upd (upd (upd (upd (upd (upd (upd (upd (upd (upd (upd (upd F 5 (nI cs)) 6 (nI rg)) 18 (nI ba2)) 19 (nI tp2)) 20 pc2) 21 x45) 22 (nI on2)) 23 en2) 24 rs2) 25 rf2) 26 (nI ht2)) 27 ot2) (updR (updR (updR (updR R 5 (.ref pq)) 6 (va_rf mo2)) 7 (.ref (a sp2))) 8 (.ref (a op2))) z2 (updA (updA (updA B 30 f2) 32 ou2) 33 ta2) J2 K.1 (fun q99 x99 => x99 = rep G a K q99) w pc2 cs (by omega) hng hO) (gV pw_742 pw_743 pw_744 pw_70 pw_381) hV_X1_right qr121 1 hqr122 rfl rfl rfl (Nat.le_of_ble_eq_true rfl) dX5_work_90 ⟨Nat.le_of_ble_eq_true rfl, Nat.le_of_ble_eq_true rfl⟩ ⟨Nat.le_of_ble_eq_true rfl, Nat.le_of_ble_eq_true rfl⟩ (fun v120 u118 H locs hw119 hP hD hS => ?_)
              obtain ⟨w, r123⟩ := u118
              obtain ⟨hw119, h124, hO⟩ := hw119
              have h124 : r123 ≤ 6000 := h124
              obtain rfl : v120 = some (.int (nI r123)) := hw119
              have hO : OKP G h0 a (upd (upd (upd (upd (upd (upd (upd (upd (upd (upd (upd (upd F 5 (nI cs)) 6 (nI rg)) 18 (nI ba2)) 19 (nI tp2)) 20 pc2) 21 x45) 22 (nI on2)) 23 en2) 24 rs2) 25 rf2) 26 (nI ht2)) 27 ot2) (updR (updR (updR (updR R 5 (.ref pq)) 6 (va_rf mo2)) 7 (.ref (a sp2))) 8 (.ref (a op2))) z2 (updA (updA (updA B 30 f2) 32 ou2) 33 ta2) J2 K w := hO.to rfl
              refine W.widen (k := 0) (n := 0) (Nat.le_of_ble_eq_true rfl) (Nat.le_of_ble_eq_true rfl) ?_
              refine W.eq (g2 := F0 m 93 ls [.int (nI r123), .int r117, .int r52, .ref (a 5)]) rfl ?_
              have hO : OKP G h0 a (upd (upd (upd (upd (upd (upd (upd (upd (upd (upd (upd (upd (upd (upd (upd (upd (upd F 5 (nI cs)) 6 (nI rg)) 18 (nI ba2)) 19 (nI tp2)) 20 pc2) 21 x45) 22 (nI on2)) 23 en2) 24 rs2) 25 rf2) 26 (nI ht2)) 27 ot2) 5 (nI cs)) 18 (nI ba2)) 19 (nI tp2)) 22 (nI on2)) 26 (nI ht2)) (updR (updR (updR (updR (updR (updR (updR (updR R 5 (.ref pq)) 6 (va_rf mo2)) 7 (.ref (a sp2))) 8 (.ref (a op2))) 5 (.ref pq)) 6 (va_rf mo2)) 7 (.ref (a sp2))) 8 (.ref (a op2))) z2 (updA (updA (updA B 30 f2) 32 ou2) 33 ta2) J2 K w := hO.to rfl
              obtain ⟨_, qr128, hqr129⟩ := hO.2.1 28 _ (sg_28 G h0 a _ _ _ _ _)
              refine pc_V0 (G := G) (As := [.int r52, .int r117, .int (nI r123)]) (rest := []) hx hb hml hown hq hE hX pX0_al hP hD hS hA hl.1 (M_stepThings l G h0 a (upd (upd (upd (upd (upd (upd (upd (upd (upd (upd (upd (upd F 5 (nI cs)) 6 (nI rg)) 18 (nI ba2)) 19 (nI tp2)) 20 pc2) 21 x45) 22 (nI on2)) 23 en2) 24 rs2) 25 rf2) 26 (nI ht2)) 27 ot2) (updR (updR (updR (updR R 5 (.ref pq)) 6 (va_rf mo2)) 7 (.ref (a sp2))) 8 (.ref (a op2))) z2 (updA (updA (updA B 30 f2) 32 ou2) 33 ta2) J2 K w r52 r117 r123 tp2 sp2 op2 ht2 pq dr ml nd nm cp it s9 g rk ba2 on2 mo2 cs (by omega) hsp2 (by omega) hwp hps hrk (by omega) (by omega) hms2 hfr2 (by omega) (by omega) hO) (gV pw_745 pw_746 pw_747 pw_539 pw_690) hV_X5_stepAmongThings qr128 4 hqr129 rfl rfl rfl (Nat.le_of_ble_eq_true rfl) dX5_work_93 ⟨Nat.le_of_ble_eq_true rfl, Nat.le_of_ble_eq_true rfl⟩ ⟨Nat.le_of_ble_eq_true rfl, Nat.le_of_ble_eq_true rfl⟩ (fun v127 u125 H locs hw126 hP hD hS => ?_)
              obtain ⟨w, tp130, en131, rf132, nx133, J134, z135, ta136, sp137, op138, ht139, ot140, ba141, on142, mo143, fr144⟩ := u125
              obtain ⟨hw126, h145, h146, h147, h148, h149, h150, hO⟩ := hw126
              have h145 : tp130 ≤ 32000 := h145
              have h146 : 8 ≤ ht139 ∧ ht139 ≤ 3008 := h146
              have h147 : (sp137 = 34 ∧ op138 = 35) ∨ (sp137 = 35 ∧ op138 = 34) := h147
              have h148 : ba141 ≤ 32000 ∧ on142 ≤ 100 := h148
              have h149 : MsO K mo143 ba141 := h149
              have h150 : FrO K nm it fr144 on142 := h150
              obtain rfl : v127 = none := hw126
              have hO : OKP G h0 a (upd (upd (upd (upd (upd (upd (upd (upd (upd (upd (upd (upd F 5 (nI cs)) 6 (nI rg)) 18 (nI ba141)) 19 (nI tp130)) 20 pc2) 21 nx133) 22 (nI on142)) 23 en131) 24 rs2) 25 rf132) 26 (nI ht139)) 27 ot140) (updR (updR (updR (updR R 5 (.ref pq)) 6 (va_rf mo143)) 7 (.ref (a sp137))) 8 (.ref (a op138))) z135 (updA (updA (updA B 30 fr144) 32 ou2) 33 ta136) J134 K w := hO.to rfl
              refine W.widen (k := 0) (n := 0) (Nat.le_of_ble_eq_true rfl) (Nat.le_of_ble_eq_true rfl) ?_
              refine W.eq (g2 := F0 m 96 ls []) rfl ?_
              refine lv_goto (tgt := 126) hx hb dX5_work_96 (by decide) ?_
              refine lv_aload_n hx hb dX5_work_126 rfl (lv_at hl 2 rfl) ?_
              refine c_get (v := .long z135) (C := RX5) (Tc := TX5) (N := 19) (ci := 4) hx hb hq pin_wsX50 hown hE hP hO 28 (sg_28 G h0 a _ _ _ _ _) rfl 14 (by decide) (hq _ pw_485) (fun _ h9 => h9) rfl dX5_work_127 ?_
              refine lv_lconst (v := 0) hx hb dX5_work_130 (by decide) ?_
              refine W.lcmp hx hb dX5_work_131 ?_
              refine lv_topi (fun x151 e152 => ?_)
              refine lv_if_eq (tgt := 139) hx hb dX5_work_132 (by decide) (fun c153 => ?_) (fun c153 => ?_)
              · refine lv_aload_n hx hb dX5_work_139 rfl (lv_at hl 2 rfl) ?_
                refine lv_aload_n hx hb dX5_work_140 rfl (lv_at hl 2 rfl) ?_
                refine c_get (v := .int nx133) (C := RX5) (Tc := TX5) (N := 19) (ci := 4) hx hb hq pin_wsX50 hown hE hP hO 28 (sg_28 G h0 a _ _ _ _ _) rfl 13 (by decide) (hq _ pw_566) (fun _ h9 => h9) rfl dX5_work_141 ?_
                refine c_put (v := .int nx133) (ty := .int) (C := RX5) (Tc := TX5) (N := 19) (ci := 4) hx hb hq pin_wsX50 tyX5 tyX5_ok nmX5 hown hE hP hD hS hO 28 (sg_28 G h0 a _ _ _ _ _) rfl 12 (by decide) (hq _ pw_506) (fun _ h9 => h9) rfl (by decide +kernel) rfl rfl (Nat.le_of_ble_eq_true rfl) (sf_20 G h0 a _ _ _ _ _ nx133) dX5_work_144 (fun H locs w hP hD hS hO => ?_)
                refine lv_iinc (v := (nI (i2 + 1))) (lv' := [(1, .int (nI (i2 + 1))), (2, .int r52), (0, .ref (a 5))]) hx hb dX5_work_147 hl (k := 1) rfl (nI_1 i2) (by decide) rfl (fun ls hl => ?_)
                refine lv_goto (tgt := 2) hx hb dX5_work_150 (by decide) ?_
                have hO : OKP G h0 a (upd (upd (upd (upd (upd (upd (upd (upd (upd (upd (upd (upd F 5 (nI cs)) 6 (nI rg)) 18 (nI ba141)) 19 (nI tp130)) 20 nx133) 21 nx133) 22 (nI on142)) 23 en131) 24 rs2) 25 rf132) 26 (nI ht139)) 27 ot140) (updR (updR (updR (updR R 5 (.ref pq)) 6 (va_rf mo143)) 7 (.ref (a sp137))) 8 (.ref (a op138))) z135 (updA (updA (updA B 30 fr144) 32 ou2) 33 ta136) J134 K w := hO.to rfl
                exact ih_w (i2 + 1) tp130 ba141 on142 sp137 op138 ht139 ot140 en131 rf132 nx133 nx133 rs2 mo143 fr144 ta136 ou2 z135 J134 _ _ _ _ (by omega) (by omega) (by omega) (by omega) h147 h149 h150 hP hD hS hO (lv_sub hl [0, 2] rfl)
              · refine lv_aload_n hx hb dX5_work_135 rfl (lv_at hl 2 rfl) ?_
                have hO : OKP G h0 a (upd (upd (upd (upd (upd (upd (upd (upd (upd (upd (upd (upd (upd (upd (upd (upd (upd F 5 (nI cs)) 6 (nI rg)) 18 (nI ba141)) 19 (nI tp130)) 20 pc2) 21 nx133) 22 (nI on142)) 23 en131) 24 rs2) 25 rf132) 26 (nI ht139)) 27 ot140) 6 (nI rg)) 18 (nI ba141)) 19 (nI tp130)) 22 (nI on142)) 26 (nI ht139)) (updR (updR (updR (updR (updR (updR (updR (updR R 5 (.ref pq)) 6 (va_rf mo143)) 7 (.ref (a sp137))) 8 (.ref (a op138))) 5 (.ref pq)) 6 (va_rf mo143)) 7 (.ref (a sp137))) 8 (.ref (a op138))) z135 (updA (updA (updA B 30 fr144) 32 ou2) 33 ta136) J134 K w := hO.to rfl
                obtain ⟨_, qr157, hqr158⟩ := hO.2.1 28 _ (sg_28 G h0 a _ _ _ _ _)
                refine pc_V0 (G := G) (As := []) (rest := []) hx hb hml hown hq hE hX pX0_al hP hD hS hA hl.1 (M_goOutward l G h0 a (upd (upd (upd (upd (upd (upd (upd (upd (upd (upd (upd (upd F 5 (nI cs)) 6 (nI rg)) 18 (nI ba141)) 19 (nI tp130)) 20 pc2) 21 nx133) 22 (nI on142)) 23 en131) 24 rs2) 25 rf132) 26 (nI ht139)) 27 ot140) (updR (updR (updR (updR R 5 (.ref pq)) 6 (va_rf mo143)) 7 (.ref (a sp137))) 8 (.ref (a op138))) z135 (updA (updA (updA B 30 fr144) 32 ou2) 33 ta136) J134 K w tp130 sp137 op138 ht139 pq dr ml nd nm cp it s9 g rk ba141 on142 mo143 rg (by omega) h147 (by omega) hwp hps hrk (by omega) (by omega) h149 h150 (by omega) hO) (gV pw_751 pw_752 pw_753 pw_539 pw_731) hV_X5_goOutward qr157 4 hqr158 rfl rfl rfl (Nat.le_of_ble_eq_true rfl) dX5_work_136 ⟨Nat.le_of_ble_eq_true rfl, Nat.le_of_ble_eq_true rfl⟩ ⟨Nat.le_of_ble_eq_true rfl, Nat.le_of_ble_eq_true rfl⟩ (fun v156 u154 H locs hw155 hP hD hS => ?_)
                obtain ⟨w, tp159, en160, rf161, nx162, pc163, J164, z165, ba166, on167, mo168, fr169⟩ := u154
                obtain ⟨hw155, h170, h171, h172, h173, hO⟩ := hw155
                have h170 : tp159 ≤ 32000 := h170
                have h171 : ba166 ≤ 32000 ∧ on167 ≤ 100 := h171
                have h172 : MsO K mo168 ba166 := h172
                have h173 : FrO K nm it fr169 on167 := h173
                obtain rfl : v156 = none := hw155
                have hO : OKP G h0 a (upd (upd (upd (upd (upd (upd (upd (upd (upd (upd (upd (upd F 5 (nI cs)) 6 (nI rg)) 18 (nI ba166)) 19 (nI tp159)) 20 pc163) 21 nx162) 22 (nI on167)) 23 en160) 24 rs2) 25 rf161) 26 (nI ht139)) 27 ot140) (updR (updR (updR (updR R 5 (.ref pq)) 6 (va_rf mo168)) 7 (.ref (a sp137))) 8 (.ref (a op138))) z165 (updA (updA (updA B 30 fr169) 32 ou2) 33 ta136) J164 K w := hO.to rfl
                refine W.widen (k := 0) (n := 0) (Nat.le_of_ble_eq_true rfl) (Nat.le_of_ble_eq_true rfl) ?_
                refine W.eq (g2 := F0 m 139 ls []) rfl ?_
                refine lv_aload_n hx hb dX5_work_139 rfl (lv_at hl 2 rfl) ?_
                refine lv_aload_n hx hb dX5_work_140 rfl (lv_at hl 2 rfl) ?_
                refine c_get (v := .int nx162) (C := RX5) (Tc := TX5) (N := 19) (ci := 4) hx hb hq pin_wsX50 hown hE hP hO 28 (sg_28 G h0 a _ _ _ _ _) rfl 13 (by decide) (hq _ pw_566) (fun _ h9 => h9) rfl dX5_work_141 ?_
                refine c_put (v := .int nx162) (ty := .int) (C := RX5) (Tc := TX5) (N := 19) (ci := 4) hx hb hq pin_wsX50 tyX5 tyX5_ok nmX5 hown hE hP hD hS hO 28 (sg_28 G h0 a _ _ _ _ _) rfl 12 (by decide) (hq _ pw_506) (fun _ h9 => h9) rfl (by decide +kernel) rfl rfl (Nat.le_of_ble_eq_true rfl) (sf_20 G h0 a _ _ _ _ _ nx162) dX5_work_144 (fun H locs w hP hD hS hO => ?_)
                refine lv_iinc (v := (nI (i2 + 1))) (lv' := [(1, .int (nI (i2 + 1))), (2, .int r52), (0, .ref (a 5))]) hx hb dX5_work_147 hl (k := 1) rfl (nI_1 i2) (by decide) rfl (fun ls hl => ?_)
                refine lv_goto (tgt := 2) hx hb dX5_work_150 (by decide) ?_
                have hO : OKP G h0 a (upd (upd (upd (upd (upd (upd (upd (upd (upd (upd (upd (upd F 5 (nI cs)) 6 (nI rg)) 18 (nI ba166)) 19 (nI tp159)) 20 nx162) 21 nx162) 22 (nI on167)) 23 en160) 24 rs2) 25 rf161) 26 (nI ht139)) 27 ot140) (updR (updR (updR (updR R 5 (.ref pq)) 6 (va_rf mo168)) 7 (.ref (a sp137))) 8 (.ref (a op138))) z165 (updA (updA (updA B 30 fr169) 32 ou2) 33 ta136) J164 K w := hO.to rfl
                exact ih_w (i2 + 1) tp159 ba166 on167 sp137 op138 ht139 ot140 en160 rf161 nx162 nx162 rs2 mo168 fr169 ta136 ou2 z165 J164 _ _ _ _ (by omega) (by omega) (by omega) (by omega) h147 h172 h173 hP hD hS hO (lv_sub hl [0, 2] rfl)
          · refine lv_aload_n hx hb dX5_work_44 rfl (lv_at hl 2 rfl) ?_
            refine lv_iload_n hx hb dX5_work_45 rfl (lv_at hl 0 rfl) ?_
            refine lv_aload_n hx hb dX5_work_46 rfl (lv_at hl 2 rfl) ?_
            refine c_get (v := .ref (a 2)) (C := RX5) (Tc := TX5) (N := 19) (ci := 4) hx hb hq pin_wsX50 hown hE hP hO 28 (sg_28 G h0 a _ _ _ _ _) rfl 0 (by decide) (hq _ pw_470) (fun _ h9 => h9) rfl dX5_work_47 ?_
            refine lv_aload_n hx hb dX5_work_50 rfl (lv_at hl 2 rfl) ?_
            refine c_get (v := .int pc2) (C := RX5) (Tc := TX5) (N := 19) (ci := 4) hx hb hq pin_wsX50 hown hE hP hO 28 (sg_28 G h0 a _ _ _ _ _) rfl 12 (by decide) (hq _ pw_506) (fun _ h9 => h9) rfl dX5_work_51 ?_
            have hO : OKW G h0 a (upd (upd (upd (upd (upd (upd (upd (upd (upd (upd (upd (upd (upd F 5 (nI cs)) 6 (nI rg)) 18 (nI ba2)) 19 (nI tp2)) 20 pc2) 21 x45) 22 (nI on2)) 23 en2) 24 rs2) 25 rf2) 26 (nI ht2)) 27 ot2) 5 (nI cs)) (updR (updR (updR (updR R 5 (.ref pq)) 6 (va_rf mo2)) 7 (.ref (a sp2))) 8 (.ref (a op2))) z2 (updA (updA (updA B 30 f2) 32 ou2) 33 ta2) J2 K.1 (fun q99 x99 => x99 = rep G a K q99) w := hO.to rfl
            obtain ⟨_, qr177, hqr178⟩ := hO.2.1 13 _ (sg_13 G h0 a _ _ _ _ _)
            refine pc_V0 (G := G) (As := [.int pc2]) (rest := [.int r52, .ref (a 5)]) hx hb hml hown hq hE hX pX0_al hP hD hS hA hl.1 (K_left l G h0 a (upd (upd (upd (upd (upd (upd (upd (upd (upd (upd (upd (upd F 5 (nI cs)) 6 (nI rg)) 18 (nI ba2)) 19 (nI tp2)) 20 pc2) 21 x45) 22 (nI on2)) 23 en2) 24 rs2) 25 rf2) 26 (nI ht2)) 27 ot2) (updR (updR (updR (updR R 5 (.ref pq)) 6 (va_rf mo2)) 7 (.ref (a sp2))) 8 (.ref (a op2))) z2 (updA (updA (updA B 30 f2) 32 ou2) 33 ta2) J2 K.1 (fun q99 x99 => x99 = rep G a K q99) w pc2 cs (by omega) hO) (gV pw_736 pw_737 pw_738 pw_70 pw_380) hV_X1_left qr177 1 hqr178 rfl rfl rfl (Nat.le_of_ble_eq_true rfl) dX5_work_54 ⟨Nat.le_of_ble_eq_true rfl, Nat.le_of_ble_eq_true rfl⟩ ⟨Nat.le_of_ble_eq_true rfl, Nat.le_of_ble_eq_true rfl⟩ (fun v176 u174 H locs hw175 hP hD hS => ?_)
            obtain ⟨w, r179⟩ := u174
            obtain ⟨hw175, hO⟩ := hw175
            obtain rfl : v176 = some (.int r179) := hw175
            have hO : OKP G h0 a (upd (upd (upd (upd (upd (upd (upd (upd (upd (upd (upd (upd F 5 (nI cs)) 6 (nI rg)) 18 (nI ba2)) 19 (nI tp2)) 20 pc2) 21 x45) 22 (nI on2)) 23 en2) 24 rs2) 25 rf2) 26 (nI ht2)) 27 ot2) (updR (updR (updR (updR R 5 (.ref pq)) 6 (va_rf mo2)) 7 (.ref (a sp2))) 8 (.ref (a op2))) z2 (updA (updA (updA B 30 f2) 32 ou2) 33 ta2) J2 K w := hO.to rfl
            refine W.widen (k := 0) (n := 0) (Nat.le_of_ble_eq_true rfl) (Nat.le_of_ble_eq_true rfl) ?_
            refine W.eq (g2 := F0 m 57 ls [.int r179, .int r52, .ref (a 5)]) rfl ?_
            have hO : OKW G h0 a (upd (upd (upd (upd (upd (upd (upd (upd (upd (upd (upd (upd (upd F 5 (nI cs)) 6 (nI rg)) 18 (nI ba2)) 19 (nI tp2)) 20 pc2) 21 x45) 22 (nI on2)) 23 en2) 24 rs2) 25 rf2) 26 (nI ht2)) 27 ot2) 19 (nI tp2)) (updR (updR (updR (updR R 5 (.ref pq)) 6 (va_rf mo2)) 7 (.ref (a sp2))) 8 (.ref (a op2))) z2 (updA (updA (updA B 30 f2) 32 ou2) 33 ta2) J2 K.1 (fun q99 x99 => x99 = rep G a K q99) w := hO.to rfl
            obtain ⟨_, qr183, hqr184⟩ := hO.2.1 28 _ (sg_28 G h0 a _ _ _ _ _)
            refine pc_V0 (G := G) (As := [.int r52, .int r179]) (rest := []) hx hb hml hown hq hE hX pX0_al hP hD hS hA hl.1 (M_step l G h0 a (upd (upd (upd (upd (upd (upd (upd (upd (upd (upd (upd (upd F 5 (nI cs)) 6 (nI rg)) 18 (nI ba2)) 19 (nI tp2)) 20 pc2) 21 x45) 22 (nI on2)) 23 en2) 24 rs2) 25 rf2) 26 (nI ht2)) 27 ot2) (updR (updR (updR (updR R 5 (.ref pq)) 6 (va_rf mo2)) 7 (.ref (a sp2))) 8 (.ref (a op2))) z2 (updA (updA (updA B 30 f2) 32 ou2) 33 ta2) J2 K.1 (fun q99 x99 => x99 = rep G a K q99) w r52 r179 tp2 (by omega) hO) (gV pw_739 pw_740 pw_741 pw_539 pw_643) hV_X5_step qr183 4 hqr184 rfl rfl rfl (Nat.le_of_ble_eq_true rfl) dX5_work_57 ⟨Nat.le_of_ble_eq_true rfl, Nat.le_of_ble_eq_true rfl⟩ ⟨Nat.le_of_ble_eq_true rfl, Nat.le_of_ble_eq_true rfl⟩ (fun v182 u180 H locs hw181 hP hD hS => ?_)
            obtain ⟨w, tp185, en186, rf187, nx188, J189, z190, ta191, ou192⟩ := u180
            obtain ⟨hw181, h193, hO⟩ := hw181
            have h193 : tp185 ≤ 32000 := h193
            obtain rfl : v182 = none := hw181
            have hO : OKP G h0 a (upd (upd (upd (upd (upd (upd (upd (upd (upd (upd (upd (upd F 5 (nI cs)) 6 (nI rg)) 18 (nI ba2)) 19 (nI tp185)) 20 pc2) 21 nx188) 22 (nI on2)) 23 en186) 24 rs2) 25 rf187) 26 (nI ht2)) 27 ot2) (updR (updR (updR (updR R 5 (.ref pq)) 6 (va_rf mo2)) 7 (.ref (a sp2))) 8 (.ref (a op2))) z190 (updA (updA (updA B 30 f2) 32 ou192) 33 ta191) J189 K w := hO.to rfl
            refine W.widen (k := 0) (n := 0) (Nat.le_of_ble_eq_true rfl) (Nat.le_of_ble_eq_true rfl) ?_
            refine W.eq (g2 := F0 m 60 ls []) rfl ?_
            refine lv_goto (tgt := 126) hx hb dX5_work_60 (by decide) ?_
            refine lv_aload_n hx hb dX5_work_126 rfl (lv_at hl 2 rfl) ?_
            refine c_get (v := .long z190) (C := RX5) (Tc := TX5) (N := 19) (ci := 4) hx hb hq pin_wsX50 hown hE hP hO 28 (sg_28 G h0 a _ _ _ _ _) rfl 14 (by decide) (hq _ pw_485) (fun _ h9 => h9) rfl dX5_work_127 ?_
            refine lv_lconst (v := 0) hx hb dX5_work_130 (by decide) ?_
            refine W.lcmp hx hb dX5_work_131 ?_
            refine lv_topi (fun x194 e195 => ?_)
            refine lv_if_eq (tgt := 139) hx hb dX5_work_132 (by decide) (fun c196 => ?_) (fun c196 => ?_)
            · refine lv_aload_n hx hb dX5_work_139 rfl (lv_at hl 2 rfl) ?_
              refine lv_aload_n hx hb dX5_work_140 rfl (lv_at hl 2 rfl) ?_
              refine c_get (v := .int nx188) (C := RX5) (Tc := TX5) (N := 19) (ci := 4) hx hb hq pin_wsX50 hown hE hP hO 28 (sg_28 G h0 a _ _ _ _ _) rfl 13 (by decide) (hq _ pw_566) (fun _ h9 => h9) rfl dX5_work_141 ?_
              refine c_put (v := .int nx188) (ty := .int) (C := RX5) (Tc := TX5) (N := 19) (ci := 4) hx hb hq pin_wsX50 tyX5 tyX5_ok nmX5 hown hE hP hD hS hO 28 (sg_28 G h0 a _ _ _ _ _) rfl 12 (by decide) (hq _ pw_506) (fun _ h9 => h9) rfl (by decide +kernel) rfl rfl (Nat.le_of_ble_eq_true rfl) (sf_20 G h0 a _ _ _ _ _ nx188) dX5_work_144 (fun H locs w hP hD hS hO => ?_)
              refine lv_iinc (v := (nI (i2 + 1))) (lv' := [(1, .int (nI (i2 + 1))), (2, .int r52), (0, .ref (a 5))]) hx hb dX5_work_147 hl (k := 1) rfl (nI_1 i2) (by decide) rfl (fun ls hl => ?_)
              refine lv_goto (tgt := 2) hx hb dX5_work_150 (by decide) ?_
              have hO : OKP G h0 a (upd (upd (upd (upd (upd (upd (upd (upd (upd (upd (upd (upd F 5 (nI cs)) 6 (nI rg)) 18 (nI ba2)) 19 (nI tp185)) 20 nx188) 21 nx188) 22 (nI on2)) 23 en186) 24 rs2) 25 rf187) 26 (nI ht2)) 27 ot2) (updR (updR (updR (updR R 5 (.ref pq)) 6 (va_rf mo2)) 7 (.ref (a sp2))) 8 (.ref (a op2))) z190 (updA (updA (updA B 30 f2) 32 ou192) 33 ta191) J189 K w := hO.to rfl
              exact ih_w (i2 + 1) tp185 ba2 on2 sp2 op2 ht2 ot2 en186 rf187 nx188 nx188 rs2 mo2 f2 ta191 ou192 z190 J189 _ _ _ _ (by omega) (by omega) (by omega) (by omega) hsp2 hms2 hfr2 hP hD hS hO (lv_sub hl [0, 2] rfl)
            · refine lv_aload_n hx hb dX5_work_135 rfl (lv_at hl 2 rfl) ?_
              have hO : OKP G h0 a (upd (upd (upd (upd (upd (upd (upd (upd (upd (upd (upd (upd (upd (upd (upd (upd (upd F 5 (nI cs)) 6 (nI rg)) 18 (nI ba2)) 19 (nI tp185)) 20 pc2) 21 nx188) 22 (nI on2)) 23 en186) 24 rs2) 25 rf187) 26 (nI ht2)) 27 ot2) 6 (nI rg)) 18 (nI ba2)) 19 (nI tp185)) 22 (nI on2)) 26 (nI ht2)) (updR (updR (updR (updR (updR (updR (updR (updR R 5 (.ref pq)) 6 (va_rf mo2)) 7 (.ref (a sp2))) 8 (.ref (a op2))) 5 (.ref pq)) 6 (va_rf mo2)) 7 (.ref (a sp2))) 8 (.ref (a op2))) z190 (updA (updA (updA B 30 f2) 32 ou192) 33 ta191) J189 K w := hO.to rfl
              obtain ⟨_, qr200, hqr201⟩ := hO.2.1 28 _ (sg_28 G h0 a _ _ _ _ _)
              refine pc_V0 (G := G) (As := []) (rest := []) hx hb hml hown hq hE hX pX0_al hP hD hS hA hl.1 (M_goOutward l G h0 a (upd (upd (upd (upd (upd (upd (upd (upd (upd (upd (upd (upd F 5 (nI cs)) 6 (nI rg)) 18 (nI ba2)) 19 (nI tp185)) 20 pc2) 21 nx188) 22 (nI on2)) 23 en186) 24 rs2) 25 rf187) 26 (nI ht2)) 27 ot2) (updR (updR (updR (updR R 5 (.ref pq)) 6 (va_rf mo2)) 7 (.ref (a sp2))) 8 (.ref (a op2))) z190 (updA (updA (updA B 30 f2) 32 ou192) 33 ta191) J189 K w tp185 sp2 op2 ht2 pq dr ml nd nm cp it s9 g rk ba2 on2 mo2 rg (by omega) hsp2 (by omega) hwp hps hrk (by omega) (by omega) hms2 hfr2 (by omega) hO) (gV pw_751 pw_752 pw_753 pw_539 pw_731) hV_X5_goOutward qr200 4 hqr201 rfl rfl rfl (Nat.le_of_ble_eq_true rfl) dX5_work_136 ⟨Nat.le_of_ble_eq_true rfl, Nat.le_of_ble_eq_true rfl⟩ ⟨Nat.le_of_ble_eq_true rfl, Nat.le_of_ble_eq_true rfl⟩ (fun v199 u197 H locs hw198 hP hD hS => ?_)
              obtain ⟨w, tp202, en203, rf204, nx205, pc206, J207, z208, ba209, on210, mo211, fr212⟩ := u197
              obtain ⟨hw198, h213, h214, h215, h216, hO⟩ := hw198
              have h213 : tp202 ≤ 32000 := h213
              have h214 : ba209 ≤ 32000 ∧ on210 ≤ 100 := h214
              have h215 : MsO K mo211 ba209 := h215
              have h216 : FrO K nm it fr212 on210 := h216
              obtain rfl : v199 = none := hw198
              have hO : OKP G h0 a (upd (upd (upd (upd (upd (upd (upd (upd (upd (upd (upd (upd F 5 (nI cs)) 6 (nI rg)) 18 (nI ba209)) 19 (nI tp202)) 20 pc206) 21 nx205) 22 (nI on210)) 23 en203) 24 rs2) 25 rf204) 26 (nI ht2)) 27 ot2) (updR (updR (updR (updR R 5 (.ref pq)) 6 (va_rf mo211)) 7 (.ref (a sp2))) 8 (.ref (a op2))) z208 (updA (updA (updA B 30 fr212) 32 ou192) 33 ta191) J207 K w := hO.to rfl
              refine W.widen (k := 0) (n := 0) (Nat.le_of_ble_eq_true rfl) (Nat.le_of_ble_eq_true rfl) ?_
              refine W.eq (g2 := F0 m 139 ls []) rfl ?_
              refine lv_aload_n hx hb dX5_work_139 rfl (lv_at hl 2 rfl) ?_
              refine lv_aload_n hx hb dX5_work_140 rfl (lv_at hl 2 rfl) ?_
              refine c_get (v := .int nx205) (C := RX5) (Tc := TX5) (N := 19) (ci := 4) hx hb hq pin_wsX50 hown hE hP hO 28 (sg_28 G h0 a _ _ _ _ _) rfl 13 (by decide) (hq _ pw_566) (fun _ h9 => h9) rfl dX5_work_141 ?_
              refine c_put (v := .int nx205) (ty := .int) (C := RX5) (Tc := TX5) (N := 19) (ci := 4) hx hb hq pin_wsX50 tyX5 tyX5_ok nmX5 hown hE hP hD hS hO 28 (sg_28 G h0 a _ _ _ _ _) rfl 12 (by decide) (hq _ pw_506) (fun _ h9 => h9) rfl (by decide +kernel) rfl rfl (Nat.le_of_ble_eq_true rfl) (sf_20 G h0 a _ _ _ _ _ nx205) dX5_work_144 (fun H locs w hP hD hS hO => ?_)
              refine lv_iinc (v := (nI (i2 + 1))) (lv' := [(1, .int (nI (i2 + 1))), (2, .int r52), (0, .ref (a 5))]) hx hb dX5_work_147 hl (k := 1) rfl (nI_1 i2) (by decide) rfl (fun ls hl => ?_)
              refine lv_goto (tgt := 2) hx hb dX5_work_150 (by decide) ?_
              have hO : OKP G h0 a (upd (upd (upd (upd (upd (upd (upd (upd (upd (upd (upd (upd F 5 (nI cs)) 6 (nI rg)) 18 (nI ba209)) 19 (nI tp202)) 20 nx205) 21 nx205) 22 (nI on210)) 23 en203) 24 rs2) 25 rf204) 26 (nI ht2)) 27 ot2) (updR (updR (updR (updR R 5 (.ref pq)) 6 (va_rf mo211)) 7 (.ref (a sp2))) 8 (.ref (a op2))) z208 (updA (updA (updA B 30 fr212) 32 ou192) 33 ta191) J207 K w := hO.to rfl
              exact ih_w (i2 + 1) tp202 ba209 on210 sp2 op2 ht2 ot2 en203 rf204 nx205 nx205 rs2 mo211 fr212 ta191 ou192 z208 J207 _ _ _ _ (by omega) (by omega) (by omega) (by omega) hsp2 h215 h216 hP hD hS hO (lv_sub hl [0, 2] rfl)
  have hO : OKP G h0 a (upd (upd (upd (upd (upd (upd (upd (upd (upd (upd (upd (upd F 5 (nI cs)) 6 (nI rg)) 18 (nI ba)) 19 (nI tp)) 20 (F 20)) 21 (F 21)) 22 (nI on)) 23 (F 23)) 24 (F 24)) 25 (F 25)) 26 (nI ht)) 27 (F 27)) (updR (updR (updR (updR R 5 (.ref pq)) 6 (va_rf mo)) 7 (.ref (a sp))) 8 (.ref (a op))) Z (updA (updA (updA B 30 (B 30)) 32 (B 32)) 33 (B 33)) J K w := hO.to rfl
  exact loop_w (400000000 + 1) 0 tp ba on sp op ht (F 27) (F 23) (F 25) (F 21) (F 20) (F 24) mo (B 30) (B 33) (B 32) Z J _ _ _ _ (by omega) (by omega) (by omega) (by omega) hsp hms hfr hP hD hS hO (lv_sub hl [0, 1] rfl)
