theorem sw_m14_25 {x : Int32} (h14 : ¬ x = 14) (h15 : ¬ x = 15) (h16 : ¬ x = 16) (h17 : ¬ x = 17) (h18 : ¬ x = 18) (h19 : ¬ x = 19) (h20 : ¬ x = 20) (h21 : ¬ x = 21) (h22 : ¬ x = 22) (h23 : ¬ x = 23) (h24 : ¬ x = 24) (h25 : ¬ x = 25) : x.toInt < 14 ∨ 25 < x.toInt := by
  have a14 : ¬ x.toInt = 14 := tJ_ne (n := 14) (by decide) h14
  have a15 : ¬ x.toInt = 15 := tJ_ne (n := 15) (by decide) h15
  have a16 : ¬ x.toInt = 16 := tJ_ne (n := 16) (by decide) h16
  have a17 : ¬ x.toInt = 17 := tJ_ne (n := 17) (by decide) h17
  have a18 : ¬ x.toInt = 18 := tJ_ne (n := 18) (by decide) h18
  have a19 : ¬ x.toInt = 19 := tJ_ne (n := 19) (by decide) h19
  have a20 : ¬ x.toInt = 20 := tJ_ne (n := 20) (by decide) h20
  have a21 : ¬ x.toInt = 21 := tJ_ne (n := 21) (by decide) h21
  have a22 : ¬ x.toInt = 22 := tJ_ne (n := 22) (by decide) h22
  have a23 : ¬ x.toInt = 23 := tJ_ne (n := 23) (by decide) h23
  have a24 : ¬ x.toInt = 24 := tJ_ne (n := 24) (by decide) h24
  have a25 : ¬ x.toInt = 25 := tJ_ne (n := 25) (by decide) h25
  omega
theorem sw_m26_30 {x : Int32} (h26 : ¬ x = 26) (h27 : ¬ x = 27) (h28 : ¬ x = 28) (h29 : ¬ x = 29) (h30 : ¬ x = 30) : x.toInt < 26 ∨ 30 < x.toInt := by
  have a26 : ¬ x.toInt = 26 := tJ_ne (n := 26) (by decide) h26
  have a27 : ¬ x.toInt = 27 := tJ_ne (n := 27) (by decide) h27
  have a28 : ¬ x.toInt = 28 := tJ_ne (n := 28) (by decide) h28
  have a29 : ¬ x.toInt = 29 := tJ_ne (n := 29) (by decide) h29
  have a30 : ¬ x.toInt = 30 := tJ_ne (n := 30) (by decide) h30
  omega
theorem dX5_stepAmongThings_0 : decode cX5_stepAmongThings 0 = .ok (.iload_n 1, 1) := by decide +kernel
theorem dX5_stepAmongThings_1 : decode cX5_stepAmongThings 1 = .ok (.tableswitch 176 14 25 #[63, 63, 82, 89, 97, 105, 112, 119, 134, 147, 156, 165], 63) := by decide +kernel
theorem dX5_stepAmongThings_64 : decode cX5_stepAmongThings 64 = .ok (.aload_n 0, 1) := by decide +kernel
theorem dX5_stepAmongThings_65 : decode cX5_stepAmongThings 65 = .ok (.iload_n 1, 1) := by decide +kernel
theorem dX5_stepAmongThings_66 : decode cX5_stepAmongThings 66 = .ok (.bipush 15, 2) := by decide +kernel
theorem dX5_stepAmongThings_68 : decode cX5_stepAmongThings 68 = .ok (.if_icmp .ne 7, 3) := by decide +kernel
theorem dX5_stepAmongThings_75 : decode cX5_stepAmongThings 75 = .ok (.iconst 0, 1) := by decide +kernel
theorem dX5_stepAmongThings_76 : decode cX5_stepAmongThings 76 = .ok (.iload_n 2, 1) := by decide +kernel
theorem dX5_stepAmongThings_77 : decode cX5_stepAmongThings 77 = .ok (.invokevirtual 204, 3) := by decide +kernel
theorem dX5_stepAmongThings_80 : decode cX5_stepAmongThings 80 = .ok (.goto 101, 3) := by decide +kernel
theorem dX5_stepAmongThings_181 : decode cX5_stepAmongThings 181 = .ok (.return_, 1) := by decide +kernel
theorem dX5_stepAmongThings_71 : decode cX5_stepAmongThings 71 = .ok (.iconst 1, 1) := by decide +kernel
theorem dX5_stepAmongThings_72 : decode cX5_stepAmongThings 72 = .ok (.goto 4, 3) := by decide +kernel
theorem dX5_stepAmongThings_83 : decode cX5_stepAmongThings 83 = .ok (.aload_n 0, 1) := by decide +kernel
theorem dX5_stepAmongThings_84 : decode cX5_stepAmongThings 84 = .ok (.invokevirtual 207, 3) := by decide +kernel
theorem dX5_stepAmongThings_87 : decode cX5_stepAmongThings 87 = .ok (.goto 94, 3) := by decide +kernel
theorem dX5_stepAmongThings_90 : decode cX5_stepAmongThings 90 = .ok (.aload_n 0, 1) := by decide +kernel
theorem dX5_stepAmongThings_91 : decode cX5_stepAmongThings 91 = .ok (.iload_n 2, 1) := by decide +kernel
theorem dX5_stepAmongThings_92 : decode cX5_stepAmongThings 92 = .ok (.invokevirtual 210, 3) := by decide +kernel
theorem dX5_stepAmongThings_95 : decode cX5_stepAmongThings 95 = .ok (.goto 86, 3) := by decide +kernel
theorem dX5_stepAmongThings_98 : decode cX5_stepAmongThings 98 = .ok (.aload_n 0, 1) := by decide +kernel
theorem dX5_stepAmongThings_99 : decode cX5_stepAmongThings 99 = .ok (.iload_n 2, 1) := by decide +kernel
theorem dX5_stepAmongThings_100 : decode cX5_stepAmongThings 100 = .ok (.invokevirtual 213, 3) := by decide +kernel
theorem dX5_stepAmongThings_103 : decode cX5_stepAmongThings 103 = .ok (.goto 78, 3) := by decide +kernel
theorem dX5_stepAmongThings_106 : decode cX5_stepAmongThings 106 = .ok (.aload_n 0, 1) := by decide +kernel
theorem dX5_stepAmongThings_107 : decode cX5_stepAmongThings 107 = .ok (.invokevirtual 216, 3) := by decide +kernel
theorem dX5_stepAmongThings_110 : decode cX5_stepAmongThings 110 = .ok (.goto 71, 3) := by decide +kernel
theorem dX5_stepAmongThings_113 : decode cX5_stepAmongThings 113 = .ok (.aload_n 0, 1) := by decide +kernel
theorem dX5_stepAmongThings_114 : decode cX5_stepAmongThings 114 = .ok (.invokevirtual 219, 3) := by decide +kernel
theorem dX5_stepAmongThings_117 : decode cX5_stepAmongThings 117 = .ok (.goto 64, 3) := by decide +kernel
theorem dX5_stepAmongThings_120 : decode cX5_stepAmongThings 120 = .ok (.aload_n 0, 1) := by decide +kernel
theorem dX5_stepAmongThings_121 : decode cX5_stepAmongThings 121 = .ok (.invokevirtual 166, 3) := by decide +kernel
theorem dX5_stepAmongThings_124 : decode cX5_stepAmongThings 124 = .ok (.ifCond .eq 57, 3) := by decide +kernel
theorem dX5_stepAmongThings_127 : decode cX5_stepAmongThings 127 = .ok (.aload_n 0, 1) := by decide +kernel
theorem dX5_stepAmongThings_128 : decode cX5_stepAmongThings 128 = .ok (.iload_n 2, 1) := by decide +kernel
theorem dX5_stepAmongThings_129 : decode cX5_stepAmongThings 129 = .ok (.invokevirtual 125, 3) := by decide +kernel
theorem dX5_stepAmongThings_132 : decode cX5_stepAmongThings 132 = .ok (.goto 49, 3) := by decide +kernel
theorem dX5_stepAmongThings_135 : decode cX5_stepAmongThings 135 = .ok (.aload_n 0, 1) := by decide +kernel
theorem dX5_stepAmongThings_136 : decode cX5_stepAmongThings 136 = .ok (.iload_n 2, 1) := by decide +kernel
theorem dX5_stepAmongThings_137 : decode cX5_stepAmongThings 137 = .ok (.aload_n 0, 1) := by decide +kernel
theorem dX5_stepAmongThings_138 : decode cX5_stepAmongThings 138 = .ok (.invokevirtual 180, 3) := by decide +kernel
theorem dX5_stepAmongThings_141 : decode cX5_stepAmongThings 141 = .ok (.l2i, 1) := by decide +kernel
theorem dX5_stepAmongThings_142 : decode cX5_stepAmongThings 142 = .ok (.invokevirtual 222, 3) := by decide +kernel
theorem dX5_stepAmongThings_145 : decode cX5_stepAmongThings 145 = .ok (.goto 36, 3) := by decide +kernel
theorem dX5_stepAmongThings_148 : decode cX5_stepAmongThings 148 = .ok (.aload_n 0, 1) := by decide +kernel
theorem dX5_stepAmongThings_149 : decode cX5_stepAmongThings 149 = .ok (.iload_n 2, 1) := by decide +kernel
theorem dX5_stepAmongThings_150 : decode cX5_stepAmongThings 150 = .ok (.iload_n 3, 1) := by decide +kernel
theorem dX5_stepAmongThings_151 : decode cX5_stepAmongThings 151 = .ok (.invokevirtual 128, 3) := by decide +kernel
theorem dX5_stepAmongThings_154 : decode cX5_stepAmongThings 154 = .ok (.goto 27, 3) := by decide +kernel
theorem dX5_stepAmongThings_157 : decode cX5_stepAmongThings 157 = .ok (.aload_n 0, 1) := by decide +kernel
theorem dX5_stepAmongThings_158 : decode cX5_stepAmongThings 158 = .ok (.iload_n 2, 1) := by decide +kernel
theorem dX5_stepAmongThings_159 : decode cX5_stepAmongThings 159 = .ok (.iload_n 3, 1) := by decide +kernel
theorem dX5_stepAmongThings_160 : decode cX5_stepAmongThings 160 = .ok (.invokevirtual 225, 3) := by decide +kernel
theorem dX5_stepAmongThings_163 : decode cX5_stepAmongThings 163 = .ok (.goto 18, 3) := by decide +kernel
theorem dX5_stepAmongThings_166 : decode cX5_stepAmongThings 166 = .ok (.aload_n 0, 1) := by decide +kernel
theorem dX5_stepAmongThings_167 : decode cX5_stepAmongThings 167 = .ok (.aload_n 0, 1) := by decide +kernel
theorem dX5_stepAmongThings_168 : decode cX5_stepAmongThings 168 = .ok (.invokevirtual 180, 3) := by decide +kernel
theorem dX5_stepAmongThings_171 : decode cX5_stepAmongThings 171 = .ok (.invokevirtual 228, 3) := by decide +kernel
theorem dX5_stepAmongThings_174 : decode cX5_stepAmongThings 174 = .ok (.goto 7, 3) := by decide +kernel
theorem dX5_stepAmongThings_177 : decode cX5_stepAmongThings 177 = .ok (.aload_n 0, 1) := by decide +kernel
theorem dX5_stepAmongThings_178 : decode cX5_stepAmongThings 178 = .ok (.invokevirtual 160, 3) := by decide +kernel
theorem hV_X5_check : yX5_check.cls = RX5 ∧ yX5_check.cls ≠ "java/lang/invoke/MethodHandle" ∧ yX5_check.cls ≠ "java/lang/invoke/VarHandle" ∧ (parseMethodDescriptor yX5_check.desc).map (fun d => d.parameters.length) = some 2 := by decide +kernel
theorem hV_X5_length : yX5_length.cls = RX5 ∧ yX5_length.cls ≠ "java/lang/invoke/MethodHandle" ∧ yX5_length.cls ≠ "java/lang/invoke/VarHandle" ∧ (parseMethodDescriptor yX5_length.desc).map (fun d => d.parameters.length) = some 0 := by decide +kernel
theorem hV_X5_getField : yX5_getField.cls = RX5 ∧ yX5_getField.cls ≠ "java/lang/invoke/MethodHandle" ∧ yX5_getField.cls ≠ "java/lang/invoke/VarHandle" ∧ (parseMethodDescriptor yX5_getField.desc).map (fun d => d.parameters.length) = some 1 := by decide +kernel
theorem hV_X5_putField : yX5_putField.cls = RX5 ∧ yX5_putField.cls ≠ "java/lang/invoke/MethodHandle" ∧ yX5_putField.cls ≠ "java/lang/invoke/VarHandle" ∧ (parseMethodDescriptor yX5_putField.desc).map (fun d => d.parameters.length) = some 1 := by decide +kernel
theorem hV_X5_getElement : yX5_getElement.cls = RX5 ∧ yX5_getElement.cls ≠ "java/lang/invoke/MethodHandle" ∧ yX5_getElement.cls ≠ "java/lang/invoke/VarHandle" ∧ (parseMethodDescriptor yX5_getElement.desc).map (fun d => d.parameters.length) = some 0 := by decide +kernel
theorem hV_X5_putElement : yX5_putElement.cls = RX5 ∧ yX5_putElement.cls ≠ "java/lang/invoke/MethodHandle" ∧ yX5_putElement.cls ≠ "java/lang/invoke/VarHandle" ∧ (parseMethodDescriptor yX5_putElement.desc).map (fun d => d.parameters.length) = some 0 := by decide +kernel
theorem hV_X5_makeObject : yX5_makeObject.cls = RX5 ∧ yX5_makeObject.cls ≠ "java/lang/invoke/MethodHandle" ∧ yX5_makeObject.cls ≠ "java/lang/invoke/VarHandle" ∧ (parseMethodDescriptor yX5_makeObject.desc).map (fun d => d.parameters.length) = some 1 := by decide +kernel
theorem hV_X5_makeArray : yX5_makeArray.cls = RX5 ∧ yX5_makeArray.cls ≠ "java/lang/invoke/MethodHandle" ∧ yX5_makeArray.cls ≠ "java/lang/invoke/VarHandle" ∧ (parseMethodDescriptor yX5_makeArray.desc).map (fun d => d.parameters.length) = some 2 := by decide +kernel
theorem hV_X5_callNearest : yX5_callNearest.cls = RX5 ∧ yX5_callNearest.cls ≠ "java/lang/invoke/MethodHandle" ∧ yX5_callNearest.cls ≠ "java/lang/invoke/VarHandle" ∧ (parseMethodDescriptor yX5_callNearest.desc).map (fun d => d.parameters.length) = some 2 := by decide +kernel
theorem hV_X5_callSuper : yX5_callSuper.cls = RX5 ∧ yX5_callSuper.cls ≠ "java/lang/invoke/MethodHandle" ∧ yX5_callSuper.cls ≠ "java/lang/invoke/VarHandle" ∧ (parseMethodDescriptor yX5_callSuper.desc).map (fun d => d.parameters.length) = some 2 := by decide +kernel
theorem hV_X5_throwValue : yX5_throwValue.cls = RX5 ∧ yX5_throwValue.cls ≠ "java/lang/invoke/MethodHandle" ∧ yX5_throwValue.cls ≠ "java/lang/invoke/VarHandle" ∧ (parseMethodDescriptor yX5_throwValue.desc).map (fun d => d.parameters.length) = some 1 := by decide +kernel
set_option maxHeartbeats 60000000 in
set_option maxRecDepth 100000 in
theorem M_stepThings (l : Launch) (G : pT) (h0 : Nat) (a : Nat → Nat) (F : Nat → Int32) (R : Nat → Value) (Z : Int64) (B : Nat → Nat → Int32) (J : Nat → Nat → Int64) (K : PK) (w : va_W) (x : Int32) (y : Int32) (rt : Nat) (tp : Nat) (sp : Nat) (op : Nat) (ht : Nat) (pq : Nat) (dr : Nat) (ml : Nat) (nd : Nat) (nm : Nat) (cp : Nat) (it : Nat → Nat) (s9 : Nat) (g : Nat → Nat → Nat) (rk : Nat → Nat) (ba : Nat) (on : Nat) (mo : Option Nat) (cs : Nat) (htp : tp ≤ 32000) (hsp : (sp = 34 ∧ op = 35) ∨ (sp = 35 ∧ op = 34)) (hht : 8 ≤ ht ∧ ht ≤ 3008) (hwp : WPr G K g) (hps : PgT G K g (a 1) pq dr ml nd nm cp it s9) (hrk : RkO K rk) (hba : ba ≤ 32000) (hon : on ≤ 100) (hms : MsO K mo ba) (hfr : FrO K nm it (B 30) on) (hcs : cs ≤ 10000) (hrt : rt ≤ 6000) (hO : OKP G h0 a (upd (upd (upd (upd (upd F 5 (nI cs)) 18 (nI ba)) 19 (nI tp)) 22 (nI on)) 26 (nI ht)) (updR (updR (updR (updR R 5 (.ref pq)) 6 (va_rf mo)) 7 (.ref (a sp))) 8 (.ref (a op))) Z B J K w) : PM l G pX0 yX5_stepAmongThings cX5_stepAmongThings 4 none ({ frames := 9, cells := 0, slots := 0, locals := 218 }) [.ref (a 5), .int x, .int y, .int (nI rt)] w (fun (v : Option Value) (u : va_W × (Nat × Int32 × Int32 × Int32 × (Nat → Nat → Int64) × Int64 × (Nat → Int32) × Nat × Nat × Nat × Int32 × Nat × Nat × Option Nat × (Nat → Int32))) => v = none ∧ (u.2.1 ≤ 32000) ∧ (8 ≤ u.2.2.2.2.2.2.2.2.2.2.1 ∧ u.2.2.2.2.2.2.2.2.2.2.1 ≤ 3008) ∧ ((u.2.2.2.2.2.2.2.2.1 = 34 ∧ u.2.2.2.2.2.2.2.2.2.1 = 35) ∨ (u.2.2.2.2.2.2.2.2.1 = 35 ∧ u.2.2.2.2.2.2.2.2.2.1 = 34)) ∧ (u.2.2.2.2.2.2.2.2.2.2.2.2.1 ≤ 32000 ∧ u.2.2.2.2.2.2.2.2.2.2.2.2.2.1 ≤ 100) ∧ (MsO K u.2.2.2.2.2.2.2.2.2.2.2.2.2.2.1 u.2.2.2.2.2.2.2.2.2.2.2.2.1) ∧ (FrO K nm it u.2.2.2.2.2.2.2.2.2.2.2.2.2.2.2 u.2.2.2.2.2.2.2.2.2.2.2.2.2.1) ∧ (OKP G h0 a (upd (upd (upd (upd (upd (upd (upd (upd (upd F 5 (nI cs)) 18 (nI u.2.2.2.2.2.2.2.2.2.2.2.2.1)) 19 (nI u.2.1)) 21 u.2.2.2.2.1) 22 (nI u.2.2.2.2.2.2.2.2.2.2.2.2.2.1)) 23 u.2.2.1) 25 u.2.2.2.1) 26 (nI u.2.2.2.2.2.2.2.2.2.2.1)) 27 u.2.2.2.2.2.2.2.2.2.2.2.1) (updR (updR (updR (updR R 5 (.ref pq)) 6 (va_rf u.2.2.2.2.2.2.2.2.2.2.2.2.2.2.1)) 7 (.ref (a u.2.2.2.2.2.2.2.2.1))) 8 (.ref (a u.2.2.2.2.2.2.2.2.2.1))) u.2.2.2.2.2.2.1 (updA (updA B 30 u.2.2.2.2.2.2.2.2.2.2.2.2.2.2.2) 33 u.2.2.2.2.2.2.2.1) u.2.2.2.2.2.1 K u.1)) (fun u => u.1) := by
  intro sz
  refine Met.ofW (cc := cX5_stepAmongThings) (maxL := 4) (ret := none) (by decide) rfl ?_
  intro p e s m args below meth c s₁ B9 hml hv
  obtain ⟨rfl, hsz, hP, hD0, hE, hX⟩ := hv
  have hx := B9.exec
  have hb := B9.bytes
  have hr := B9.returns
  have hts := atoms_spec (ws := Cond.code yX5_stepAmongThings cX5_stepAmongThings 4 none :: pw) B9.pre
  have hq : ∀ w ∈ pw, w.before _ s = true := fun w h => hts w (List.mem_cons_of_mem _ h)
  have hown : s.vm.findClass RX5 = some m.cls := findClass_of_methodNamed B9.named
  have hlocks := B9.notSynchronized
  subst hsz
  have hD := hD0.self (sz := s.heap.size)
  have hA : ∀ q : Nat, s.heap.size ≤ q → va_A w s.heap.size q := fun q h => Or.inr h
  generalize va_A w s.heap.size = A at hD hE hA ⊢
  have hS : va_S A s.heap s.heap [] := va_S.rf
  have hl := lv_entry ([.ref (a 5), .int x, .int y, .int (nI rt)]) (n := 4) (Nat.le_of_ble_eq_true rfl)
  rw [lg_entry_eq]
  generalize (lg_sl ([.ref (a 5), .int x, .int y, .int (nI rt)]) ++ List.replicate (4 - (lg_sl ([.ref (a 5), .int x, .int y, .int (nI rt)])).length) Slot.unset).toArray = ls at hl ⊢
  have hl : lv_has ls 4 [(0, .ref (a 5)), (1, .int x), (2, .int y), (3, .int (nI rt))] := hl
  have hpg := hps.1
  have hp1 := hpg.1
  have hp2 := hpg.2.1
  have hp3 := hpg.2.2.1
  have hp4 := hpg.2.2.2.1
  have hp5 := hpg.2.2.2.2.1
  have hp6 := hpg.2.2.2.2.2.1
  have hp8 := hpg.2.2.2.2.2.2.2.1
  have hp9 := hpg.2.2.2.2.2.2.2.2
  refine lv_iload_n hx hb dX5_stepAmongThings_0 rfl (lv_at hl 1 rfl) ?_
  by_cases h1 : x = 14
  · subst h1
    refine lv_tableIn (tgt := 64) (off := 63) hx hb dX5_stepAmongThings_1 (by decide) (by decide) (by decide) (by decide) ?_
    refine lv_aload_n hx hb dX5_stepAmongThings_64 rfl (lv_at hl 0 rfl) ?_
    refine lv_iload_n hx hb dX5_stepAmongThings_65 rfl (lv_at hl 1 rfl) ?_
    refine lv_bipush (v := 15) hx hb dX5_stepAmongThings_66 (by decide) ?_
    refine lv_icmp_ne (tgt := 75) hx hb dX5_stepAmongThings_68 (by decide) (fun c2 => ?_) (fun c2 => absurd c2 (by decide))
    refine lv_iconst (v := 0) hx hb dX5_stepAmongThings_75 (by decide) ?_
    refine lv_iload_n hx hb dX5_stepAmongThings_76 rfl (lv_at hl 2 rfl) ?_
    have hO : OKP G h0 a (upd (upd (upd (upd (upd (upd (upd F 5 (nI cs)) 18 (nI ba)) 19 (nI tp)) 22 (nI on)) 26 (nI ht)) 19 (nI tp)) 26 (nI ht)) (updR (updR (updR (updR (updR (updR (updR R 5 (.ref pq)) 6 (va_rf mo)) 7 (.ref (a sp))) 8 (.ref (a op))) 5 (.ref pq)) 7 (.ref (a sp))) 8 (.ref (a op))) Z B J K w := hO.to rfl
    obtain ⟨_, qr6, hqr7⟩ := hO.2.1 28 _ (sg_28 G h0 a _ _ _ _ _)
    refine pc_V0 (G := G) (As := [.int (nI 0), .int y]) (rest := []) hx hb hml hown hq hE hX pX0_al hP hD hS hA hl.1 (M_check l G h0 a (upd (upd (upd (upd (upd F 5 (nI cs)) 18 (nI ba)) 19 (nI tp)) 22 (nI on)) 26 (nI ht)) (updR (updR (updR (updR R 5 (.ref pq)) 6 (va_rf mo)) 7 (.ref (a sp))) 8 (.ref (a op))) Z B J K w 0 y tp sp op ht pq dr ml nd g (by omega) hsp (by omega) hps.1 hps.2.1 (by omega) hO) (gV pw_663 pw_664 pw_665 pw_539 pw_645) hV_X5_check qr6 4 hqr7 rfl rfl rfl (Nat.le_of_ble_eq_true rfl) dX5_stepAmongThings_77 ⟨Nat.le_of_ble_eq_true rfl, Nat.le_of_ble_eq_true rfl⟩ ⟨Nat.le_of_ble_eq_true rfl, Nat.le_of_ble_eq_true rfl⟩ (fun v5 u3 H locs hw4 hP hD hS => ?_)
    obtain ⟨w, tp8, en9, rf10, J11, z12⟩ := u3
    obtain ⟨hw4, h13, hO⟩ := hw4
    have h13 : tp8 ≤ 32000 := h13
    obtain rfl : v5 = none := hw4
    have hO : OKP G h0 a (upd (upd (upd (upd (upd (upd (upd F 5 (nI cs)) 18 (nI ba)) 19 (nI tp8)) 22 (nI on)) 23 en9) 25 rf10) 26 (nI ht)) (updR (updR (updR (updR R 5 (.ref pq)) 6 (va_rf mo)) 7 (.ref (a sp))) 8 (.ref (a op))) z12 B J11 K w := hO.to rfl
    refine W.widen (k := 0) (n := 0) (Nat.le_of_ble_eq_true rfl) (Nat.le_of_ble_eq_true rfl) ?_
    refine W.eq (g2 := F0 m 80 ls []) rfl ?_
    refine lv_goto (tgt := 181) hx hb dX5_stepAmongThings_80 (by decide) ?_
    have hz14 : tp8 ≤ 32000 := (by omega)
    have hz15 : 8 ≤ ht ∧ ht ≤ 3008 := (by omega)
    have hz16 : (sp = 34 ∧ op = 35) ∨ (sp = 35 ∧ op = 34) := (by omega)
    have hz17 : ba ≤ 32000 ∧ on ≤ 100 := (by omega)
    have hz18 : MsO K mo ba := hms
    have hz19 : FrO K nm it (B 30) on := hfr
    have hO : OKP G h0 a (upd (upd (upd (upd (upd (upd (upd (upd (upd F 5 (nI cs)) 18 (nI ba)) 19 (nI tp8)) 21 (F 21)) 22 (nI on)) 23 en9) 25 rf10) 26 (nI ht)) 27 (F 27)) (updR (updR (updR (updR R 5 (.ref pq)) 6 (va_rf mo)) 7 (.ref (a sp))) 8 (.ref (a op))) z12 (updA (updA B 30 (B 30)) 33 (B 33)) J11 K w := hO.to rfl
    exact W.vret hx hb hr (fun t99 ht99 hW99 => ⟨⟨_, (w, (tp8, en9, rf10, (F 21), J11, z12, (B 33), sp, op, ht, (F 27), ba, on, mo, (B 30))), rfl, ⟨rfl, hz14, hz15, hz16, hz17, hz18, hz19, hO⟩, by rw [ht99]; exact hP, hD⟩, hS.F ht99⟩) hS.2.2 dX5_stepAmongThings_181
  by_cases h20 : x = 15
  · subst h20
    refine lv_tableIn (tgt := 64) (off := 63) hx hb dX5_stepAmongThings_1 (by decide) (by decide) (by decide) (by decide) ?_
    refine lv_aload_n hx hb dX5_stepAmongThings_64 rfl (lv_at hl 0 rfl) ?_
    refine lv_iload_n hx hb dX5_stepAmongThings_65 rfl (lv_at hl 1 rfl) ?_
    refine lv_bipush (v := 15) hx hb dX5_stepAmongThings_66 (by decide) ?_
    refine lv_icmp_ne (tgt := 75) hx hb dX5_stepAmongThings_68 (by decide) (fun c21 => absurd c21 (by decide)) (fun c21 => ?_)
    refine lv_iconst (v := 1) hx hb dX5_stepAmongThings_71 (by decide) ?_
    refine lv_goto (tgt := 76) hx hb dX5_stepAmongThings_72 (by decide) ?_
    refine lv_iload_n hx hb dX5_stepAmongThings_76 rfl (lv_at hl 2 rfl) ?_
    have hO : OKP G h0 a (upd (upd (upd (upd (upd (upd (upd F 5 (nI cs)) 18 (nI ba)) 19 (nI tp)) 22 (nI on)) 26 (nI ht)) 19 (nI tp)) 26 (nI ht)) (updR (updR (updR (updR (updR (updR (updR R 5 (.ref pq)) 6 (va_rf mo)) 7 (.ref (a sp))) 8 (.ref (a op))) 5 (.ref pq)) 7 (.ref (a sp))) 8 (.ref (a op))) Z B J K w := hO.to rfl
    obtain ⟨_, qr25, hqr26⟩ := hO.2.1 28 _ (sg_28 G h0 a _ _ _ _ _)
    refine pc_V0 (G := G) (As := [.int (nI 1), .int y]) (rest := []) hx hb hml hown hq hE hX pX0_al hP hD hS hA hl.1 (M_check l G h0 a (upd (upd (upd (upd (upd F 5 (nI cs)) 18 (nI ba)) 19 (nI tp)) 22 (nI on)) 26 (nI ht)) (updR (updR (updR (updR R 5 (.ref pq)) 6 (va_rf mo)) 7 (.ref (a sp))) 8 (.ref (a op))) Z B J K w 1 y tp sp op ht pq dr ml nd g (by omega) hsp (by omega) hps.1 hps.2.1 (by omega) hO) (gV pw_663 pw_664 pw_665 pw_539 pw_645) hV_X5_check qr25 4 hqr26 rfl rfl rfl (Nat.le_of_ble_eq_true rfl) dX5_stepAmongThings_77 ⟨Nat.le_of_ble_eq_true rfl, Nat.le_of_ble_eq_true rfl⟩ ⟨Nat.le_of_ble_eq_true rfl, Nat.le_of_ble_eq_true rfl⟩ (fun v24 u22 H locs hw23 hP hD hS => ?_)
    obtain ⟨w, tp27, en28, rf29, J30, z31⟩ := u22
    obtain ⟨hw23, h32, hO⟩ := hw23
    have h32 : tp27 ≤ 32000 := h32
    obtain rfl : v24 = none := hw23
    have hO : OKP G h0 a (upd (upd (upd (upd (upd (upd (upd F 5 (nI cs)) 18 (nI ba)) 19 (nI tp27)) 22 (nI on)) 23 en28) 25 rf29) 26 (nI ht)) (updR (updR (updR (updR R 5 (.ref pq)) 6 (va_rf mo)) 7 (.ref (a sp))) 8 (.ref (a op))) z31 B J30 K w := hO.to rfl
    refine W.widen (k := 0) (n := 0) (Nat.le_of_ble_eq_true rfl) (Nat.le_of_ble_eq_true rfl) ?_
    refine W.eq (g2 := F0 m 80 ls []) rfl ?_
    refine lv_goto (tgt := 181) hx hb dX5_stepAmongThings_80 (by decide) ?_
    have hz33 : tp27 ≤ 32000 := (by omega)
    have hz34 : 8 ≤ ht ∧ ht ≤ 3008 := (by omega)
    have hz35 : (sp = 34 ∧ op = 35) ∨ (sp = 35 ∧ op = 34) := (by omega)
    have hz36 : ba ≤ 32000 ∧ on ≤ 100 := (by omega)
    have hz37 : MsO K mo ba := hms
    have hz38 : FrO K nm it (B 30) on := hfr
    have hO : OKP G h0 a (upd (upd (upd (upd (upd (upd (upd (upd (upd F 5 (nI cs)) 18 (nI ba)) 19 (nI tp27)) 21 (F 21)) 22 (nI on)) 23 en28) 25 rf29) 26 (nI ht)) 27 (F 27)) (updR (updR (updR (updR R 5 (.ref pq)) 6 (va_rf mo)) 7 (.ref (a sp))) 8 (.ref (a op))) z31 (updA (updA B 30 (B 30)) 33 (B 33)) J30 K w := hO.to rfl
    exact W.vret hx hb hr (fun t99 ht99 hW99 => ⟨⟨_, (w, (tp27, en28, rf29, (F 21), J30, z31, (B 33), sp, op, ht, (F 27), ba, on, mo, (B 30))), rfl, ⟨rfl, hz33, hz34, hz35, hz36, hz37, hz38, hO⟩, by rw [ht99]; exact hP, hD⟩, hS.F ht99⟩) hS.2.2 dX5_stepAmongThings_181
  by_cases h39 : x = 16
  · subst h39
    refine lv_tableIn (tgt := 83) (off := 82) hx hb dX5_stepAmongThings_1 (by decide) (by decide) (by decide) (by decide) ?_
    refine lv_aload_n hx hb dX5_stepAmongThings_83 rfl (lv_at hl 0 rfl) ?_
    have hO : OKW G h0 a (upd (upd (upd (upd (upd (upd (upd F 5 (nI cs)) 18 (nI ba)) 19 (nI tp)) 22 (nI on)) 26 (nI ht)) 19 (nI tp)) 26 (nI ht)) (updR (updR (updR (updR (updR (updR R 5 (.ref pq)) 6 (va_rf mo)) 7 (.ref (a sp))) 8 (.ref (a op))) 7 (.ref (a sp))) 8 (.ref (a op))) Z B J K.1 (fun q99 x99 => x99 = rep G a K q99) w := hO.to rfl
    obtain ⟨_, qr43, hqr44⟩ := hO.2.1 28 _ (sg_28 G h0 a _ _ _ _ _)
    refine pc_V0 (G := G) (As := []) (rest := []) hx hb hml hown hq hE hX pX0_al hP hD hS hA hl.1 (M_length l G h0 a (upd (upd (upd (upd (upd F 5 (nI cs)) 18 (nI ba)) 19 (nI tp)) 22 (nI on)) 26 (nI ht)) (updR (updR (updR (updR R 5 (.ref pq)) 6 (va_rf mo)) 7 (.ref (a sp))) 8 (.ref (a op))) Z B J K.1 (fun q99 x99 => x99 = rep G a K q99) w tp sp op ht (by omega) hsp (by omega) hO) (gV pw_666 pw_667 pw_668 pw_539 pw_647) hV_X5_length qr43 4 hqr44 rfl rfl rfl (Nat.le_of_ble_eq_true rfl) dX5_stepAmongThings_84 ⟨Nat.le_of_ble_eq_true rfl, Nat.le_of_ble_eq_true rfl⟩ ⟨Nat.le_of_ble_eq_true rfl, Nat.le_of_ble_eq_true rfl⟩ (fun v42 u40 H locs hw41 hP hD hS => ?_)
    obtain ⟨w, tp45, en46, rf47, J48, z49⟩ := u40
    obtain ⟨hw41, h50, hO⟩ := hw41
    have h50 : tp45 ≤ 32000 := h50
    obtain rfl : v42 = none := hw41
    have hO : OKP G h0 a (upd (upd (upd (upd (upd (upd (upd F 5 (nI cs)) 18 (nI ba)) 19 (nI tp45)) 22 (nI on)) 23 en46) 25 rf47) 26 (nI ht)) (updR (updR (updR (updR R 5 (.ref pq)) 6 (va_rf mo)) 7 (.ref (a sp))) 8 (.ref (a op))) z49 B J48 K w := hO.to rfl
    refine W.widen (k := 0) (n := 0) (Nat.le_of_ble_eq_true rfl) (Nat.le_of_ble_eq_true rfl) ?_
    refine W.eq (g2 := F0 m 87 ls []) rfl ?_
    refine lv_goto (tgt := 181) hx hb dX5_stepAmongThings_87 (by decide) ?_
    have hz51 : tp45 ≤ 32000 := (by omega)
    have hz52 : 8 ≤ ht ∧ ht ≤ 3008 := (by omega)
    have hz53 : (sp = 34 ∧ op = 35) ∨ (sp = 35 ∧ op = 34) := (by omega)
    have hz54 : ba ≤ 32000 ∧ on ≤ 100 := (by omega)
    have hz55 : MsO K mo ba := hms
    have hz56 : FrO K nm it (B 30) on := hfr
    have hO : OKP G h0 a (upd (upd (upd (upd (upd (upd (upd (upd (upd F 5 (nI cs)) 18 (nI ba)) 19 (nI tp45)) 21 (F 21)) 22 (nI on)) 23 en46) 25 rf47) 26 (nI ht)) 27 (F 27)) (updR (updR (updR (updR R 5 (.ref pq)) 6 (va_rf mo)) 7 (.ref (a sp))) 8 (.ref (a op))) z49 (updA (updA B 30 (B 30)) 33 (B 33)) J48 K w := hO.to rfl
    exact W.vret hx hb hr (fun t99 ht99 hW99 => ⟨⟨_, (w, (tp45, en46, rf47, (F 21), J48, z49, (B 33), sp, op, ht, (F 27), ba, on, mo, (B 30))), rfl, ⟨rfl, hz51, hz52, hz53, hz54, hz55, hz56, hO⟩, by rw [ht99]; exact hP, hD⟩, hS.F ht99⟩) hS.2.2 dX5_stepAmongThings_181
  by_cases h57 : x = 17
  · subst h57
    refine lv_tableIn (tgt := 90) (off := 89) hx hb dX5_stepAmongThings_1 (by decide) (by decide) (by decide) (by decide) ?_
    refine lv_aload_n hx hb dX5_stepAmongThings_90 rfl (lv_at hl 0 rfl) ?_
    refine lv_iload_n hx hb dX5_stepAmongThings_91 rfl (lv_at hl 2 rfl) ?_
    have hO : OKW G h0 a (upd (upd (upd (upd (upd (upd (upd F 5 (nI cs)) 18 (nI ba)) 19 (nI tp)) 22 (nI on)) 26 (nI ht)) 19 (nI tp)) 26 (nI ht)) (updR (updR (updR (updR (updR (updR R 5 (.ref pq)) 6 (va_rf mo)) 7 (.ref (a sp))) 8 (.ref (a op))) 7 (.ref (a sp))) 8 (.ref (a op))) Z B J K.1 (fun q99 x99 => x99 = rep G a K q99) w := hO.to rfl
    obtain ⟨_, qr61, hqr62⟩ := hO.2.1 28 _ (sg_28 G h0 a _ _ _ _ _)
    refine pc_V0 (G := G) (As := [.int y]) (rest := []) hx hb hml hown hq hE hX pX0_al hP hD hS hA hl.1 (M_getField l G h0 a (upd (upd (upd (upd (upd F 5 (nI cs)) 18 (nI ba)) 19 (nI tp)) 22 (nI on)) 26 (nI ht)) (updR (updR (updR (updR R 5 (.ref pq)) 6 (va_rf mo)) 7 (.ref (a sp))) 8 (.ref (a op))) Z B J K.1 (fun q99 x99 => x99 = rep G a K q99) w y tp sp op ht (by omega) hsp (by omega) hO) (gV pw_669 pw_670 pw_671 pw_539 pw_648) hV_X5_getField qr61 4 hqr62 rfl rfl rfl (Nat.le_of_ble_eq_true rfl) dX5_stepAmongThings_92 ⟨Nat.le_of_ble_eq_true rfl, Nat.le_of_ble_eq_true rfl⟩ ⟨Nat.le_of_ble_eq_true rfl, Nat.le_of_ble_eq_true rfl⟩ (fun v60 u58 H locs hw59 hP hD hS => ?_)
    obtain ⟨w, tp63, en64, rf65, J66, z67⟩ := u58
    obtain ⟨hw59, h68, hO⟩ := hw59
    have h68 : tp63 ≤ 32000 := h68
    obtain rfl : v60 = none := hw59
    have hO : OKP G h0 a (upd (upd (upd (upd (upd (upd (upd F 5 (nI cs)) 18 (nI ba)) 19 (nI tp63)) 22 (nI on)) 23 en64) 25 rf65) 26 (nI ht)) (updR (updR (updR (updR R 5 (.ref pq)) 6 (va_rf mo)) 7 (.ref (a sp))) 8 (.ref (a op))) z67 B J66 K w := hO.to rfl
    refine W.widen (k := 0) (n := 0) (Nat.le_of_ble_eq_true rfl) (Nat.le_of_ble_eq_true rfl) ?_
    refine W.eq (g2 := F0 m 95 ls []) rfl ?_
    refine lv_goto (tgt := 181) hx hb dX5_stepAmongThings_95 (by decide) ?_
    have hz69 : tp63 ≤ 32000 := (by omega)
    have hz70 : 8 ≤ ht ∧ ht ≤ 3008 := (by omega)
    have hz71 : (sp = 34 ∧ op = 35) ∨ (sp = 35 ∧ op = 34) := (by omega)
    have hz72 : ba ≤ 32000 ∧ on ≤ 100 := (by omega)
    have hz73 : MsO K mo ba := hms
    have hz74 : FrO K nm it (B 30) on := hfr
    have hO : OKP G h0 a (upd (upd (upd (upd (upd (upd (upd (upd (upd F 5 (nI cs)) 18 (nI ba)) 19 (nI tp63)) 21 (F 21)) 22 (nI on)) 23 en64) 25 rf65) 26 (nI ht)) 27 (F 27)) (updR (updR (updR (updR R 5 (.ref pq)) 6 (va_rf mo)) 7 (.ref (a sp))) 8 (.ref (a op))) z67 (updA (updA B 30 (B 30)) 33 (B 33)) J66 K w := hO.to rfl
    exact W.vret hx hb hr (fun t99 ht99 hW99 => ⟨⟨_, (w, (tp63, en64, rf65, (F 21), J66, z67, (B 33), sp, op, ht, (F 27), ba, on, mo, (B 30))), rfl, ⟨rfl, hz69, hz70, hz71, hz72, hz73, hz74, hO⟩, by rw [ht99]; exact hP, hD⟩, hS.F ht99⟩) hS.2.2 dX5_stepAmongThings_181
  by_cases h75 : x = 18
  · subst h75
    refine lv_tableIn (tgt := 98) (off := 97) hx hb dX5_stepAmongThings_1 (by decide) (by decide) (by decide) (by decide) ?_
    refine lv_aload_n hx hb dX5_stepAmongThings_98 rfl (lv_at hl 0 rfl) ?_
    refine lv_iload_n hx hb dX5_stepAmongThings_99 rfl (lv_at hl 2 rfl) ?_
    have hO : OKW G h0 a (upd (upd (upd (upd (upd (upd (upd F 5 (nI cs)) 18 (nI ba)) 19 (nI tp)) 22 (nI on)) 26 (nI ht)) 19 (nI tp)) 26 (nI ht)) (updR (updR (updR (updR (updR (updR R 5 (.ref pq)) 6 (va_rf mo)) 7 (.ref (a sp))) 8 (.ref (a op))) 7 (.ref (a sp))) 8 (.ref (a op))) Z B J K.1 (fun q99 x99 => x99 = rep G a K q99) w := hO.to rfl
    obtain ⟨_, qr79, hqr80⟩ := hO.2.1 28 _ (sg_28 G h0 a _ _ _ _ _)
    refine pc_V0 (G := G) (As := [.int y]) (rest := []) hx hb hml hown hq hE hX pX0_al hP hD hS hA hl.1 (M_putField l G h0 a (upd (upd (upd (upd (upd F 5 (nI cs)) 18 (nI ba)) 19 (nI tp)) 22 (nI on)) 26 (nI ht)) (updR (updR (updR (updR R 5 (.ref pq)) 6 (va_rf mo)) 7 (.ref (a sp))) 8 (.ref (a op))) Z B J K.1 (fun q99 x99 => x99 = rep G a K q99) w y tp sp op ht (by omega) hsp (by omega) hO) (gV pw_672 pw_673 pw_674 pw_539 pw_652) hV_X5_putField qr79 4 hqr80 rfl rfl rfl (Nat.le_of_ble_eq_true rfl) dX5_stepAmongThings_100 ⟨Nat.le_of_ble_eq_true rfl, Nat.le_of_ble_eq_true rfl⟩ ⟨Nat.le_of_ble_eq_true rfl, Nat.le_of_ble_eq_true rfl⟩ (fun v78 u76 H locs hw77 hP hD hS => ?_)
    obtain ⟨w, tp81, en82, rf83, J84, z85⟩ := u76
    obtain ⟨hw77, h86, hO⟩ := hw77
    have h86 : tp81 ≤ 32000 := h86
    obtain rfl : v78 = none := hw77
    have hO : OKP G h0 a (upd (upd (upd (upd (upd (upd (upd F 5 (nI cs)) 18 (nI ba)) 19 (nI tp81)) 22 (nI on)) 23 en82) 25 rf83) 26 (nI ht)) (updR (updR (updR (updR R 5 (.ref pq)) 6 (va_rf mo)) 7 (.ref (a sp))) 8 (.ref (a op))) z85 B J84 K w := hO.to rfl
    refine W.widen (k := 0) (n := 0) (Nat.le_of_ble_eq_true rfl) (Nat.le_of_ble_eq_true rfl) ?_
    refine W.eq (g2 := F0 m 103 ls []) rfl ?_
    refine lv_goto (tgt := 181) hx hb dX5_stepAmongThings_103 (by decide) ?_
    have hz87 : tp81 ≤ 32000 := (by omega)
    have hz88 : 8 ≤ ht ∧ ht ≤ 3008 := (by omega)
    have hz89 : (sp = 34 ∧ op = 35) ∨ (sp = 35 ∧ op = 34) := (by omega)
    have hz90 : ba ≤ 32000 ∧ on ≤ 100 := (by omega)
    have hz91 : MsO K mo ba := hms
    have hz92 : FrO K nm it (B 30) on := hfr
    have hO : OKP G h0 a (upd (upd (upd (upd (upd (upd (upd (upd (upd F 5 (nI cs)) 18 (nI ba)) 19 (nI tp81)) 21 (F 21)) 22 (nI on)) 23 en82) 25 rf83) 26 (nI ht)) 27 (F 27)) (updR (updR (updR (updR R 5 (.ref pq)) 6 (va_rf mo)) 7 (.ref (a sp))) 8 (.ref (a op))) z85 (updA (updA B 30 (B 30)) 33 (B 33)) J84 K w := hO.to rfl
    exact W.vret hx hb hr (fun t99 ht99 hW99 => ⟨⟨_, (w, (tp81, en82, rf83, (F 21), J84, z85, (B 33), sp, op, ht, (F 27), ba, on, mo, (B 30))), rfl, ⟨rfl, hz87, hz88, hz89, hz90, hz91, hz92, hO⟩, by rw [ht99]; exact hP, hD⟩, hS.F ht99⟩) hS.2.2 dX5_stepAmongThings_181
  by_cases h93 : x = 19
  · subst h93
    refine lv_tableIn (tgt := 106) (off := 105) hx hb dX5_stepAmongThings_1 (by decide) (by decide) (by decide) (by decide) ?_
    refine lv_aload_n hx hb dX5_stepAmongThings_106 rfl (lv_at hl 0 rfl) ?_
    have hO : OKW G h0 a (upd (upd (upd (upd (upd (upd (upd F 5 (nI cs)) 18 (nI ba)) 19 (nI tp)) 22 (nI on)) 26 (nI ht)) 19 (nI tp)) 26 (nI ht)) (updR (updR (updR (updR (updR (updR R 5 (.ref pq)) 6 (va_rf mo)) 7 (.ref (a sp))) 8 (.ref (a op))) 7 (.ref (a sp))) 8 (.ref (a op))) Z B J K.1 (fun q99 x99 => x99 = rep G a K q99) w := hO.to rfl
    obtain ⟨_, qr97, hqr98⟩ := hO.2.1 28 _ (sg_28 G h0 a _ _ _ _ _)
    refine pc_V0 (G := G) (As := []) (rest := []) hx hb hml hown hq hE hX pX0_al hP hD hS hA hl.1 (M_getElement l G h0 a (upd (upd (upd (upd (upd F 5 (nI cs)) 18 (nI ba)) 19 (nI tp)) 22 (nI on)) 26 (nI ht)) (updR (updR (updR (updR R 5 (.ref pq)) 6 (va_rf mo)) 7 (.ref (a sp))) 8 (.ref (a op))) Z B J K.1 (fun q99 x99 => x99 = rep G a K q99) w tp sp op ht (by omega) hsp (by omega) hO) (gV pw_675 pw_676 pw_677 pw_539 pw_657) hV_X5_getElement qr97 4 hqr98 rfl rfl rfl (Nat.le_of_ble_eq_true rfl) dX5_stepAmongThings_107 ⟨Nat.le_of_ble_eq_true rfl, Nat.le_of_ble_eq_true rfl⟩ ⟨Nat.le_of_ble_eq_true rfl, Nat.le_of_ble_eq_true rfl⟩ (fun v96 u94 H locs hw95 hP hD hS => ?_)
    obtain ⟨w, tp99, en100, rf101, J102, z103⟩ := u94
    obtain ⟨hw95, h104, hO⟩ := hw95
    have h104 : tp99 ≤ 32000 := h104
    obtain rfl : v96 = none := hw95
    have hO : OKP G h0 a (upd (upd (upd (upd (upd (upd (upd F 5 (nI cs)) 18 (nI ba)) 19 (nI tp99)) 22 (nI on)) 23 en100) 25 rf101) 26 (nI ht)) (updR (updR (updR (updR R 5 (.ref pq)) 6 (va_rf mo)) 7 (.ref (a sp))) 8 (.ref (a op))) z103 B J102 K w := hO.to rfl
    refine W.widen (k := 0) (n := 0) (Nat.le_of_ble_eq_true rfl) (Nat.le_of_ble_eq_true rfl) ?_
    refine W.eq (g2 := F0 m 110 ls []) rfl ?_
    refine lv_goto (tgt := 181) hx hb dX5_stepAmongThings_110 (by decide) ?_
    have hz105 : tp99 ≤ 32000 := (by omega)
    have hz106 : 8 ≤ ht ∧ ht ≤ 3008 := (by omega)
    have hz107 : (sp = 34 ∧ op = 35) ∨ (sp = 35 ∧ op = 34) := (by omega)
    have hz108 : ba ≤ 32000 ∧ on ≤ 100 := (by omega)
    have hz109 : MsO K mo ba := hms
    have hz110 : FrO K nm it (B 30) on := hfr
    have hO : OKP G h0 a (upd (upd (upd (upd (upd (upd (upd (upd (upd F 5 (nI cs)) 18 (nI ba)) 19 (nI tp99)) 21 (F 21)) 22 (nI on)) 23 en100) 25 rf101) 26 (nI ht)) 27 (F 27)) (updR (updR (updR (updR R 5 (.ref pq)) 6 (va_rf mo)) 7 (.ref (a sp))) 8 (.ref (a op))) z103 (updA (updA B 30 (B 30)) 33 (B 33)) J102 K w := hO.to rfl
    exact W.vret hx hb hr (fun t99 ht99 hW99 => ⟨⟨_, (w, (tp99, en100, rf101, (F 21), J102, z103, (B 33), sp, op, ht, (F 27), ba, on, mo, (B 30))), rfl, ⟨rfl, hz105, hz106, hz107, hz108, hz109, hz110, hO⟩, by rw [ht99]; exact hP, hD⟩, hS.F ht99⟩) hS.2.2 dX5_stepAmongThings_181
  by_cases h111 : x = 20
  · subst h111
    refine lv_tableIn (tgt := 113) (off := 112) hx hb dX5_stepAmongThings_1 (by decide) (by decide) (by decide) (by decide) ?_
    refine lv_aload_n hx hb dX5_stepAmongThings_113 rfl (lv_at hl 0 rfl) ?_
    have hO : OKP G h0 a (upd (upd (upd (upd (upd (upd (upd F 5 (nI cs)) 18 (nI ba)) 19 (nI tp)) 22 (nI on)) 26 (nI ht)) 19 (nI tp)) 26 (nI ht)) (updR (updR (updR (updR (updR (updR (updR R 5 (.ref pq)) 6 (va_rf mo)) 7 (.ref (a sp))) 8 (.ref (a op))) 5 (.ref pq)) 7 (.ref (a sp))) 8 (.ref (a op))) Z B J K w := hO.to rfl
    obtain ⟨_, qr115, hqr116⟩ := hO.2.1 28 _ (sg_28 G h0 a _ _ _ _ _)
    refine pc_V0 (G := G) (As := []) (rest := []) hx hb hml hown hq hE hX pX0_al hP hD hS hA hl.1 (M_putElement l G h0 a (upd (upd (upd (upd (upd F 5 (nI cs)) 18 (nI ba)) 19 (nI tp)) 22 (nI on)) 26 (nI ht)) (updR (updR (updR (updR R 5 (.ref pq)) 6 (va_rf mo)) 7 (.ref (a sp))) 8 (.ref (a op))) Z B J K w tp sp op ht pq dr ml nd g (by omega) hsp (by omega) hps.1 hps.2.1 hO) (gV pw_678 pw_679 pw_680 pw_539 pw_658) hV_X5_putElement qr115 4 hqr116 rfl rfl rfl (Nat.le_of_ble_eq_true rfl) dX5_stepAmongThings_114 ⟨Nat.le_of_ble_eq_true rfl, Nat.le_of_ble_eq_true rfl⟩ ⟨Nat.le_of_ble_eq_true rfl, Nat.le_of_ble_eq_true rfl⟩ (fun v114 u112 H locs hw113 hP hD hS => ?_)
    obtain ⟨w, tp117, en118, rf119, J120, z121⟩ := u112
    obtain ⟨hw113, h122, hO⟩ := hw113
    have h122 : tp117 ≤ 32000 := h122
    obtain rfl : v114 = none := hw113
    have hO : OKP G h0 a (upd (upd (upd (upd (upd (upd (upd F 5 (nI cs)) 18 (nI ba)) 19 (nI tp117)) 22 (nI on)) 23 en118) 25 rf119) 26 (nI ht)) (updR (updR (updR (updR R 5 (.ref pq)) 6 (va_rf mo)) 7 (.ref (a sp))) 8 (.ref (a op))) z121 B J120 K w := hO.to rfl
    refine W.widen (k := 0) (n := 0) (Nat.le_of_ble_eq_true rfl) (Nat.le_of_ble_eq_true rfl) ?_
    refine W.eq (g2 := F0 m 117 ls []) rfl ?_
    refine lv_goto (tgt := 181) hx hb dX5_stepAmongThings_117 (by decide) ?_
    have hz123 : tp117 ≤ 32000 := (by omega)
    have hz124 : 8 ≤ ht ∧ ht ≤ 3008 := (by omega)
    have hz125 : (sp = 34 ∧ op = 35) ∨ (sp = 35 ∧ op = 34) := (by omega)
    have hz126 : ba ≤ 32000 ∧ on ≤ 100 := (by omega)
    have hz127 : MsO K mo ba := hms
    have hz128 : FrO K nm it (B 30) on := hfr
    have hO : OKP G h0 a (upd (upd (upd (upd (upd (upd (upd (upd (upd F 5 (nI cs)) 18 (nI ba)) 19 (nI tp117)) 21 (F 21)) 22 (nI on)) 23 en118) 25 rf119) 26 (nI ht)) 27 (F 27)) (updR (updR (updR (updR R 5 (.ref pq)) 6 (va_rf mo)) 7 (.ref (a sp))) 8 (.ref (a op))) z121 (updA (updA B 30 (B 30)) 33 (B 33)) J120 K w := hO.to rfl
    exact W.vret hx hb hr (fun t99 ht99 hW99 => ⟨⟨_, (w, (tp117, en118, rf119, (F 21), J120, z121, (B 33), sp, op, ht, (F 27), ba, on, mo, (B 30))), rfl, ⟨rfl, hz123, hz124, hz125, hz126, hz127, hz128, hO⟩, by rw [ht99]; exact hP, hD⟩, hS.F ht99⟩) hS.2.2 dX5_stepAmongThings_181
  by_cases h129 : x = 21
  · subst h129
    refine lv_tableIn (tgt := 120) (off := 119) hx hb dX5_stepAmongThings_1 (by decide) (by decide) (by decide) (by decide) ?_
    refine lv_aload_n hx hb dX5_stepAmongThings_120 rfl (lv_at hl 0 rfl) ?_
    have hO : OKW G h0 a (upd (upd (upd (upd (upd F 5 (nI cs)) 18 (nI ba)) 19 (nI tp)) 22 (nI on)) 26 (nI ht)) (updR (updR (updR (updR R 5 (.ref pq)) 6 (va_rf mo)) 7 (.ref (a sp))) 8 (.ref (a op))) Z B J K.1 (fun q99 x99 => x99 = rep G a K q99) w := hO.to rfl
    obtain ⟨_, qr133, hqr134⟩ := hO.2.1 28 _ (sg_28 G h0 a _ _ _ _ _)
    refine pc_V0 (G := G) (As := []) (rest := []) hx hb hml hown hq hE hX pX0_al hP hD hS hA hl.1 (M_burn l G h0 a (upd (upd (upd (upd (upd F 5 (nI cs)) 18 (nI ba)) 19 (nI tp)) 22 (nI on)) 26 (nI ht)) (updR (updR (updR (updR R 5 (.ref pq)) 6 (va_rf mo)) 7 (.ref (a sp))) 8 (.ref (a op))) Z B J K.1 (fun q99 x99 => x99 = rep G a K q99) w hO) (gV pw_567 pw_568 pw_569 pw_539 pw_560) hV_X5_burn qr133 4 hqr134 rfl rfl rfl (Nat.le_of_ble_eq_true rfl) dX5_stepAmongThings_121 ⟨Nat.le_of_ble_eq_true rfl, Nat.le_of_ble_eq_true rfl⟩ ⟨Nat.le_of_ble_eq_true rfl, Nat.le_of_ble_eq_true rfl⟩ (fun v132 u130 H locs hw131 hP hD hS => ?_)
    obtain ⟨w, r135, en136, ta137⟩ := u130
    obtain ⟨hw131, h138, hO⟩ := hw131
    have h138 : r135 ≤ 1 := h138
    obtain rfl : v132 = some (.int (nI r135)) := hw131
    have hO : OKP G h0 a (upd (upd (upd (upd (upd (upd F 5 (nI cs)) 18 (nI ba)) 19 (nI tp)) 22 (nI on)) 23 en136) 26 (nI ht)) (updR (updR (updR (updR R 5 (.ref pq)) 6 (va_rf mo)) 7 (.ref (a sp))) 8 (.ref (a op))) Z (updA B 33 ta137) J K w := hO.to rfl
    refine W.widen (k := 0) (n := 0) (Nat.le_of_ble_eq_true rfl) (Nat.le_of_ble_eq_true rfl) ?_
    refine W.eq (g2 := F0 m 124 ls [.int (nI r135)]) rfl ?_
    refine lv_if_eq (tgt := 181) hx hb dX5_stepAmongThings_124 (by decide) (fun c139 => ?_) (fun c139 => ?_)
    · have n140 : r135 = 0 := (nI_eq (a := r135) (b := 0) (by omega) (by omega)).mp c139
      have hz141 : tp ≤ 32000 := (by omega)
      have hz142 : 8 ≤ ht ∧ ht ≤ 3008 := (by omega)
      have hz143 : (sp = 34 ∧ op = 35) ∨ (sp = 35 ∧ op = 34) := (by omega)
      have hz144 : ba ≤ 32000 ∧ on ≤ 100 := (by omega)
      have hz145 : MsO K mo ba := hms
      have hz146 : FrO K nm it (B 30) on := hfr
      have hO : OKP G h0 a (upd (upd (upd (upd (upd (upd (upd (upd (upd F 5 (nI cs)) 18 (nI ba)) 19 (nI tp)) 21 (F 21)) 22 (nI on)) 23 en136) 25 (F 25)) 26 (nI ht)) 27 (F 27)) (updR (updR (updR (updR R 5 (.ref pq)) 6 (va_rf mo)) 7 (.ref (a sp))) 8 (.ref (a op))) Z (updA (updA B 30 (B 30)) 33 ta137) J K w := hO.to rfl
      exact W.vret hx hb hr (fun t99 ht99 hW99 => ⟨⟨_, (w, (tp, en136, (F 25), (F 21), J, Z, ta137, sp, op, ht, (F 27), ba, on, mo, (B 30))), rfl, ⟨rfl, hz141, hz142, hz143, hz144, hz145, hz146, hO⟩, by rw [ht99]; exact hP, hD⟩, hS.F ht99⟩) hS.2.2 dX5_stepAmongThings_181
    · have n147 : ¬ (r135 = 0) := fun h9 => c139 ((nI_eq (a := r135) (b := 0) (by omega) (by omega)).mpr h9)
      refine lv_aload_n hx hb dX5_stepAmongThings_127 rfl (lv_at hl 0 rfl) ?_
      refine lv_iload_n hx hb dX5_stepAmongThings_128 rfl (lv_at hl 2 rfl) ?_
      have hO : OKP G h0 a (upd (upd (upd (upd (upd (upd (upd (upd (upd (upd (upd F 5 (nI cs)) 18 (nI ba)) 19 (nI tp)) 22 (nI on)) 23 en136) 26 (nI ht)) 5 (nI cs)) 18 (nI ba)) 19 (nI tp)) 22 (nI on)) 26 (nI ht)) (updR (updR (updR (updR (updR (updR (updR (updR R 5 (.ref pq)) 6 (va_rf mo)) 7 (.ref (a sp))) 8 (.ref (a op))) 5 (.ref pq)) 6 (va_rf mo)) 7 (.ref (a sp))) 8 (.ref (a op))) Z (updA B 33 ta137) J K w := hO.to rfl
      obtain ⟨_, qr151, hqr152⟩ := hO.2.1 28 _ (sg_28 G h0 a _ _ _ _ _)
      refine pc_V0 (G := G) (As := [.int y]) (rest := []) hx hb hml hown hq hE hX pX0_al hP hD hS hA hl.1 (M_makeObject l G h0 a (upd (upd (upd (upd (upd (upd F 5 (nI cs)) 18 (nI ba)) 19 (nI tp)) 22 (nI on)) 23 en136) 26 (nI ht)) (updR (updR (updR (updR R 5 (.ref pq)) 6 (va_rf mo)) 7 (.ref (a sp))) 8 (.ref (a op))) Z (updA B 33 ta137) J K w y tp sp op ht pq dr ml nd nm cp it s9 g rk ba on mo cs (by omega) hsp (by omega) hwp hps hrk (by omega) (by omega) hms hfr (by omega) hO) (gV pw_587 pw_588 pw_589 pw_539 pw_559) hV_X5_makeObject qr151 4 hqr152 rfl rfl rfl (Nat.le_of_ble_eq_true rfl) dX5_stepAmongThings_129 ⟨Nat.le_of_ble_eq_true rfl, Nat.le_of_ble_eq_true rfl⟩ ⟨Nat.le_of_ble_eq_true rfl, Nat.le_of_ble_eq_true rfl⟩ (fun v150 u148 H locs hw149 hP hD hS => ?_)
      obtain ⟨w, tp153, en154, rf155, ta156, J157, sp158, op159, ht160, ot161⟩ := u148
      obtain ⟨hw149, h162, h163, h164, hO⟩ := hw149
      have h162 : tp153 ≤ 32000 := h162
      have h163 : 8 ≤ ht160 ∧ ht160 ≤ 3008 := h163
      have h164 : (sp158 = 34 ∧ op159 = 35) ∨ (sp158 = 35 ∧ op159 = 34) := h164
      obtain rfl : v150 = none := hw149
      have hO : OKP G h0 a (upd (upd (upd (upd (upd (upd (upd (upd F 5 (nI cs)) 18 (nI ba)) 19 (nI tp153)) 22 (nI on)) 23 en154) 25 rf155) 26 (nI ht160)) 27 ot161) (updR (updR (updR (updR R 5 (.ref pq)) 6 (va_rf mo)) 7 (.ref (a sp158))) 8 (.ref (a op159))) Z (updA B 33 ta156) J157 K w := hO.to rfl
      refine W.widen (k := 0) (n := 0) (Nat.le_of_ble_eq_true rfl) (Nat.le_of_ble_eq_true rfl) ?_
      refine W.eq (g2 := F0 m 132 ls []) rfl ?_
      refine lv_goto (tgt := 181) hx hb dX5_stepAmongThings_132 (by decide) ?_
      have hz165 : tp153 ≤ 32000 := (by omega)
      have hz166 : 8 ≤ ht160 ∧ ht160 ≤ 3008 := (by omega)
      have hz167 : (sp158 = 34 ∧ op159 = 35) ∨ (sp158 = 35 ∧ op159 = 34) := (by omega)
      have hz168 : ba ≤ 32000 ∧ on ≤ 100 := (by omega)
      have hz169 : MsO K mo ba := hms
      have hz170 : FrO K nm it (B 30) on := hfr
      have hO : OKP G h0 a (upd (upd (upd (upd (upd (upd (upd (upd (upd F 5 (nI cs)) 18 (nI ba)) 19 (nI tp153)) 21 (F 21)) 22 (nI on)) 23 en154) 25 rf155) 26 (nI ht160)) 27 ot161) (updR (updR (updR (updR R 5 (.ref pq)) 6 (va_rf mo)) 7 (.ref (a sp158))) 8 (.ref (a op159))) Z (updA (updA B 30 (B 30)) 33 ta156) J157 K w := hO.to rfl
      exact W.vret hx hb hr (fun t99 ht99 hW99 => ⟨⟨_, (w, (tp153, en154, rf155, (F 21), J157, Z, ta156, sp158, op159, ht160, ot161, ba, on, mo, (B 30))), rfl, ⟨rfl, hz165, hz166, hz167, hz168, hz169, hz170, hO⟩, by rw [ht99]; exact hP, hD⟩, hS.F ht99⟩) hS.2.2 dX5_stepAmongThings_181
  by_cases h171 : x = 22
  · subst h171
    refine lv_tableIn (tgt := 135) (off := 134) hx hb dX5_stepAmongThings_1 (by decide) (by decide) (by decide) (by decide) ?_
    refine lv_aload_n hx hb dX5_stepAmongThings_135 rfl (lv_at hl 0 rfl) ?_
    refine lv_iload_n hx hb dX5_stepAmongThings_136 rfl (lv_at hl 2 rfl) ?_
    refine lv_aload_n hx hb dX5_stepAmongThings_137 rfl (lv_at hl 0 rfl) ?_
    have hO : OKW G h0 a (upd (upd (upd (upd (upd (upd F 5 (nI cs)) 18 (nI ba)) 19 (nI tp)) 22 (nI on)) 26 (nI ht)) 19 (nI tp)) (updR (updR (updR (updR R 5 (.ref pq)) 6 (va_rf mo)) 7 (.ref (a sp))) 8 (.ref (a op))) Z B J K.1 (fun q99 x99 => x99 = rep G a K q99) w := hO.to rfl
    obtain ⟨_, qr175, hqr176⟩ := hO.2.1 28 _ (sg_28 G h0 a _ _ _ _ _)
    refine pc_V0 (G := G) (As := []) (rest := [.int y, .ref (a 5)]) hx hb hml hown hq hE hX pX0_al hP hD hS hA hl.1 (M_pop l G h0 a (upd (upd (upd (upd (upd F 5 (nI cs)) 18 (nI ba)) 19 (nI tp)) 22 (nI on)) 26 (nI ht)) (updR (updR (updR (updR R 5 (.ref pq)) 6 (va_rf mo)) 7 (.ref (a sp))) 8 (.ref (a op))) Z B J K.1 (fun q99 x99 => x99 = rep G a K q99) w tp (by omega) hO) (gV pw_598 pw_599 pw_600 pw_539 pw_595) hV_X5_pop qr175 4 hqr176 rfl rfl rfl (Nat.le_of_ble_eq_true rfl) dX5_stepAmongThings_138 ⟨Nat.le_of_ble_eq_true rfl, Nat.le_of_ble_eq_true rfl⟩ ⟨Nat.le_of_ble_eq_true rfl, Nat.le_of_ble_eq_true rfl⟩ (fun v174 u172 H locs hw173 hP hD hS => ?_)
    obtain ⟨w, r177, tp178, en179, rf180, J181⟩ := u172
    obtain ⟨hw173, h182, hO⟩ := hw173
    have h182 : tp178 ≤ 32000 := h182
    obtain rfl : v174 = some (.long r177) := hw173
    have hO : OKP G h0 a (upd (upd (upd (upd (upd (upd (upd F 5 (nI cs)) 18 (nI ba)) 19 (nI tp178)) 22 (nI on)) 23 en179) 25 rf180) 26 (nI ht)) (updR (updR (updR (updR R 5 (.ref pq)) 6 (va_rf mo)) 7 (.ref (a sp))) 8 (.ref (a op))) Z B J181 K w := hO.to rfl
    refine W.widen (k := 0) (n := 0) (Nat.le_of_ble_eq_true rfl) (Nat.le_of_ble_eq_true rfl) ?_
    refine W.eq (g2 := F0 m 141 ls [.long r177, .int y, .ref (a 5)]) rfl ?_
    refine lv_l2i hx hb dX5_stepAmongThings_141 rfl ?_
    refine lv_topi (fun x183 e184 => ?_)
    have hO : OKP G h0 a (upd (upd (upd (upd (upd (upd (upd (upd (upd (upd (upd (upd F 5 (nI cs)) 18 (nI ba)) 19 (nI tp178)) 22 (nI on)) 23 en179) 25 rf180) 26 (nI ht)) 5 (nI cs)) 18 (nI ba)) 19 (nI tp178)) 22 (nI on)) 26 (nI ht)) (updR (updR (updR (updR (updR (updR (updR (updR R 5 (.ref pq)) 6 (va_rf mo)) 7 (.ref (a sp))) 8 (.ref (a op))) 5 (.ref pq)) 6 (va_rf mo)) 7 (.ref (a sp))) 8 (.ref (a op))) Z B J181 K w := hO.to rfl
    obtain ⟨_, qr188, hqr189⟩ := hO.2.1 28 _ (sg_28 G h0 a _ _ _ _ _)
    refine pc_V0 (G := G) (As := [.int y, .int x183]) (rest := []) hx hb hml hown hq hE hX pX0_al hP hD hS hA hl.1 (M_makeArray l G h0 a (upd (upd (upd (upd (upd (upd (upd F 5 (nI cs)) 18 (nI ba)) 19 (nI tp178)) 22 (nI on)) 23 en179) 25 rf180) 26 (nI ht)) (updR (updR (updR (updR R 5 (.ref pq)) 6 (va_rf mo)) 7 (.ref (a sp))) 8 (.ref (a op))) Z B J181 K w y x183 tp178 sp op ht pq dr ml nd nm cp it s9 g rk ba on mo cs (by omega) hsp (by omega) hwp hps hrk (by omega) (by omega) hms hfr (by omega) hO) (gV pw_681 pw_682 pw_683 pw_539 pw_660) hV_X5_makeArray qr188 4 hqr189 rfl rfl rfl (Nat.le_of_ble_eq_true rfl) dX5_stepAmongThings_142 ⟨Nat.le_of_ble_eq_true rfl, Nat.le_of_ble_eq_true rfl⟩ ⟨Nat.le_of_ble_eq_true rfl, Nat.le_of_ble_eq_true rfl⟩ (fun v187 u185 H locs hw186 hP hD hS => ?_)
    obtain ⟨w, tp190, en191, rf192, ta193, J194, z195, sp196, op197, ht198, ot199⟩ := u185
    obtain ⟨hw186, h200, h201, h202, hO⟩ := hw186
    have h200 : tp190 ≤ 32000 := h200
    have h201 : 8 ≤ ht198 ∧ ht198 ≤ 3008 := h201
    have h202 : (sp196 = 34 ∧ op197 = 35) ∨ (sp196 = 35 ∧ op197 = 34) := h202
    obtain rfl : v187 = none := hw186
    have hO : OKP G h0 a (upd (upd (upd (upd (upd (upd (upd (upd F 5 (nI cs)) 18 (nI ba)) 19 (nI tp190)) 22 (nI on)) 23 en191) 25 rf192) 26 (nI ht198)) 27 ot199) (updR (updR (updR (updR R 5 (.ref pq)) 6 (va_rf mo)) 7 (.ref (a sp196))) 8 (.ref (a op197))) z195 (updA B 33 ta193) J194 K w := hO.to rfl
    refine W.widen (k := 0) (n := 0) (Nat.le_of_ble_eq_true rfl) (Nat.le_of_ble_eq_true rfl) ?_
    refine W.eq (g2 := F0 m 145 ls []) rfl ?_
    refine lv_goto (tgt := 181) hx hb dX5_stepAmongThings_145 (by decide) ?_
    have hz203 : tp190 ≤ 32000 := (by omega)
    have hz204 : 8 ≤ ht198 ∧ ht198 ≤ 3008 := (by omega)
    have hz205 : (sp196 = 34 ∧ op197 = 35) ∨ (sp196 = 35 ∧ op197 = 34) := (by omega)
    have hz206 : ba ≤ 32000 ∧ on ≤ 100 := (by omega)
    have hz207 : MsO K mo ba := hms
    have hz208 : FrO K nm it (B 30) on := hfr
    have hO : OKP G h0 a (upd (upd (upd (upd (upd (upd (upd (upd (upd F 5 (nI cs)) 18 (nI ba)) 19 (nI tp190)) 21 (F 21)) 22 (nI on)) 23 en191) 25 rf192) 26 (nI ht198)) 27 ot199) (updR (updR (updR (updR R 5 (.ref pq)) 6 (va_rf mo)) 7 (.ref (a sp196))) 8 (.ref (a op197))) z195 (updA (updA B 30 (B 30)) 33 ta193) J194 K w := hO.to rfl
    exact W.vret hx hb hr (fun t99 ht99 hW99 => ⟨⟨_, (w, (tp190, en191, rf192, (F 21), J194, z195, ta193, sp196, op197, ht198, ot199, ba, on, mo, (B 30))), rfl, ⟨rfl, hz203, hz204, hz205, hz206, hz207, hz208, hO⟩, by rw [ht99]; exact hP, hD⟩, hS.F ht99⟩) hS.2.2 dX5_stepAmongThings_181
  by_cases h209 : x = 23
  · subst h209
    refine lv_tableIn (tgt := 148) (off := 147) hx hb dX5_stepAmongThings_1 (by decide) (by decide) (by decide) (by decide) ?_
    refine lv_aload_n hx hb dX5_stepAmongThings_148 rfl (lv_at hl 0 rfl) ?_
    refine lv_iload_n hx hb dX5_stepAmongThings_149 rfl (lv_at hl 2 rfl) ?_
    refine lv_iload_n hx hb dX5_stepAmongThings_150 rfl (lv_at hl 3 rfl) ?_
    have hO : OKP G h0 a (upd (upd (upd (upd (upd (upd (upd (upd (upd F 5 (nI cs)) 18 (nI ba)) 19 (nI tp)) 22 (nI on)) 26 (nI ht)) 18 (nI ba)) 19 (nI tp)) 22 (nI on)) 26 (nI ht)) (updR (updR (updR (updR (updR (updR (updR (updR R 5 (.ref pq)) 6 (va_rf mo)) 7 (.ref (a sp))) 8 (.ref (a op))) 5 (.ref pq)) 6 (va_rf mo)) 7 (.ref (a sp))) 8 (.ref (a op))) Z B J K w := hO.to rfl
    obtain ⟨_, qr213, hqr214⟩ := hO.2.1 28 _ (sg_28 G h0 a _ _ _ _ _)
    refine pc_V0 (G := G) (As := [.int y, .int (nI rt)]) (rest := []) hx hb hml hown hq hE hX pX0_al hP hD hS hA hl.1 (M_callNearest l G h0 a (upd (upd (upd (upd (upd F 5 (nI cs)) 18 (nI ba)) 19 (nI tp)) 22 (nI on)) 26 (nI ht)) (updR (updR (updR (updR R 5 (.ref pq)) 6 (va_rf mo)) 7 (.ref (a sp))) 8 (.ref (a op))) Z B J K w y rt tp sp op ht pq dr ml nd nm cp it s9 g rk ba on mo (by omega) hsp (by omega) hwp hps hrk (by omega) (by omega) hms hfr (by omega) hO) (gV pw_590 pw_591 pw_592 pw_539 pw_577) hV_X5_callNearest qr213 4 hqr214 rfl rfl rfl (Nat.le_of_ble_eq_true rfl) dX5_stepAmongThings_151 ⟨Nat.le_of_ble_eq_true rfl, Nat.le_of_ble_eq_true rfl⟩ ⟨Nat.le_of_ble_eq_true rfl, Nat.le_of_ble_eq_true rfl⟩ (fun v212 u210 H locs hw211 hP hD hS => ?_)
    obtain ⟨w, tp215, en216, rf217, nx218, ta219, z220, ba221, on222, mo223, fr224⟩ := u210
    obtain ⟨hw211, h225, h226, h227, h228, hO⟩ := hw211
    have h225 : tp215 ≤ 32000 := h225
    have h226 : ba221 ≤ 32000 ∧ on222 ≤ 100 := h226
    have h227 : MsO K mo223 ba221 := h227
    have h228 : FrO K nm it fr224 on222 := h228
    obtain rfl : v212 = none := hw211
    have hO : OKP G h0 a (upd (upd (upd (upd (upd (upd (upd (upd F 5 (nI cs)) 18 (nI ba221)) 19 (nI tp215)) 21 nx218) 22 (nI on222)) 23 en216) 25 rf217) 26 (nI ht)) (updR (updR (updR (updR R 5 (.ref pq)) 6 (va_rf mo223)) 7 (.ref (a sp))) 8 (.ref (a op))) z220 (updA (updA B 30 fr224) 33 ta219) J K w := hO.to rfl
    refine W.widen (k := 0) (n := 0) (Nat.le_of_ble_eq_true rfl) (Nat.le_of_ble_eq_true rfl) ?_
    refine W.eq (g2 := F0 m 154 ls []) rfl ?_
    refine lv_goto (tgt := 181) hx hb dX5_stepAmongThings_154 (by decide) ?_
    have hz229 : tp215 ≤ 32000 := (by omega)
    have hz230 : 8 ≤ ht ∧ ht ≤ 3008 := (by omega)
    have hz231 : (sp = 34 ∧ op = 35) ∨ (sp = 35 ∧ op = 34) := (by omega)
    have hz232 : ba221 ≤ 32000 ∧ on222 ≤ 100 := (by omega)
    have hz233 : MsO K mo223 ba221 := h227
    have hz234 : FrO K nm it fr224 on222 := h228
    have hO : OKP G h0 a (upd (upd (upd (upd (upd (upd (upd (upd (upd F 5 (nI cs)) 18 (nI ba221)) 19 (nI tp215)) 21 nx218) 22 (nI on222)) 23 en216) 25 rf217) 26 (nI ht)) 27 (F 27)) (updR (updR (updR (updR R 5 (.ref pq)) 6 (va_rf mo223)) 7 (.ref (a sp))) 8 (.ref (a op))) z220 (updA (updA B 30 fr224) 33 ta219) J K w := hO.to rfl
    exact W.vret hx hb hr (fun t99 ht99 hW99 => ⟨⟨_, (w, (tp215, en216, rf217, nx218, J, z220, ta219, sp, op, ht, (F 27), ba221, on222, mo223, fr224)), rfl, ⟨rfl, hz229, hz230, hz231, hz232, hz233, hz234, hO⟩, by rw [ht99]; exact hP, hD⟩, hS.F ht99⟩) hS.2.2 dX5_stepAmongThings_181
  by_cases h235 : x = 24
  · subst h235
    refine lv_tableIn (tgt := 157) (off := 156) hx hb dX5_stepAmongThings_1 (by decide) (by decide) (by decide) (by decide) ?_
    refine lv_aload_n hx hb dX5_stepAmongThings_157 rfl (lv_at hl 0 rfl) ?_
    refine lv_iload_n hx hb dX5_stepAmongThings_158 rfl (lv_at hl 2 rfl) ?_
    refine lv_iload_n hx hb dX5_stepAmongThings_159 rfl (lv_at hl 3 rfl) ?_
    have hO : OKP G h0 a (upd (upd (upd (upd (upd (upd (upd (upd F 5 (nI cs)) 18 (nI ba)) 19 (nI tp)) 22 (nI on)) 26 (nI ht)) 18 (nI ba)) 19 (nI tp)) 22 (nI on)) (updR (updR (updR (updR (updR (updR R 5 (.ref pq)) 6 (va_rf mo)) 7 (.ref (a sp))) 8 (.ref (a op))) 5 (.ref pq)) 6 (va_rf mo)) Z B J K w := hO.to rfl
    obtain ⟨_, qr239, hqr240⟩ := hO.2.1 28 _ (sg_28 G h0 a _ _ _ _ _)
    refine pc_V0 (G := G) (As := [.int y, .int (nI rt)]) (rest := []) hx hb hml hown hq hE hX pX0_al hP hD hS hA hl.1 (M_callSuper l G h0 a (upd (upd (upd (upd (upd F 5 (nI cs)) 18 (nI ba)) 19 (nI tp)) 22 (nI on)) 26 (nI ht)) (updR (updR (updR (updR R 5 (.ref pq)) 6 (va_rf mo)) 7 (.ref (a sp))) 8 (.ref (a op))) Z B J K w y rt tp pq dr ml nd nm cp it s9 g rk ba on mo (by omega) hwp hps hrk (by omega) (by omega) hms hfr (by omega) hO) (gV pw_684 pw_685 pw_686 pw_539 pw_661) hV_X5_callSuper qr239 4 hqr240 rfl rfl rfl (Nat.le_of_ble_eq_true rfl) dX5_stepAmongThings_160 ⟨Nat.le_of_ble_eq_true rfl, Nat.le_of_ble_eq_true rfl⟩ ⟨Nat.le_of_ble_eq_true rfl, Nat.le_of_ble_eq_true rfl⟩ (fun v238 u236 H locs hw237 hP hD hS => ?_)
    obtain ⟨w, tp241, en242, rf243, nx244, ta245, ba246, on247, mo248, fr249⟩ := u236
    obtain ⟨hw237, h250, h251, h252, h253, hO⟩ := hw237
    have h250 : tp241 ≤ 32000 := h250
    have h251 : ba246 ≤ 32000 ∧ on247 ≤ 100 := h251
    have h252 : MsO K mo248 ba246 := h252
    have h253 : FrO K nm it fr249 on247 := h253
    obtain rfl : v238 = none := hw237
    have hO : OKP G h0 a (upd (upd (upd (upd (upd (upd (upd (upd F 5 (nI cs)) 18 (nI ba246)) 19 (nI tp241)) 21 nx244) 22 (nI on247)) 23 en242) 25 rf243) 26 (nI ht)) (updR (updR (updR (updR R 5 (.ref pq)) 6 (va_rf mo248)) 7 (.ref (a sp))) 8 (.ref (a op))) Z (updA (updA B 30 fr249) 33 ta245) J K w := hO.to rfl
    refine W.widen (k := 0) (n := 0) (Nat.le_of_ble_eq_true rfl) (Nat.le_of_ble_eq_true rfl) ?_
    refine W.eq (g2 := F0 m 163 ls []) rfl ?_
    refine lv_goto (tgt := 181) hx hb dX5_stepAmongThings_163 (by decide) ?_
    have hz254 : tp241 ≤ 32000 := (by omega)
    have hz255 : 8 ≤ ht ∧ ht ≤ 3008 := (by omega)
    have hz256 : (sp = 34 ∧ op = 35) ∨ (sp = 35 ∧ op = 34) := (by omega)
    have hz257 : ba246 ≤ 32000 ∧ on247 ≤ 100 := (by omega)
    have hz258 : MsO K mo248 ba246 := h252
    have hz259 : FrO K nm it fr249 on247 := h253
    have hO : OKP G h0 a (upd (upd (upd (upd (upd (upd (upd (upd (upd F 5 (nI cs)) 18 (nI ba246)) 19 (nI tp241)) 21 nx244) 22 (nI on247)) 23 en242) 25 rf243) 26 (nI ht)) 27 (F 27)) (updR (updR (updR (updR R 5 (.ref pq)) 6 (va_rf mo248)) 7 (.ref (a sp))) 8 (.ref (a op))) Z (updA (updA B 30 fr249) 33 ta245) J K w := hO.to rfl
    exact W.vret hx hb hr (fun t99 ht99 hW99 => ⟨⟨_, (w, (tp241, en242, rf243, nx244, J, Z, ta245, sp, op, ht, (F 27), ba246, on247, mo248, fr249)), rfl, ⟨rfl, hz254, hz255, hz256, hz257, hz258, hz259, hO⟩, by rw [ht99]; exact hP, hD⟩, hS.F ht99⟩) hS.2.2 dX5_stepAmongThings_181
  by_cases h260 : x = 25
  · subst h260
    refine lv_tableIn (tgt := 166) (off := 165) hx hb dX5_stepAmongThings_1 (by decide) (by decide) (by decide) (by decide) ?_
    refine lv_aload_n hx hb dX5_stepAmongThings_166 rfl (lv_at hl 0 rfl) ?_
    refine lv_aload_n hx hb dX5_stepAmongThings_167 rfl (lv_at hl 0 rfl) ?_
    have hO : OKW G h0 a (upd (upd (upd (upd (upd (upd F 5 (nI cs)) 18 (nI ba)) 19 (nI tp)) 22 (nI on)) 26 (nI ht)) 19 (nI tp)) (updR (updR (updR (updR R 5 (.ref pq)) 6 (va_rf mo)) 7 (.ref (a sp))) 8 (.ref (a op))) Z B J K.1 (fun q99 x99 => x99 = rep G a K q99) w := hO.to rfl
    obtain ⟨_, qr264, hqr265⟩ := hO.2.1 28 _ (sg_28 G h0 a _ _ _ _ _)
    refine pc_V0 (G := G) (As := []) (rest := [.ref (a 5)]) hx hb hml hown hq hE hX pX0_al hP hD hS hA hl.1 (M_pop l G h0 a (upd (upd (upd (upd (upd F 5 (nI cs)) 18 (nI ba)) 19 (nI tp)) 22 (nI on)) 26 (nI ht)) (updR (updR (updR (updR R 5 (.ref pq)) 6 (va_rf mo)) 7 (.ref (a sp))) 8 (.ref (a op))) Z B J K.1 (fun q99 x99 => x99 = rep G a K q99) w tp (by omega) hO) (gV pw_598 pw_599 pw_600 pw_539 pw_595) hV_X5_pop qr264 4 hqr265 rfl rfl rfl (Nat.le_of_ble_eq_true rfl) dX5_stepAmongThings_168 ⟨Nat.le_of_ble_eq_true rfl, Nat.le_of_ble_eq_true rfl⟩ ⟨Nat.le_of_ble_eq_true rfl, Nat.le_of_ble_eq_true rfl⟩ (fun v263 u261 H locs hw262 hP hD hS => ?_)
    obtain ⟨w, r266, tp267, en268, rf269, J270⟩ := u261
    obtain ⟨hw262, h271, hO⟩ := hw262
    have h271 : tp267 ≤ 32000 := h271
    obtain rfl : v263 = some (.long r266) := hw262
    have hO : OKP G h0 a (upd (upd (upd (upd (upd (upd (upd F 5 (nI cs)) 18 (nI ba)) 19 (nI tp267)) 22 (nI on)) 23 en268) 25 rf269) 26 (nI ht)) (updR (updR (updR (updR R 5 (.ref pq)) 6 (va_rf mo)) 7 (.ref (a sp))) 8 (.ref (a op))) Z B J270 K w := hO.to rfl
    refine W.widen (k := 0) (n := 0) (Nat.le_of_ble_eq_true rfl) (Nat.le_of_ble_eq_true rfl) ?_
    refine W.eq (g2 := F0 m 171 ls [.long r266, .ref (a 5)]) rfl ?_
    have hO : OKW G h0 a (upd (upd (upd (upd (upd (upd (upd (upd F 5 (nI cs)) 18 (nI ba)) 19 (nI tp267)) 22 (nI on)) 23 en268) 25 rf269) 26 (nI ht)) 26 (nI ht)) (updR (updR (updR (updR (updR (updR R 5 (.ref pq)) 6 (va_rf mo)) 7 (.ref (a sp))) 8 (.ref (a op))) 7 (.ref (a sp))) 8 (.ref (a op))) Z B J270 K.1 (fun q99 x99 => x99 = rep G a K q99) w := hO.to rfl
    obtain ⟨_, qr275, hqr276⟩ := hO.2.1 28 _ (sg_28 G h0 a _ _ _ _ _)
    refine pc_V0 (G := G) (As := [.long r266]) (rest := []) hx hb hml hown hq hE hX pX0_al hP hD hS hA hl.1 (M_throwValue l G h0 a (upd (upd (upd (upd (upd (upd (upd F 5 (nI cs)) 18 (nI ba)) 19 (nI tp267)) 22 (nI on)) 23 en268) 25 rf269) 26 (nI ht)) (updR (updR (updR (updR R 5 (.ref pq)) 6 (va_rf mo)) 7 (.ref (a sp))) 8 (.ref (a op))) Z B J270 K.1 (fun q99 x99 => x99 = rep G a K q99) w r266 sp op ht hsp (by omega) hO) (gV pw_687 pw_688 pw_689 pw_539 pw_662) hV_X5_throwValue qr275 4 hqr276 rfl rfl rfl (Nat.le_of_ble_eq_true rfl) dX5_stepAmongThings_171 ⟨Nat.le_of_ble_eq_true rfl, Nat.le_of_ble_eq_true rfl⟩ ⟨Nat.le_of_ble_eq_true rfl, Nat.le_of_ble_eq_true rfl⟩ (fun v274 u272 H locs hw273 hP hD hS => ?_)
    obtain ⟨w, z277⟩ := u272
    obtain ⟨hw273, hO⟩ := hw273
    obtain rfl : v274 = none := hw273
    have hO : OKP G h0 a (upd (upd (upd (upd (upd (upd (upd F 5 (nI cs)) 18 (nI ba)) 19 (nI tp267)) 22 (nI on)) 23 en268) 25 rf269) 26 (nI ht)) (updR (updR (updR (updR R 5 (.ref pq)) 6 (va_rf mo)) 7 (.ref (a sp))) 8 (.ref (a op))) z277 B J270 K w := hO.to rfl
    refine W.widen (k := 0) (n := 0) (Nat.le_of_ble_eq_true rfl) (Nat.le_of_ble_eq_true rfl) ?_
    refine W.eq (g2 := F0 m 174 ls []) rfl ?_
    refine lv_goto (tgt := 181) hx hb dX5_stepAmongThings_174 (by decide) ?_
    have hz278 : tp267 ≤ 32000 := (by omega)
    have hz279 : 8 ≤ ht ∧ ht ≤ 3008 := (by omega)
    have hz280 : (sp = 34 ∧ op = 35) ∨ (sp = 35 ∧ op = 34) := (by omega)
    have hz281 : ba ≤ 32000 ∧ on ≤ 100 := (by omega)
    have hz282 : MsO K mo ba := hms
    have hz283 : FrO K nm it (B 30) on := hfr
    have hO : OKP G h0 a (upd (upd (upd (upd (upd (upd (upd (upd (upd F 5 (nI cs)) 18 (nI ba)) 19 (nI tp267)) 21 (F 21)) 22 (nI on)) 23 en268) 25 rf269) 26 (nI ht)) 27 (F 27)) (updR (updR (updR (updR R 5 (.ref pq)) 6 (va_rf mo)) 7 (.ref (a sp))) 8 (.ref (a op))) z277 (updA (updA B 30 (B 30)) 33 (B 33)) J270 K w := hO.to rfl
    exact W.vret hx hb hr (fun t99 ht99 hW99 => ⟨⟨_, (w, (tp267, en268, rf269, (F 21), J270, z277, (B 33), sp, op, ht, (F 27), ba, on, mo, (B 30))), rfl, ⟨rfl, hz278, hz279, hz280, hz281, hz282, hz283, hO⟩, by rw [ht99]; exact hP, hD⟩, hS.F ht99⟩) hS.2.2 dX5_stepAmongThings_181
  refine lv_tableOut (tgt := 177) hx hb dX5_stepAmongThings_1 (sw_m14_25 h1 h20 h39 h57 h75 h93 h111 h129 h171 h209 h235 h260) (by decide) ?_
  refine lv_aload_n hx hb dX5_stepAmongThings_177 rfl (lv_at hl 0 rfl) ?_
  have hO : OKW G h0 a (upd (upd (upd (upd (upd F 5 (nI cs)) 18 (nI ba)) 19 (nI tp)) 22 (nI on)) 26 (nI ht)) (updR (updR (updR (updR R 5 (.ref pq)) 6 (va_rf mo)) 7 (.ref (a sp))) 8 (.ref (a op))) Z B J K.1 (fun q99 x99 => x99 = rep G a K q99) w := hO.to rfl
  obtain ⟨_, qr287, hqr288⟩ := hO.2.1 28 _ (sg_28 G h0 a _ _ _ _ _)
  refine pc_V0 (G := G) (As := []) (rest := []) hx hb hml hown hq hE hX pX0_al hP hD hS hA hl.1 (M_refuse l G h0 a (upd (upd (upd (upd (upd F 5 (nI cs)) 18 (nI ba)) 19 (nI tp)) 22 (nI on)) 26 (nI ht)) (updR (updR (updR (updR R 5 (.ref pq)) 6 (va_rf mo)) 7 (.ref (a sp))) 8 (.ref (a op))) Z B J K.1 (fun q99 x99 => x99 = rep G a K q99) w hO) (gV pw_536 pw_537 pw_538 pw_539 pw_511) hV_X5_refuse qr287 4 hqr288 rfl rfl rfl (Nat.le_of_ble_eq_true rfl) dX5_stepAmongThings_178 ⟨Nat.le_of_ble_eq_true rfl, Nat.le_of_ble_eq_true rfl⟩ ⟨Nat.le_of_ble_eq_true rfl, Nat.le_of_ble_eq_true rfl⟩ (fun v286 u284 H locs hw285 hP hD hS => ?_)
  obtain ⟨w, en289, rf290⟩ := u284
  obtain ⟨hw285, hO⟩ := hw285
  obtain rfl : v286 = none := hw285
  have hO : OKP G h0 a (upd (upd (upd (upd (upd (upd (upd F 5 (nI cs)) 18 (nI ba)) 19 (nI tp)) 22 (nI on)) 23 en289) 25 rf290) 26 (nI ht)) (updR (updR (updR (updR R 5 (.ref pq)) 6 (va_rf mo)) 7 (.ref (a sp))) 8 (.ref (a op))) Z B J K w := hO.to rfl
  refine W.widen (k := 0) (n := 0) (Nat.le_of_ble_eq_true rfl) (Nat.le_of_ble_eq_true rfl) ?_
  refine W.eq (g2 := F0 m 181 ls []) rfl ?_
  have hz291 : tp ≤ 32000 := (by omega)
  have hz292 : 8 ≤ ht ∧ ht ≤ 3008 := (by omega)
  have hz293 : (sp = 34 ∧ op = 35) ∨ (sp = 35 ∧ op = 34) := (by omega)
  have hz294 : ba ≤ 32000 ∧ on ≤ 100 := (by omega)
  have hz295 : MsO K mo ba := hms
  have hz296 : FrO K nm it (B 30) on := hfr
  have hO : OKP G h0 a (upd (upd (upd (upd (upd (upd (upd (upd (upd F 5 (nI cs)) 18 (nI ba)) 19 (nI tp)) 21 (F 21)) 22 (nI on)) 23 en289) 25 rf290) 26 (nI ht)) 27 (F 27)) (updR (updR (updR (updR R 5 (.ref pq)) 6 (va_rf mo)) 7 (.ref (a sp))) 8 (.ref (a op))) Z (updA (updA B 30 (B 30)) 33 (B 33)) J K w := hO.to rfl
  exact W.vret hx hb hr (fun t99 ht99 hW99 => ⟨⟨_, (w, (tp, en289, rf290, (F 21), J, Z, (B 33), sp, op, ht, (F 27), ba, on, mo, (B 30))), rfl, ⟨rfl, hz291, hz292, hz293, hz294, hz295, hz296, hO⟩, by rw [ht99]; exact hP, hD⟩, hS.F ht99⟩) hS.2.2 dX5_stepAmongThings_181
theorem dX5_stepOut_0 : decode cX5_stepOut 0 = .ok (.iload_n 1, 1) := by decide +kernel
theorem dX5_stepOut_1 : decode cX5_stepOut 1 = .ok (.tableswitch 111 26 30 #[35, 45, 58, 67, 91], 35) := by decide +kernel
theorem dX5_stepOut_36 : decode cX5_stepOut 36 = .ok (.aload_n 0, 1) := by decide +kernel
theorem dX5_stepOut_37 : decode cX5_stepOut 37 = .ok (.bipush (-3), 2) := by decide +kernel
theorem dX5_stepOut_39 : decode cX5_stepOut 39 = .ok (.lconst 0, 1) := by decide +kernel
theorem dX5_stepOut_40 : decode cX5_stepOut 40 = .ok (.invokevirtual 231, 3) := by decide +kernel
theorem dX5_stepOut_43 : decode cX5_stepOut 43 = .ok (.goto 73, 3) := by decide +kernel
theorem dX5_stepOut_116 : decode cX5_stepOut 116 = .ok (.return_, 1) := by decide +kernel
theorem dX5_stepOut_46 : decode cX5_stepOut 46 = .ok (.aload_n 0, 1) := by decide +kernel
theorem dX5_stepOut_47 : decode cX5_stepOut 47 = .ok (.bipush (-3), 2) := by decide +kernel
theorem dX5_stepOut_49 : decode cX5_stepOut 49 = .ok (.aload_n 0, 1) := by decide +kernel
theorem dX5_stepOut_50 : decode cX5_stepOut 50 = .ok (.invokevirtual 180, 3) := by decide +kernel
theorem dX5_stepOut_53 : decode cX5_stepOut 53 = .ok (.invokevirtual 231, 3) := by decide +kernel
theorem dX5_stepOut_56 : decode cX5_stepOut 56 = .ok (.goto 60, 3) := by decide +kernel
theorem dX5_stepOut_59 : decode cX5_stepOut 59 = .ok (.aload_n 0, 1) := by decide +kernel
theorem dX5_stepOut_60 : decode cX5_stepOut 60 = .ok (.iload_n 2, 1) := by decide +kernel
theorem dX5_stepOut_61 : decode cX5_stepOut 61 = .ok (.lconst 0, 1) := by decide +kernel
theorem dX5_stepOut_62 : decode cX5_stepOut 62 = .ok (.invokevirtual 231, 3) := by decide +kernel
theorem dX5_stepOut_65 : decode cX5_stepOut 65 = .ok (.goto 51, 3) := by decide +kernel
theorem dX5_stepOut_68 : decode cX5_stepOut 68 = .ok (.aload_n 0, 1) := by decide +kernel
theorem dX5_stepOut_69 : decode cX5_stepOut 69 = .ok (.iload_n 3, 1) := by decide +kernel
theorem dX5_stepOut_70 : decode cX5_stepOut 70 = .ok (.ldc2_w 170, 3) := by decide +kernel
theorem dX5_stepOut_73 : decode cX5_stepOut 73 = .ok (.invokevirtual 184, 3) := by decide +kernel
theorem dX5_stepOut_76 : decode cX5_stepOut 76 = .ok (.aload_n 0, 1) := by decide +kernel
theorem dX5_stepOut_77 : decode cX5_stepOut 77 = .ok (.iload_n 3, 1) := by decide +kernel
theorem dX5_stepOut_78 : decode cX5_stepOut 78 = .ok (.iconst 1, 1) := by decide +kernel
theorem dX5_stepOut_79 : decode cX5_stepOut 79 = .ok (.iadd, 1) := by decide +kernel
theorem dX5_stepOut_80 : decode cX5_stepOut 80 = .ok (.lconst 0, 1) := by decide +kernel
theorem dX5_stepOut_81 : decode cX5_stepOut 81 = .ok (.invokevirtual 184, 3) := by decide +kernel
theorem dX5_stepOut_84 : decode cX5_stepOut 84 = .ok (.aload_n 0, 1) := by decide +kernel
theorem dX5_stepOut_85 : decode cX5_stepOut 85 = .ok (.iload_n 2, 1) := by decide +kernel
theorem dX5_stepOut_86 : decode cX5_stepOut 86 = .ok (.putfield 132, 3) := by decide +kernel
theorem dX5_stepOut_89 : decode cX5_stepOut 89 = .ok (.goto 27, 3) := by decide +kernel
theorem dX5_stepOut_92 : decode cX5_stepOut 92 = .ok (.aload_n 0, 1) := by decide +kernel
theorem dX5_stepOut_93 : decode cX5_stepOut 93 = .ok (.aload_n 0, 1) := by decide +kernel
theorem dX5_stepOut_94 : decode cX5_stepOut 94 = .ok (.iload_n 2, 1) := by decide +kernel
theorem dX5_stepOut_95 : decode cX5_stepOut 95 = .ok (.invokevirtual 176, 3) := by decide +kernel
theorem dX5_stepOut_98 : decode cX5_stepOut 98 = .ok (.l2i, 1) := by decide +kernel
theorem dX5_stepOut_99 : decode cX5_stepOut 99 = .ok (.aload_n 0, 1) := by decide +kernel
theorem dX5_stepOut_100 : decode cX5_stepOut 100 = .ok (.iload_n 2, 1) := by decide +kernel
theorem dX5_stepOut_101 : decode cX5_stepOut 101 = .ok (.iconst 1, 1) := by decide +kernel
theorem dX5_stepOut_102 : decode cX5_stepOut 102 = .ok (.iadd, 1) := by decide +kernel
theorem dX5_stepOut_103 : decode cX5_stepOut 103 = .ok (.invokevirtual 176, 3) := by decide +kernel
theorem dX5_stepOut_106 : decode cX5_stepOut 106 = .ok (.invokevirtual 234, 3) := by decide +kernel
theorem dX5_stepOut_109 : decode cX5_stepOut 109 = .ok (.goto 7, 3) := by decide +kernel
theorem dX5_stepOut_112 : decode cX5_stepOut 112 = .ok (.aload_n 0, 1) := by decide +kernel
theorem dX5_stepOut_113 : decode cX5_stepOut 113 = .ok (.invokevirtual 160, 3) := by decide +kernel
theorem hV_X5_goOn : yX5_goOn.cls = RX5 ∧ yX5_goOn.cls ≠ "java/lang/invoke/MethodHandle" ∧ yX5_goOn.cls ≠ "java/lang/invoke/VarHandle" ∧ (parseMethodDescriptor yX5_goOn.desc).map (fun d => d.parameters.length) = some 2 := by decide +kernel
set_option maxHeartbeats 60000000 in
set_option maxRecDepth 100000 in
theorem M_stepOut (l : Launch) (G : pT) (h0 : Nat) (a : Nat → Nat) (F : Nat → Int32) (R : Nat → Value) (Z : Int64) (B : Nat → Nat → Int32) (J : Nat → Nat → Int64) (K : PK) (w : va_W) (x : Int32) (y : Int32) (rt : Nat) (tp : Nat) (pq : Nat) (dr : Nat) (ml : Nat) (nd : Nat) (nm : Nat) (cp : Nat) (it : Nat → Nat) (s9 : Nat) (g : Nat → Nat → Nat) (rk : Nat → Nat) (ba : Nat) (on : Nat) (mo : Option Nat) (rg : Nat) (htp : tp ≤ 32000) (hwp : WPr G K g) (hps : PgT G K g (a 1) pq dr ml nd nm cp it s9) (hrk : RkO K rk) (hba : ba ≤ 32000) (hon : on ≤ 100) (hms : MsO K mo ba) (hfr : FrO K nm it (B 30) on) (hrg : rg ≤ 625) (hrt : rt ≤ 6000) (hO : OKP G h0 a (upd (upd (upd (upd F 6 (nI rg)) 18 (nI ba)) 19 (nI tp)) 22 (nI on)) (updR (updR R 5 (.ref pq)) 6 (va_rf mo)) Z B J K w) : PM l G pX0 yX5_stepOut cX5_stepOut 4 none ({ frames := 10, cells := 0, slots := 0, locals := 236 }) [.ref (a 5), .int x, .int y, .int (nI rt)] w (fun (v : Option Value) (u : va_W × (Int64 × Nat × Int32 × Int32 × Int32 × Int32 × Int32 × (Nat → Nat → Int64) × Nat × Nat × Option Nat × (Nat → Int32))) => v = none ∧ (u.2.2.1 ≤ 32000) ∧ (u.2.2.2.2.2.2.2.2.2.1 ≤ 32000 ∧ u.2.2.2.2.2.2.2.2.2.2.1 ≤ 100) ∧ (MsO K u.2.2.2.2.2.2.2.2.2.2.2.1 u.2.2.2.2.2.2.2.2.2.1) ∧ (FrO K nm it u.2.2.2.2.2.2.2.2.2.2.2.2 u.2.2.2.2.2.2.2.2.2.2.1) ∧ (OKP G h0 a (upd (upd (upd (upd (upd (upd (upd (upd (upd F 6 (nI rg)) 18 (nI u.2.2.2.2.2.2.2.2.2.1)) 19 (nI u.2.2.1)) 20 u.2.2.2.2.2.2.1) 21 u.2.2.2.2.2.1) 22 (nI u.2.2.2.2.2.2.2.2.2.2.1)) 23 u.2.2.2.1) 24 u.2.2.2.2.2.2.2.1) 25 u.2.2.2.2.1) (updR (updR R 5 (.ref pq)) 6 (va_rf u.2.2.2.2.2.2.2.2.2.2.2.1)) u.2.1 (updA B 30 u.2.2.2.2.2.2.2.2.2.2.2.2) u.2.2.2.2.2.2.2.2.1 K u.1)) (fun u => u.1) := by
  intro sz
  refine Met.ofW (cc := cX5_stepOut) (maxL := 4) (ret := none) (by decide) rfl ?_
  intro p e s m args below meth c s₁ B9 hml hv
  obtain ⟨rfl, hsz, hP, hD0, hE, hX⟩ := hv
  have hx := B9.exec
  have hb := B9.bytes
  have hr := B9.returns
  have hts := atoms_spec (ws := Cond.code yX5_stepOut cX5_stepOut 4 none :: pw) B9.pre
  have hq : ∀ w ∈ pw, w.before _ s = true := fun w h => hts w (List.mem_cons_of_mem _ h)
  have hown : s.vm.findClass RX5 = some m.cls := findClass_of_methodNamed B9.named
  have hlocks := B9.notSynchronized
  subst hsz
  have hD := hD0.self (sz := s.heap.size)
  have hA : ∀ q : Nat, s.heap.size ≤ q → va_A w s.heap.size q := fun q h => Or.inr h
  generalize va_A w s.heap.size = A at hD hE hA ⊢
  have hS : va_S A s.heap s.heap [] := va_S.rf
  have hl := lv_entry ([.ref (a 5), .int x, .int y, .int (nI rt)]) (n := 4) (Nat.le_of_ble_eq_true rfl)
  rw [lg_entry_eq]
  generalize (lg_sl ([.ref (a 5), .int x, .int y, .int (nI rt)]) ++ List.replicate (4 - (lg_sl ([.ref (a 5), .int x, .int y, .int (nI rt)])).length) Slot.unset).toArray = ls at hl ⊢
  have hl : lv_has ls 4 [(0, .ref (a 5)), (1, .int x), (2, .int y), (3, .int (nI rt))] := hl
  have hpg := hps.1
  have hp1 := hpg.1
  have hp2 := hpg.2.1
  have hp3 := hpg.2.2.1
  have hp4 := hpg.2.2.2.1
  have hp5 := hpg.2.2.2.2.1
  have hp6 := hpg.2.2.2.2.2.1
  have hp8 := hpg.2.2.2.2.2.2.2.1
  have hp9 := hpg.2.2.2.2.2.2.2.2
  refine lv_iload_n hx hb dX5_stepOut_0 rfl (lv_at hl 1 rfl) ?_
  by_cases h1 : x = 26
  · subst h1
    refine lv_tableIn (tgt := 36) (off := 35) hx hb dX5_stepOut_1 (by decide) (by decide) (by decide) (by decide) ?_
    refine lv_aload_n hx hb dX5_stepOut_36 rfl (lv_at hl 0 rfl) ?_
    refine lv_bipush (v := (-3)) hx hb dX5_stepOut_37 (by decide) ?_
    refine lv_lconst (v := 0) hx hb dX5_stepOut_39 (by decide) ?_
    have hO : OKP G h0 a (upd (upd (upd (upd (upd (upd (upd (upd F 6 (nI rg)) 18 (nI ba)) 19 (nI tp)) 22 (nI on)) 6 (nI rg)) 18 (nI ba)) 19 (nI tp)) 22 (nI on)) (updR (updR (updR (updR R 5 (.ref pq)) 6 (va_rf mo)) 5 (.ref pq)) 6 (va_rf mo)) Z B J K w := hO.to rfl
    obtain ⟨_, qr5, hqr6⟩ := hO.2.1 28 _ (sg_28 G h0 a _ _ _ _ _)
    refine pc_V0 (G := G) (As := [.int (-3), .long 0]) (rest := []) hx hb hml hown hq hE hX pX0_al hP hD hS hA hl.1 (M_leave l G h0 a (upd (upd (upd (upd F 6 (nI rg)) 18 (nI ba)) 19 (nI tp)) 22 (nI on)) (updR (updR R 5 (.ref pq)) 6 (va_rf mo)) Z B J K w (-3) 0 tp pq dr ml nd nm cp it s9 g rk ba on mo rg (by omega) hwp hps hrk (by omega) (by omega) hms hfr (by omega) hO) (gV pw_719 pw_720 pw_721 pw_539 pw_718) hV_X5_leave qr5 4 hqr6 rfl rfl rfl (Nat.le_of_ble_eq_true rfl) dX5_stepOut_40 ⟨Nat.le_of_ble_eq_true rfl, Nat.le_of_ble_eq_true rfl⟩ ⟨Nat.le_of_ble_eq_true rfl, Nat.le_of_ble_eq_true rfl⟩ (fun v4 u2 H locs hw3 hP hD hS => ?_)
    obtain ⟨w, tp7, en8, rf9, nx10, pc11, rs12, J13, ba14, on15, mo16, fr17⟩ := u2
    obtain ⟨hw3, h18, h19, h20, h21, hO⟩ := hw3
    have h18 : tp7 ≤ 32000 := h18
    have h19 : ba14 ≤ 32000 ∧ on15 ≤ 100 := h19
    have h20 : MsO K mo16 ba14 := h20
    have h21 : FrO K nm it fr17 on15 := h21
    obtain rfl : v4 = none := hw3
    have hO : OKP G h0 a (upd (upd (upd (upd (upd (upd (upd (upd (upd F 6 (nI rg)) 18 (nI ba14)) 19 (nI tp7)) 20 pc11) 21 nx10) 22 (nI on15)) 23 en8) 24 rs12) 25 rf9) (updR (updR R 5 (.ref pq)) 6 (va_rf mo16)) Z (updA B 30 fr17) J13 K w := hO.to rfl
    refine W.widen (k := 0) (n := 0) (Nat.le_of_ble_eq_true rfl) (Nat.le_of_ble_eq_true rfl) ?_
    refine W.eq (g2 := F0 m 43 ls []) rfl ?_
    refine lv_goto (tgt := 116) hx hb dX5_stepOut_43 (by decide) ?_
    have hz22 : tp7 ≤ 32000 := (by omega)
    have hz23 : ba14 ≤ 32000 ∧ on15 ≤ 100 := (by omega)
    have hz24 : MsO K mo16 ba14 := h20
    have hz25 : FrO K nm it fr17 on15 := h21
    have hO : OKP G h0 a (upd (upd (upd (upd (upd (upd (upd (upd (upd F 6 (nI rg)) 18 (nI ba14)) 19 (nI tp7)) 20 pc11) 21 nx10) 22 (nI on15)) 23 en8) 24 rs12) 25 rf9) (updR (updR R 5 (.ref pq)) 6 (va_rf mo16)) Z (updA B 30 fr17) J13 K w := hO.to rfl
    exact W.vret hx hb hr (fun t99 ht99 hW99 => ⟨⟨_, (w, (Z, tp7, en8, rf9, nx10, pc11, rs12, J13, ba14, on15, mo16, fr17)), rfl, ⟨rfl, hz22, hz23, hz24, hz25, hO⟩, by rw [ht99]; exact hP, hD⟩, hS.F ht99⟩) hS.2.2 dX5_stepOut_116
  by_cases h26 : x = 27
  · subst h26
    refine lv_tableIn (tgt := 46) (off := 45) hx hb dX5_stepOut_1 (by decide) (by decide) (by decide) (by decide) ?_
    refine lv_aload_n hx hb dX5_stepOut_46 rfl (lv_at hl 0 rfl) ?_
    refine lv_bipush (v := (-3)) hx hb dX5_stepOut_47 (by decide) ?_
    refine lv_aload_n hx hb dX5_stepOut_49 rfl (lv_at hl 0 rfl) ?_
    have hO : OKW G h0 a (upd (upd (upd (upd (upd F 6 (nI rg)) 18 (nI ba)) 19 (nI tp)) 22 (nI on)) 19 (nI tp)) (updR (updR R 5 (.ref pq)) 6 (va_rf mo)) Z B J K.1 (fun q99 x99 => x99 = rep G a K q99) w := hO.to rfl
    obtain ⟨_, qr30, hqr31⟩ := hO.2.1 28 _ (sg_28 G h0 a _ _ _ _ _)
    refine pc_V0 (G := G) (As := []) (rest := [.int (-3), .ref (a 5)]) hx hb hml hown hq hE hX pX0_al hP hD hS hA hl.1 (M_pop l G h0 a (upd (upd (upd (upd F 6 (nI rg)) 18 (nI ba)) 19 (nI tp)) 22 (nI on)) (updR (updR R 5 (.ref pq)) 6 (va_rf mo)) Z B J K.1 (fun q99 x99 => x99 = rep G a K q99) w tp (by omega) hO) (gV pw_598 pw_599 pw_600 pw_539 pw_595) hV_X5_pop qr30 4 hqr31 rfl rfl rfl (Nat.le_of_ble_eq_true rfl) dX5_stepOut_50 ⟨Nat.le_of_ble_eq_true rfl, Nat.le_of_ble_eq_true rfl⟩ ⟨Nat.le_of_ble_eq_true rfl, Nat.le_of_ble_eq_true rfl⟩ (fun v29 u27 H locs hw28 hP hD hS => ?_)
    obtain ⟨w, r32, tp33, en34, rf35, J36⟩ := u27
    obtain ⟨hw28, h37, hO⟩ := hw28
    have h37 : tp33 ≤ 32000 := h37
    obtain rfl : v29 = some (.long r32) := hw28
    have hO : OKP G h0 a (upd (upd (upd (upd (upd (upd F 6 (nI rg)) 18 (nI ba)) 19 (nI tp33)) 22 (nI on)) 23 en34) 25 rf35) (updR (updR R 5 (.ref pq)) 6 (va_rf mo)) Z B J36 K w := hO.to rfl
    refine W.widen (k := 0) (n := 0) (Nat.le_of_ble_eq_true rfl) (Nat.le_of_ble_eq_true rfl) ?_
    refine W.eq (g2 := F0 m 53 ls [.long r32, .int (-3), .ref (a 5)]) rfl ?_
    have hO : OKP G h0 a (upd (upd (upd (upd (upd (upd (upd (upd (upd (upd F 6 (nI rg)) 18 (nI ba)) 19 (nI tp33)) 22 (nI on)) 23 en34) 25 rf35) 6 (nI rg)) 18 (nI ba)) 19 (nI tp33)) 22 (nI on)) (updR (updR (updR (updR R 5 (.ref pq)) 6 (va_rf mo)) 5 (.ref pq)) 6 (va_rf mo)) Z B J36 K w := hO.to rfl
    obtain ⟨_, qr41, hqr42⟩ := hO.2.1 28 _ (sg_28 G h0 a _ _ _ _ _)
    refine pc_V0 (G := G) (As := [.int (-3), .long r32]) (rest := []) hx hb hml hown hq hE hX pX0_al hP hD hS hA hl.1 (M_leave l G h0 a (upd (upd (upd (upd (upd (upd F 6 (nI rg)) 18 (nI ba)) 19 (nI tp33)) 22 (nI on)) 23 en34) 25 rf35) (updR (updR R 5 (.ref pq)) 6 (va_rf mo)) Z B J36 K w (-3) r32 tp33 pq dr ml nd nm cp it s9 g rk ba on mo rg (by omega) hwp hps hrk (by omega) (by omega) hms hfr (by omega) hO) (gV pw_719 pw_720 pw_721 pw_539 pw_718) hV_X5_leave qr41 4 hqr42 rfl rfl rfl (Nat.le_of_ble_eq_true rfl) dX5_stepOut_53 ⟨Nat.le_of_ble_eq_true rfl, Nat.le_of_ble_eq_true rfl⟩ ⟨Nat.le_of_ble_eq_true rfl, Nat.le_of_ble_eq_true rfl⟩ (fun v40 u38 H locs hw39 hP hD hS => ?_)
    obtain ⟨w, tp43, en44, rf45, nx46, pc47, rs48, J49, ba50, on51, mo52, fr53⟩ := u38
    obtain ⟨hw39, h54, h55, h56, h57, hO⟩ := hw39
    have h54 : tp43 ≤ 32000 := h54
    have h55 : ba50 ≤ 32000 ∧ on51 ≤ 100 := h55
    have h56 : MsO K mo52 ba50 := h56
    have h57 : FrO K nm it fr53 on51 := h57
    obtain rfl : v40 = none := hw39
    have hO : OKP G h0 a (upd (upd (upd (upd (upd (upd (upd (upd (upd F 6 (nI rg)) 18 (nI ba50)) 19 (nI tp43)) 20 pc47) 21 nx46) 22 (nI on51)) 23 en44) 24 rs48) 25 rf45) (updR (updR R 5 (.ref pq)) 6 (va_rf mo52)) Z (updA B 30 fr53) J49 K w := hO.to rfl
    refine W.widen (k := 0) (n := 0) (Nat.le_of_ble_eq_true rfl) (Nat.le_of_ble_eq_true rfl) ?_
    refine W.eq (g2 := F0 m 56 ls []) rfl ?_
    refine lv_goto (tgt := 116) hx hb dX5_stepOut_56 (by decide) ?_
    have hz58 : tp43 ≤ 32000 := (by omega)
    have hz59 : ba50 ≤ 32000 ∧ on51 ≤ 100 := (by omega)
    have hz60 : MsO K mo52 ba50 := h56
    have hz61 : FrO K nm it fr53 on51 := h57
    have hO : OKP G h0 a (upd (upd (upd (upd (upd (upd (upd (upd (upd F 6 (nI rg)) 18 (nI ba50)) 19 (nI tp43)) 20 pc47) 21 nx46) 22 (nI on51)) 23 en44) 24 rs48) 25 rf45) (updR (updR R 5 (.ref pq)) 6 (va_rf mo52)) Z (updA B 30 fr53) J49 K w := hO.to rfl
    exact W.vret hx hb hr (fun t99 ht99 hW99 => ⟨⟨_, (w, (Z, tp43, en44, rf45, nx46, pc47, rs48, J49, ba50, on51, mo52, fr53)), rfl, ⟨rfl, hz58, hz59, hz60, hz61, hO⟩, by rw [ht99]; exact hP, hD⟩, hS.F ht99⟩) hS.2.2 dX5_stepOut_116
  by_cases h62 : x = 28
  · subst h62
    refine lv_tableIn (tgt := 59) (off := 58) hx hb dX5_stepOut_1 (by decide) (by decide) (by decide) (by decide) ?_
    refine lv_aload_n hx hb dX5_stepOut_59 rfl (lv_at hl 0 rfl) ?_
    refine lv_iload_n hx hb dX5_stepOut_60 rfl (lv_at hl 2 rfl) ?_
    refine lv_lconst (v := 0) hx hb dX5_stepOut_61 (by decide) ?_
    have hO : OKP G h0 a (upd (upd (upd (upd (upd (upd (upd (upd F 6 (nI rg)) 18 (nI ba)) 19 (nI tp)) 22 (nI on)) 6 (nI rg)) 18 (nI ba)) 19 (nI tp)) 22 (nI on)) (updR (updR (updR (updR R 5 (.ref pq)) 6 (va_rf mo)) 5 (.ref pq)) 6 (va_rf mo)) Z B J K w := hO.to rfl
    obtain ⟨_, qr66, hqr67⟩ := hO.2.1 28 _ (sg_28 G h0 a _ _ _ _ _)
    refine pc_V0 (G := G) (As := [.int y, .long 0]) (rest := []) hx hb hml hown hq hE hX pX0_al hP hD hS hA hl.1 (M_leave l G h0 a (upd (upd (upd (upd F 6 (nI rg)) 18 (nI ba)) 19 (nI tp)) 22 (nI on)) (updR (updR R 5 (.ref pq)) 6 (va_rf mo)) Z B J K w y 0 tp pq dr ml nd nm cp it s9 g rk ba on mo rg (by omega) hwp hps hrk (by omega) (by omega) hms hfr (by omega) hO) (gV pw_719 pw_720 pw_721 pw_539 pw_718) hV_X5_leave qr66 4 hqr67 rfl rfl rfl (Nat.le_of_ble_eq_true rfl) dX5_stepOut_62 ⟨Nat.le_of_ble_eq_true rfl, Nat.le_of_ble_eq_true rfl⟩ ⟨Nat.le_of_ble_eq_true rfl, Nat.le_of_ble_eq_true rfl⟩ (fun v65 u63 H locs hw64 hP hD hS => ?_)
    obtain ⟨w, tp68, en69, rf70, nx71, pc72, rs73, J74, ba75, on76, mo77, fr78⟩ := u63
    obtain ⟨hw64, h79, h80, h81, h82, hO⟩ := hw64
    have h79 : tp68 ≤ 32000 := h79
    have h80 : ba75 ≤ 32000 ∧ on76 ≤ 100 := h80
    have h81 : MsO K mo77 ba75 := h81
    have h82 : FrO K nm it fr78 on76 := h82
    obtain rfl : v65 = none := hw64
    have hO : OKP G h0 a (upd (upd (upd (upd (upd (upd (upd (upd (upd F 6 (nI rg)) 18 (nI ba75)) 19 (nI tp68)) 20 pc72) 21 nx71) 22 (nI on76)) 23 en69) 24 rs73) 25 rf70) (updR (updR R 5 (.ref pq)) 6 (va_rf mo77)) Z (updA B 30 fr78) J74 K w := hO.to rfl
    refine W.widen (k := 0) (n := 0) (Nat.le_of_ble_eq_true rfl) (Nat.le_of_ble_eq_true rfl) ?_
    refine W.eq (g2 := F0 m 65 ls []) rfl ?_
    refine lv_goto (tgt := 116) hx hb dX5_stepOut_65 (by decide) ?_
    have hz83 : tp68 ≤ 32000 := (by omega)
    have hz84 : ba75 ≤ 32000 ∧ on76 ≤ 100 := (by omega)
    have hz85 : MsO K mo77 ba75 := h81
    have hz86 : FrO K nm it fr78 on76 := h82
    have hO : OKP G h0 a (upd (upd (upd (upd (upd (upd (upd (upd (upd F 6 (nI rg)) 18 (nI ba75)) 19 (nI tp68)) 20 pc72) 21 nx71) 22 (nI on76)) 23 en69) 24 rs73) 25 rf70) (updR (updR R 5 (.ref pq)) 6 (va_rf mo77)) Z (updA B 30 fr78) J74 K w := hO.to rfl
    exact W.vret hx hb hr (fun t99 ht99 hW99 => ⟨⟨_, (w, (Z, tp68, en69, rf70, nx71, pc72, rs73, J74, ba75, on76, mo77, fr78)), rfl, ⟨rfl, hz83, hz84, hz85, hz86, hO⟩, by rw [ht99]; exact hP, hD⟩, hS.F ht99⟩) hS.2.2 dX5_stepOut_116
  by_cases h87 : x = 29
  · subst h87
    refine lv_tableIn (tgt := 68) (off := 67) hx hb dX5_stepOut_1 (by decide) (by decide) (by decide) (by decide) ?_
    refine lv_aload_n hx hb dX5_stepOut_68 rfl (lv_at hl 0 rfl) ?_
    refine lv_iload_n hx hb dX5_stepOut_69 rfl (lv_at hl 3 rfl) ?_
    refine lv_ldc2 (v := 4294967295) hx hb hown (hq _ pw_603) dX5_stepOut_70 ?_
    have hO : OKW G h0 a (upd (upd (upd (upd F 6 (nI rg)) 18 (nI ba)) 19 (nI tp)) 22 (nI on)) (updR (updR R 5 (.ref pq)) 6 (va_rf mo)) Z B J K.1 (fun q99 x99 => x99 = rep G a K q99) w := hO.to rfl
    obtain ⟨_, qr91, hqr92⟩ := hO.2.1 28 _ (sg_28 G h0 a _ _ _ _ _)
    refine pc_V0 (G := G) (As := [.int (nI rt), .long 4294967295]) (rest := []) hx hb hml hown hq hE hX pX0_al hP hD hS hA hl.1 (M_setSlot l G h0 a (upd (upd (upd (upd F 6 (nI rg)) 18 (nI ba)) 19 (nI tp)) 22 (nI on)) (updR (updR R 5 (.ref pq)) 6 (va_rf mo)) Z B J K.1 (fun q99 x99 => x99 = rep G a K q99) w (nI rt) 4294967295 hO) (gV pw_625 pw_626 pw_627 pw_539 pw_596) hV_X5_setSlot qr91 4 hqr92 rfl rfl rfl (Nat.le_of_ble_eq_true rfl) dX5_stepOut_73 ⟨Nat.le_of_ble_eq_true rfl, Nat.le_of_ble_eq_true rfl⟩ ⟨Nat.le_of_ble_eq_true rfl, Nat.le_of_ble_eq_true rfl⟩ (fun v90 u88 H locs hw89 hP hD hS => ?_)
    obtain ⟨w, J93⟩ := u88
    obtain ⟨hw89, hO⟩ := hw89
    obtain rfl : v90 = none := hw89
    have hO : OKP G h0 a (upd (upd (upd (upd F 6 (nI rg)) 18 (nI ba)) 19 (nI tp)) 22 (nI on)) (updR (updR R 5 (.ref pq)) 6 (va_rf mo)) Z B J93 K w := hO.to rfl
    refine W.widen (k := 0) (n := 0) (Nat.le_of_ble_eq_true rfl) (Nat.le_of_ble_eq_true rfl) ?_
    refine W.eq (g2 := F0 m 76 ls []) rfl ?_
    refine lv_aload_n hx hb dX5_stepOut_76 rfl (lv_at hl 0 rfl) ?_
    refine lv_iload_n hx hb dX5_stepOut_77 rfl (lv_at hl 3 rfl) ?_
    refine lv_iconst (v := 1) hx hb dX5_stepOut_78 (by decide) ?_
    refine lv_iadd hx hb dX5_stepOut_79 ?_
    refine lv_topi (fun x94 e95 => ?_)
    obtain rfl : x94 = nI (rt + 1) := e95.trans (nI_add (rt) (1))
    refine lv_lconst (v := 0) hx hb dX5_stepOut_80 (by decide) ?_
    have hO : OKW G h0 a (upd (upd (upd (upd F 6 (nI rg)) 18 (nI ba)) 19 (nI tp)) 22 (nI on)) (updR (updR R 5 (.ref pq)) 6 (va_rf mo)) Z B J93 K.1 (fun q99 x99 => x99 = rep G a K q99) w := hO.to rfl
    obtain ⟨_, qr99, hqr100⟩ := hO.2.1 28 _ (sg_28 G h0 a _ _ _ _ _)
    refine pc_V0 (G := G) (As := [.int (nI (rt + 1)), .long 0]) (rest := []) hx hb hml hown hq hE hX pX0_al hP hD hS hA hl.1 (M_setSlot l G h0 a (upd (upd (upd (upd F 6 (nI rg)) 18 (nI ba)) 19 (nI tp)) 22 (nI on)) (updR (updR R 5 (.ref pq)) 6 (va_rf mo)) Z B J93 K.1 (fun q99 x99 => x99 = rep G a K q99) w (nI (rt + 1)) 0 hO) (gV pw_625 pw_626 pw_627 pw_539 pw_596) hV_X5_setSlot qr99 4 hqr100 rfl rfl rfl (Nat.le_of_ble_eq_true rfl) dX5_stepOut_81 ⟨Nat.le_of_ble_eq_true rfl, Nat.le_of_ble_eq_true rfl⟩ ⟨Nat.le_of_ble_eq_true rfl, Nat.le_of_ble_eq_true rfl⟩ (fun v98 u96 H locs hw97 hP hD hS => ?_)
    obtain ⟨w, J101⟩ := u96
    obtain ⟨hw97, hO⟩ := hw97
    obtain rfl : v98 = none := hw97
    have hO : OKP G h0 a (upd (upd (upd (upd F 6 (nI rg)) 18 (nI ba)) 19 (nI tp)) 22 (nI on)) (updR (updR R 5 (.ref pq)) 6 (va_rf mo)) Z B J101 K w := hO.to rfl
    refine W.widen (k := 0) (n := 0) (Nat.le_of_ble_eq_true rfl) (Nat.le_of_ble_eq_true rfl) ?_
    refine W.eq (g2 := F0 m 84 ls []) rfl ?_
    refine lv_aload_n hx hb dX5_stepOut_84 rfl (lv_at hl 0 rfl) ?_
    refine lv_iload_n hx hb dX5_stepOut_85 rfl (lv_at hl 2 rfl) ?_
    refine c_put (v := .int y) (ty := .int) (C := RX5) (Tc := TX5) (N := 19) (ci := 4) hx hb hq pin_wsX50 tyX5 tyX5_ok nmX5 hown hE hP hD hS hO 28 (sg_28 G h0 a _ _ _ _ _) rfl 13 (by decide) (hq _ pw_566) (fun _ h9 => h9) rfl (by decide +kernel) rfl rfl (Nat.le_of_ble_eq_true rfl) (sf_21 G h0 a _ _ _ _ _ y) dX5_stepOut_86 (fun H locs w hP hD hS hO => ?_)
    refine lv_goto (tgt := 116) hx hb dX5_stepOut_89 (by decide) ?_
    have hz102 : tp ≤ 32000 := (by omega)
    have hz103 : ba ≤ 32000 ∧ on ≤ 100 := (by omega)
    have hz104 : MsO K mo ba := hms
    have hz105 : FrO K nm it (B 30) on := hfr
    have hO : OKP G h0 a (upd (upd (upd (upd (upd (upd (upd (upd (upd F 6 (nI rg)) 18 (nI ba)) 19 (nI tp)) 20 (F 20)) 21 y) 22 (nI on)) 23 (F 23)) 24 (F 24)) 25 (F 25)) (updR (updR R 5 (.ref pq)) 6 (va_rf mo)) Z (updA B 30 (B 30)) J101 K w := hO.to rfl
    exact W.vret hx hb hr (fun t99 ht99 hW99 => ⟨⟨_, (w, (Z, tp, (F 23), (F 25), y, (F 20), (F 24), J101, ba, on, mo, (B 30))), rfl, ⟨rfl, hz102, hz103, hz104, hz105, hO⟩, by rw [ht99]; exact hP, hD⟩, hS.F ht99⟩) hS.2.2 dX5_stepOut_116
  by_cases h106 : x = 30
  · subst h106
    refine lv_tableIn (tgt := 92) (off := 91) hx hb dX5_stepOut_1 (by decide) (by decide) (by decide) (by decide) ?_
    refine lv_aload_n hx hb dX5_stepOut_92 rfl (lv_at hl 0 rfl) ?_
    refine lv_aload_n hx hb dX5_stepOut_93 rfl (lv_at hl 0 rfl) ?_
    refine lv_iload_n hx hb dX5_stepOut_94 rfl (lv_at hl 2 rfl) ?_
    have hO : OKW G h0 a (upd (upd (upd (upd F 6 (nI rg)) 18 (nI ba)) 19 (nI tp)) 22 (nI on)) (updR (updR R 5 (.ref pq)) 6 (va_rf mo)) Z B J K.1 (fun q99 x99 => x99 = rep G a K q99) w := hO.to rfl
    obtain ⟨_, qr110, hqr111⟩ := hO.2.1 28 _ (sg_28 G h0 a _ _ _ _ _)
    refine pc_V0 (G := G) (As := [.int y]) (rest := [.ref (a 5)]) hx hb hml hown hq hE hX pX0_al hP hD hS hA hl.1 (M_slotAt l G h0 a (upd (upd (upd (upd F 6 (nI rg)) 18 (nI ba)) 19 (nI tp)) 22 (nI on)) (updR (updR R 5 (.ref pq)) 6 (va_rf mo)) Z B J K.1 (fun q99 x99 => x99 = rep G a K q99) w y hO) (gV pw_622 pw_623 pw_624 pw_539 pw_594) hV_X5_slotAt qr110 4 hqr111 rfl rfl rfl (Nat.le_of_ble_eq_true rfl) dX5_stepOut_95 ⟨Nat.le_of_ble_eq_true rfl, Nat.le_of_ble_eq_true rfl⟩ ⟨Nat.le_of_ble_eq_true rfl, Nat.le_of_ble_eq_true rfl⟩ (fun v109 u107 H locs hw108 hP hD hS => ?_)
    obtain ⟨w, r112⟩ := u107
    obtain ⟨hw108, hO⟩ := hw108
    obtain rfl : v109 = some (.long r112) := hw108
    have hO : OKP G h0 a (upd (upd (upd (upd F 6 (nI rg)) 18 (nI ba)) 19 (nI tp)) 22 (nI on)) (updR (updR R 5 (.ref pq)) 6 (va_rf mo)) Z B J K w := hO.to rfl
    refine W.widen (k := 0) (n := 0) (Nat.le_of_ble_eq_true rfl) (Nat.le_of_ble_eq_true rfl) ?_
    refine W.eq (g2 := F0 m 98 ls [.long r112, .ref (a 5)]) rfl ?_
    refine lv_l2i hx hb dX5_stepOut_98 rfl ?_
    refine lv_topi (fun x113 e114 => ?_)
    refine lv_aload_n hx hb dX5_stepOut_99 rfl (lv_at hl 0 rfl) ?_
    refine lv_iload_n hx hb dX5_stepOut_100 rfl (lv_at hl 2 rfl) ?_
    refine lv_iconst (v := 1) hx hb dX5_stepOut_101 (by decide) ?_
    refine lv_iadd hx hb dX5_stepOut_102 ?_
    refine lv_topi (fun x115 e116 => ?_)
    have hO : OKW G h0 a (upd (upd (upd (upd F 6 (nI rg)) 18 (nI ba)) 19 (nI tp)) 22 (nI on)) (updR (updR R 5 (.ref pq)) 6 (va_rf mo)) Z B J K.1 (fun q99 x99 => x99 = rep G a K q99) w := hO.to rfl
    obtain ⟨_, qr120, hqr121⟩ := hO.2.1 28 _ (sg_28 G h0 a _ _ _ _ _)
    refine pc_V0 (G := G) (As := [.int x115]) (rest := [.int x113, .ref (a 5)]) hx hb hml hown hq hE hX pX0_al hP hD hS hA hl.1 (M_slotAt l G h0 a (upd (upd (upd (upd F 6 (nI rg)) 18 (nI ba)) 19 (nI tp)) 22 (nI on)) (updR (updR R 5 (.ref pq)) 6 (va_rf mo)) Z B J K.1 (fun q99 x99 => x99 = rep G a K q99) w x115 hO) (gV pw_622 pw_623 pw_624 pw_539 pw_594) hV_X5_slotAt qr120 4 hqr121 rfl rfl rfl (Nat.le_of_ble_eq_true rfl) dX5_stepOut_103 ⟨Nat.le_of_ble_eq_true rfl, Nat.le_of_ble_eq_true rfl⟩ ⟨Nat.le_of_ble_eq_true rfl, Nat.le_of_ble_eq_true rfl⟩ (fun v119 u117 H locs hw118 hP hD hS => ?_)
    obtain ⟨w, r122⟩ := u117
    obtain ⟨hw118, hO⟩ := hw118
    obtain rfl : v119 = some (.long r122) := hw118
    have hO : OKP G h0 a (upd (upd (upd (upd F 6 (nI rg)) 18 (nI ba)) 19 (nI tp)) 22 (nI on)) (updR (updR R 5 (.ref pq)) 6 (va_rf mo)) Z B J K w := hO.to rfl
    refine W.widen (k := 0) (n := 0) (Nat.le_of_ble_eq_true rfl) (Nat.le_of_ble_eq_true rfl) ?_
    refine W.eq (g2 := F0 m 106 ls [.long r122, .int x113, .ref (a 5)]) rfl ?_
    have hO : OKP G h0 a (upd (upd (upd (upd (upd (upd (upd (upd F 6 (nI rg)) 18 (nI ba)) 19 (nI tp)) 22 (nI on)) 6 (nI rg)) 18 (nI ba)) 19 (nI tp)) 22 (nI on)) (updR (updR (updR (updR R 5 (.ref pq)) 6 (va_rf mo)) 5 (.ref pq)) 6 (va_rf mo)) Z B J K w := hO.to rfl
    obtain ⟨_, qr126, hqr127⟩ := hO.2.1 28 _ (sg_28 G h0 a _ _ _ _ _)
    refine pc_V0 (G := G) (As := [.int x113, .long r122]) (rest := []) hx hb hml hown hq hE hX pX0_al hP hD hS hA hl.1 (M_goOn l G h0 a (upd (upd (upd (upd F 6 (nI rg)) 18 (nI ba)) 19 (nI tp)) 22 (nI on)) (updR (updR R 5 (.ref pq)) 6 (va_rf mo)) Z B J K w x113 r122 tp pq dr ml nd nm cp it s9 g rk ba on mo rg (by omega) hwp hps hrk (by omega) (by omega) hms hfr (by omega) hO) (gV pw_723 pw_724 pw_725 pw_539 pw_722) hV_X5_goOn qr126 4 hqr127 rfl rfl rfl (Nat.le_of_ble_eq_true rfl) dX5_stepOut_106 ⟨Nat.le_of_ble_eq_true rfl, Nat.le_of_ble_eq_true rfl⟩ ⟨Nat.le_of_ble_eq_true rfl, Nat.le_of_ble_eq_true rfl⟩ (fun v125 u123 H locs hw124 hP hD hS => ?_)
    obtain ⟨w, z128, tp129, en130, rf131, nx132, pc133, rs134, J135, ba136, on137, mo138, fr139⟩ := u123
    obtain ⟨hw124, h140, h141, h142, h143, hO⟩ := hw124
    have h140 : tp129 ≤ 32000 := h140
    have h141 : ba136 ≤ 32000 ∧ on137 ≤ 100 := h141
    have h142 : MsO K mo138 ba136 := h142
    have h143 : FrO K nm it fr139 on137 := h143
    obtain rfl : v125 = none := hw124
    have hO : OKP G h0 a (upd (upd (upd (upd (upd (upd (upd (upd (upd F 6 (nI rg)) 18 (nI ba136)) 19 (nI tp129)) 20 pc133) 21 nx132) 22 (nI on137)) 23 en130) 24 rs134) 25 rf131) (updR (updR R 5 (.ref pq)) 6 (va_rf mo138)) z128 (updA B 30 fr139) J135 K w := hO.to rfl
    refine W.widen (k := 0) (n := 0) (Nat.le_of_ble_eq_true rfl) (Nat.le_of_ble_eq_true rfl) ?_
    refine W.eq (g2 := F0 m 109 ls []) rfl ?_
    refine lv_goto (tgt := 116) hx hb dX5_stepOut_109 (by decide) ?_
    have hz144 : tp129 ≤ 32000 := (by omega)
    have hz145 : ba136 ≤ 32000 ∧ on137 ≤ 100 := (by omega)
    have hz146 : MsO K mo138 ba136 := h142
    have hz147 : FrO K nm it fr139 on137 := h143
    have hO : OKP G h0 a (upd (upd (upd (upd (upd (upd (upd (upd (upd F 6 (nI rg)) 18 (nI ba136)) 19 (nI tp129)) 20 pc133) 21 nx132) 22 (nI on137)) 23 en130) 24 rs134) 25 rf131) (updR (updR R 5 (.ref pq)) 6 (va_rf mo138)) z128 (updA B 30 fr139) J135 K w := hO.to rfl
    exact W.vret hx hb hr (fun t99 ht99 hW99 => ⟨⟨_, (w, (z128, tp129, en130, rf131, nx132, pc133, rs134, J135, ba136, on137, mo138, fr139)), rfl, ⟨rfl, hz144, hz145, hz146, hz147, hO⟩, by rw [ht99]; exact hP, hD⟩, hS.F ht99⟩) hS.2.2 dX5_stepOut_116
  refine lv_tableOut (tgt := 112) hx hb dX5_stepOut_1 (sw_m26_30 h1 h26 h62 h87 h106) (by decide) ?_
  refine lv_aload_n hx hb dX5_stepOut_112 rfl (lv_at hl 0 rfl) ?_
  have hO : OKW G h0 a (upd (upd (upd (upd F 6 (nI rg)) 18 (nI ba)) 19 (nI tp)) 22 (nI on)) (updR (updR R 5 (.ref pq)) 6 (va_rf mo)) Z B J K.1 (fun q99 x99 => x99 = rep G a K q99) w := hO.to rfl
  obtain ⟨_, qr151, hqr152⟩ := hO.2.1 28 _ (sg_28 G h0 a _ _ _ _ _)
  refine pc_V0 (G := G) (As := []) (rest := []) hx hb hml hown hq hE hX pX0_al hP hD hS hA hl.1 (M_refuse l G h0 a (upd (upd (upd (upd F 6 (nI rg)) 18 (nI ba)) 19 (nI tp)) 22 (nI on)) (updR (updR R 5 (.ref pq)) 6 (va_rf mo)) Z B J K.1 (fun q99 x99 => x99 = rep G a K q99) w hO) (gV pw_536 pw_537 pw_538 pw_539 pw_511) hV_X5_refuse qr151 4 hqr152 rfl rfl rfl (Nat.le_of_ble_eq_true rfl) dX5_stepOut_113 ⟨Nat.le_of_ble_eq_true rfl, Nat.le_of_ble_eq_true rfl⟩ ⟨Nat.le_of_ble_eq_true rfl, Nat.le_of_ble_eq_true rfl⟩ (fun v150 u148 H locs hw149 hP hD hS => ?_)
  obtain ⟨w, en153, rf154⟩ := u148
  obtain ⟨hw149, hO⟩ := hw149
  obtain rfl : v150 = none := hw149
  have hO : OKP G h0 a (upd (upd (upd (upd (upd (upd F 6 (nI rg)) 18 (nI ba)) 19 (nI tp)) 22 (nI on)) 23 en153) 25 rf154) (updR (updR R 5 (.ref pq)) 6 (va_rf mo)) Z B J K w := hO.to rfl
  refine W.widen (k := 0) (n := 0) (Nat.le_of_ble_eq_true rfl) (Nat.le_of_ble_eq_true rfl) ?_
  refine W.eq (g2 := F0 m 116 ls []) rfl ?_
  have hz155 : tp ≤ 32000 := (by omega)
  have hz156 : ba ≤ 32000 ∧ on ≤ 100 := (by omega)
  have hz157 : MsO K mo ba := hms
  have hz158 : FrO K nm it (B 30) on := hfr
  have hO : OKP G h0 a (upd (upd (upd (upd (upd (upd (upd (upd (upd F 6 (nI rg)) 18 (nI ba)) 19 (nI tp)) 20 (F 20)) 21 (F 21)) 22 (nI on)) 23 en153) 24 (F 24)) 25 rf154) (updR (updR R 5 (.ref pq)) 6 (va_rf mo)) Z (updA B 30 (B 30)) J K w := hO.to rfl
  exact W.vret hx hb hr (fun t99 ht99 hW99 => ⟨⟨_, (w, (Z, tp, en153, rf154, (F 21), (F 20), (F 24), J, ba, on, mo, (B 30))), rfl, ⟨rfl, hz155, hz156, hz157, hz158, hO⟩, by rw [ht99]; exact hP, hD⟩, hS.F ht99⟩) hS.2.2 dX5_stepOut_116
