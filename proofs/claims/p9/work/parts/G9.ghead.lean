theorem dX8_head_0 : decode cX8_head 0 = .ok (.aload_n 1, 1) := by decide +kernel
theorem dX8_head_1 : decode cX8_head 1 = .ok (.getfield 154, 3) := by decide +kernel
theorem dX8_head_4 : decode cX8_head 4 = .ok (.invokevirtual 107, 3) := by decide +kernel
theorem dX8_head_7 : decode cX8_head 7 = .ok (.bipush 30, 2) := by decide +kernel
theorem dX8_head_9 : decode cX8_head 9 = .ok (.if_icmp .lt 12, 3) := by decide +kernel
theorem dX8_head_21 : decode cX8_head 21 = .ok (.new 112, 3) := by decide +kernel
theorem dX8_head_24 : decode cX8_head 24 = .ok (.dup, 1) := by decide +kernel
theorem dX8_head_25 : decode cX8_head 25 = .ok (.aload_n 1, 1) := by decide +kernel
theorem dX8_head_26 : decode cX8_head 26 = .ok (.aload_n 0, 1) := by decide +kernel
theorem dX8_head_27 : decode cX8_head 27 = .ok (.getfield 7, 3) := by decide +kernel
theorem dX8_head_30 : decode cX8_head 30 = .ok (.iload_n 3, 1) := by decide +kernel
theorem dX8_head_31 : decode cX8_head 31 = .ok (.invokevirtual 148, 3) := by decide +kernel
theorem dX8_head_34 : decode cX8_head 34 = .ok (.iload_n 3, 1) := by decide +kernel
theorem dX8_head_35 : decode cX8_head 35 = .ok (.iload_n 2, 1) := by decide +kernel
theorem dX8_head_36 : decode cX8_head 36 = .ok (.invokespecial 155, 3) := by decide +kernel
theorem dX8_head_39 : decode cX8_head 39 = .ok (.astore 4, 2) := by decide +kernel
theorem dX8_head_41 : decode cX8_head 41 = .ok (.aload_n 1, 1) := by decide +kernel
theorem dX8_head_42 : decode cX8_head 42 = .ok (.getfield 154, 3) := by decide +kernel
theorem dX8_head_45 : decode cX8_head 45 = .ok (.aload 4, 2) := by decide +kernel
theorem dX8_head_47 : decode cX8_head 47 = .ok (.invokevirtual 116, 3) := by decide +kernel
theorem dX8_head_50 : decode cX8_head 50 = .ok (.pop, 1) := by decide +kernel
theorem dX8_head_51 : decode cX8_head 51 = .ok (.aload_n 0, 1) := by decide +kernel
theorem dX8_head_52 : decode cX8_head 52 = .ok (.bipush 34, 2) := by decide +kernel
theorem dX8_head_54 : decode cX8_head 54 = .ok (.invokevirtual 53, 3) := by decide +kernel
theorem dX8_head_57 : decode cX8_head 57 = .ok (.pop, 1) := by decide +kernel
theorem dX8_head_58 : decode cX8_head 58 = .ok (.aload_n 0, 1) := by decide +kernel
theorem dX8_head_59 : decode cX8_head 59 = .ok (.bipush 35, 2) := by decide +kernel
theorem dX8_head_61 : decode cX8_head 61 = .ok (.invokevirtual 36, 3) := by decide +kernel
theorem dX8_head_64 : decode cX8_head 64 = .ok (.ifCond .ne 7, 3) := by decide +kernel
theorem dX8_head_71 : decode cX8_head 71 = .ok (.iconst 0, 1) := by decide +kernel
theorem dX8_head_72 : decode cX8_head 72 = .ok (.istore 5, 2) := by decide +kernel
theorem dX8_head_74 : decode cX8_head 74 = .ok (.iconst 0, 1) := by decide +kernel
theorem dX8_head_75 : decode cX8_head 75 = .ok (.istore 6, 2) := by decide +kernel
theorem dX8_head_77 : decode cX8_head 77 = .ok (.iload 6, 2) := by decide +kernel
theorem dX8_head_79 : decode cX8_head 79 = .ok (.aload_n 0, 1) := by decide +kernel
theorem dX8_head_80 : decode cX8_head 80 = .ok (.getfield 7, 3) := by decide +kernel
theorem dX8_head_83 : decode cX8_head 83 = .ok (.getfield 27, 3) := by decide +kernel
theorem dX8_head_86 : decode cX8_head 86 = .ok (.if_icmp .ge 113, 3) := by decide +kernel
theorem dX8_head_199 : decode cX8_head 199 = .ok (.aload_n 0, 1) := by decide +kernel
theorem dX8_head_200 : decode cX8_head 200 = .ok (.bipush 35, 2) := by decide +kernel
theorem dX8_head_202 : decode cX8_head 202 = .ok (.invokevirtual 53, 3) := by decide +kernel
theorem dX8_head_205 : decode cX8_head 205 = .ok (.pop, 1) := by decide +kernel
theorem dX8_head_206 : decode cX8_head 206 = .ok (.aload 4, 2) := by decide +kernel
theorem dX8_head_208 : decode cX8_head 208 = .ok (.areturn, 1) := by decide +kernel
theorem dX8_head_89 : decode cX8_head 89 = .ok (.iload 5, 2) := by decide +kernel
theorem dX8_head_91 : decode cX8_head 91 = .ok (.ifCond .eq 108, 3) := by decide +kernel
theorem dX8_head_94 : decode cX8_head 94 = .ok (.aload_n 0, 1) := by decide +kernel
theorem dX8_head_95 : decode cX8_head 95 = .ok (.bipush 13, 2) := by decide +kernel
theorem dX8_head_97 : decode cX8_head 97 = .ok (.invokevirtual 36, 3) := by decide +kernel
theorem dX8_head_100 : decode cX8_head 100 = .ok (.ifCond .ne 20, 3) := by decide +kernel
theorem dX8_head_120 : decode cX8_head 120 = .ok (.iconst 1, 1) := by decide +kernel
theorem dX8_head_121 : decode cX8_head 121 = .ok (.goto 4, 3) := by decide +kernel
theorem dX8_head_125 : decode cX8_head 125 = .ok (.istore 7, 2) := by decide +kernel
theorem dX8_head_127 : decode cX8_head 127 = .ok (.iload 7, 2) := by decide +kernel
theorem dX8_head_129 : decode cX8_head 129 = .ok (.ifCond .eq 28, 3) := by decide +kernel
theorem dX8_head_132 : decode cX8_head 132 = .ok (.aload 4, 2) := by decide +kernel
theorem dX8_head_134 : decode cX8_head 134 = .ok (.getfield 158, 3) := by decide +kernel
theorem dX8_head_137 : decode cX8_head 137 = .ok (.invokevirtual 107, 3) := by decide +kernel
theorem dX8_head_140 : decode cX8_head 140 = .ok (.bipush 8, 2) := by decide +kernel
theorem dX8_head_142 : decode cX8_head 142 = .ok (.if_icmp .lt 15, 3) := by decide +kernel
theorem dX8_head_157 : decode cX8_head 157 = .ok (.aload_n 0, 1) := by decide +kernel
theorem dX8_head_158 : decode cX8_head 158 = .ok (.iconst 1, 1) := by decide +kernel
theorem dX8_head_159 : decode cX8_head 159 = .ok (.invokevirtual 132, 3) := by decide +kernel
theorem dX8_head_162 : decode cX8_head 162 = .ok (.istore 8, 2) := by decide +kernel
theorem dX8_head_164 : decode cX8_head 164 = .ok (.aload 4, 2) := by decide +kernel
theorem dX8_head_166 : decode cX8_head 166 = .ok (.getfield 158, 3) := by decide +kernel
theorem dX8_head_169 : decode cX8_head 169 = .ok (.aload_n 0, 1) := by decide +kernel
theorem dX8_head_170 : decode cX8_head 170 = .ok (.iload 8, 2) := by decide +kernel
theorem dX8_head_172 : decode cX8_head 172 = .ok (.aload_n 0, 1) := by decide +kernel
theorem dX8_head_173 : decode cX8_head 173 = .ok (.bipush 65, 2) := by decide +kernel
theorem dX8_head_175 : decode cX8_head 175 = .ok (.invokevirtual 53, 3) := by decide +kernel
theorem dX8_head_178 : decode cX8_head 178 = .ok (.invokevirtual 139, 3) := by decide +kernel
theorem dX8_head_181 : decode cX8_head 181 = .ok (.invokevirtual 116, 3) := by decide +kernel
theorem dX8_head_184 : decode cX8_head 184 = .ok (.pop, 1) := by decide +kernel
theorem dX8_head_185 : decode cX8_head 185 = .ok (.aload_n 0, 1) := by decide +kernel
theorem dX8_head_186 : decode cX8_head 186 = .ok (.bipush 39, 2) := by decide +kernel
theorem dX8_head_188 : decode cX8_head 188 = .ok (.invokevirtual 80, 3) := by decide +kernel
theorem dX8_head_191 : decode cX8_head 191 = .ok (.istore 5, 2) := by decide +kernel
theorem dX8_head_193 : decode cX8_head 193 = .ok (.iinc 6 1, 3) := by decide +kernel
theorem dX8_head_196 : decode cX8_head 196 = .ok (.goto (-119), 3) := by decide +kernel
theorem dX8_head_145 : decode cX8_head 145 = .ok (.aload_n 0, 1) := by decide +kernel
theorem dX8_head_146 : decode cX8_head 146 = .ok (.getfield 7, 3) := by decide +kernel
theorem dX8_head_149 : decode cX8_head 149 = .ok (.iconst 2, 1) := by decide +kernel
theorem dX8_head_150 : decode cX8_head 150 = .ok (.aload_n 0, 1) := by decide +kernel
theorem dX8_head_151 : decode cX8_head 151 = .ok (.getfield 17, 3) := by decide +kernel
theorem dX8_head_154 : decode cX8_head 154 = .ok (.invokevirtual 60, 3) := by decide +kernel
theorem dX8_head_103 : decode cX8_head 103 = .ok (.aload_n 0, 1) := by decide +kernel
theorem dX8_head_104 : decode cX8_head 104 = .ok (.iconst 1, 1) := by decide +kernel
theorem dX8_head_105 : decode cX8_head 105 = .ok (.invokevirtual 36, 3) := by decide +kernel
theorem dX8_head_108 : decode cX8_head 108 = .ok (.ifCond .ne 12, 3) := by decide +kernel
theorem dX8_head_111 : decode cX8_head 111 = .ok (.aload_n 0, 1) := by decide +kernel
theorem dX8_head_112 : decode cX8_head 112 = .ok (.bipush 65, 2) := by decide +kernel
theorem dX8_head_114 : decode cX8_head 114 = .ok (.invokevirtual 36, 3) := by decide +kernel
theorem dX8_head_117 : decode cX8_head 117 = .ok (.ifCond .eq 7, 3) := by decide +kernel
theorem dX8_head_124 : decode cX8_head 124 = .ok (.iconst 0, 1) := by decide +kernel
theorem dX8_head_67 : decode cX8_head 67 = .ok (.iconst 1, 1) := by decide +kernel
theorem dX8_head_68 : decode cX8_head 68 = .ok (.goto 4, 3) := by decide +kernel
theorem dX8_head_12 : decode cX8_head 12 = .ok (.aload_n 0, 1) := by decide +kernel
theorem dX8_head_13 : decode cX8_head 13 = .ok (.getfield 7, 3) := by decide +kernel
theorem dX8_head_16 : decode cX8_head 16 = .ok (.iconst 2, 1) := by decide +kernel
theorem dX8_head_17 : decode cX8_head 17 = .ok (.iload_n 3, 1) := by decide +kernel
theorem dX8_head_18 : decode cX8_head 18 = .ok (.invokevirtual 60, 3) := by decide +kernel
theorem hS_X6_init : yX6_init.cls ≠ "java/lang/invoke/MethodHandle" ∧ yX6_init.cls ≠ "java/lang/invoke/VarHandle" ∧ (parseMethodDescriptor yX6_init.desc).map (fun d => d.parameters.length) = some 4 := by decide +kernel
set_option maxHeartbeats 40000000 in
set_option maxRecDepth 100000 in
theorem P_head (l : Launch) (G : pT) (h0 : Nat) (a : Nat → Nat) (F : Nat → Int32) (R : Nat → Value) (Z : Int64) (B : Nat → Nat → Int32) (J : Nat → Nat → Int64) (K : PK) (w : va_W) (pq : Nat) (dr : Nat) (ml : Nat) (nd : Nat) (nm : Nat) (cp : Nat) (it : Nat → Nat) (s9 : Nat) (d0 : Nat) (tk : Nat) (x1 : Int32) (at9 : Nat) (sz : Nat) (g : Nat → Nat → Nat) (hsz : sz ≤ 5000) (hat : at9 ≤ sz) (hwp : WPr G K g) (hps : PgS G K g (a 1) pq dr ml nd nm cp it s9) (hd0 : K.1 d0 = 4) (htk : tk ≤ sz) (hO : OKP G h0 a (upd (upd F 2 (nI sz)) 9 (nI at9)) (updR R 1 (.ref pq)) Z B J K w) (hl0 : l.stackTraces = false) : PBn l G pX0 yX8_head cX8_head 9 (some (.object "JinjaTongue$Method")) ({ frames := 8, cells := (2 * (sz - at9) + 10), slots := (60 * (sz - at9) + 400), locals := 191 }) [.ref (a 3), .ref d0, .int x1, .int (nI tk)] w (fun (v : Option Value) (u : va_W × (PK × (Nat → Nat → Nat) × Nat × Nat × (Nat → Int32))) => v = some (.ref u.2.2.2.1) ∧ (WPr G u.2.1 u.2.2.1) ∧ (PgS G u.2.1 u.2.2.1 (a 1) pq dr ml nd nm cp it (s9 + 3 + (u.2.2.2.2.1 - at9))) ∧ (u.2.1.1 u.2.2.2.1 = 3) ∧ (u.2.1.1 d0 = 4) ∧ (at9 + 2 ≤ u.2.2.2.2.1 ∧ u.2.2.2.2.1 ≤ sz) ∧ (Onc u.2.1 dr nd u.2.2.2.1) ∧ (OKP G h0 a (upd (upd F 2 (nI sz)) 9 (nI u.2.2.2.2.1)) (updR R 1 (.ref pq)) Z (updA B 10 u.2.2.2.2.2) J u.2.1 u.1)) (fun u => u.1) (fun (u : va_W × (PK × (Nat → Nat → Nat) × Nat × Nat × (Nat → Int32))) => (u.2.2.2.2.1 - at9 + 3)) (fun (u : va_W × (PK × (Nat → Nat → Nat) × Nat × Nat × (Nat → Int32))) => (60 * (u.2.2.2.2.1 - at9) + 60)) (fun (u : va_W × (Nat → Int32) × (Nat → Value) × (Nat → Nat → Int32)) => ThQ G h0 a (upd (upd F 2 (nI sz)) 9 (nI at9)) (updR R 1 (.ref pq)) Z B J u) (fun u => u.1) := by
  intro sz
  refine vx_ofW (cc := cX8_head) (maxL := 9) (ret := (some (.object "JinjaTongue$Method"))) (by decide) rfl ?_
  intro p e s m args below meth c s₁ B9 hml hnt hv
  obtain ⟨rfl, hsz, hP, hD0, hE, hX⟩ := hv
  have hx := B9.exec
  have hb := B9.bytes
  have hr := B9.returns
  have hts := atoms_spec (ws := Cond.code yX8_head cX8_head 9 (some (.object "JinjaTongue$Method")) :: pw) B9.pre
  have hq : ∀ w ∈ pw, w.before _ s = true := fun w h => hts w (List.mem_cons_of_mem _ h)
  have hown : s.vm.findClass RX8 = some m.cls := findClass_of_methodNamed B9.named
  have hlocks := B9.notSynchronized
  subst hsz
  have hD := hD0.self (sz := s.heap.size)
  have hA : ∀ q : Nat, s.heap.size ≤ q → va_A w s.heap.size q := fun q h => Or.inr h
  generalize va_A w s.heap.size = A at hD hE hA ⊢
  have hS : va_S A s.heap s.heap [] := va_S.rf
  have hl := lv_entry ([.ref (a 3), .ref d0, .int x1, .int (nI tk)]) (n := 9) (Nat.le_of_ble_eq_true rfl)
  rw [lg_entry_eq]
  generalize (lg_sl ([.ref (a 3), .ref d0, .int x1, .int (nI tk)]) ++ List.replicate (9 - (lg_sl ([.ref (a 3), .ref d0, .int x1, .int (nI tk)])).length) Slot.unset).toArray = ls at hl ⊢
  have hl : lv_has ls 9 [(0, .ref (a 3)), (1, .ref d0), (2, .int x1), (3, .int (nI tk))] := hl
  obtain ⟨lm, hflm, htlm, hrlm, holm⟩ := (hwp.2.2.1 d0 hd0).2.1
  obtain ⟨nlm, itlm, cplm, hlclm, hnblm, hcblm⟩ := hwp.2.1 lm htlm
  rw [hrlm] at hlclm hnblm
  have hnclm := hlclm.2.2.1
  have hnblm : nlm ≤ 30 := hnblm
  have hlclm : LsC G K lm 3 nlm itlm cplm := hlclm
  refine lv_aload_n hx hb dX8_head_0 rfl (lv_at hl 1 rfl) ?_
  refine p_get (v := .ref lm) (C := RX2) (Tc := TX2) (N := 13) (ci := 2) hx hb hq pin_wsX20 hown hE hP hO (by rw [hd0]; decide) (rep_4 hd0) rfl 8 (by decide) (hq _ pw_877) (fun _ h9 => h9) (congrArg (fun z => some (va_rf z)) hflm) dX8_head_1 ?_
  have hO : OKP G h0 a (upd (upd F 2 (nI sz)) 9 (nI at9)) (updR R 1 (.ref pq)) Z B J K w := hO.to rfl
  obtain ⟨qr4, hqr5⟩ := p_recv hO (by rw [htlm]; decide) (rep_5 htlm)
  refine pc_V0 (G := G) (As := []) (rest := []) hx hb hml hown hq hE hX pX0_al hP hD hS hA hl.1 (L_size l G h0 a (upd (upd F 2 (nI sz)) 9 (nI at9)) (updR R 1 (.ref pq)) Z B J K w lm 3 nlm itlm hlclm.ls hO) (gV pw_882 pw_87 pw_88 pw_32 pw_16) hV_Jx4a65c_size_8abf5 qr4 10 hqr5 rfl rfl rfl (Nat.le_of_ble_eq_true rfl) dX8_head_4 ⟨(by show 0 + 0 ≤ (2 * (sz - at9) + 10); omega), (by show 0 + 0 ≤ (60 * (sz - at9) + 400); omega)⟩ ⟨Nat.le_of_ble_eq_true rfl, Nat.le_of_ble_eq_true rfl⟩ (fun v3 u1 H locs hw2 hP hD hS => ?_)
  obtain ⟨w, _⟩ := u1
  obtain ⟨hw2, hO⟩ := hw2
  obtain rfl : v3 = some (.int (nI nlm)) := hw2
  have hO : OKP G h0 a (upd (upd F 2 (nI sz)) 9 (nI at9)) (updR R 1 (.ref pq)) Z B J K w := hO.to rfl
  refine W.widen (k := 0) (n := 0) (Nat.le_of_ble_eq_true rfl) (Nat.le_of_ble_eq_true rfl) ?_
  refine W.eq (g2 := F0 m 7 ls [.int (nI nlm)]) rfl ?_
  refine lv_bipush (v := 30) hx hb dX8_head_7 (by decide) ?_
  refine lv_icmp_lt (tgt := 21) hx hb dX8_head_9 (by decide) (fun c6 => ?_) (fun c6 => ?_)
  · have n7 : nlm < 30 := (nI_ltI (a := nlm) (b := 30) (by omega) (by omega)).mp c6
    refine p_new (s9 := 3) (C := RX6) (T := TX6) (N := 12) (ci := 12) (fs := [.null, .int 0, .int 0, .int 0, .null, .null, .int 0, .int 0, .int 0, .int 0, .int 0, .int 0]) hx hb hq pin_wsX60 tyX6 tyX6_ok hown (hq _ pw_878) (hq _ pw_879) (hq _ pw_880) hE hP hD hS hA hO rfl nw_X6 (by decide) (fun q => by rw [rep_3 (show (kN K q 3 0).1 q = 3 from if_pos rfl)]; unfold fsMethod kN; simp only [if_true]; rfl) (by show 0 + 1 ≤ (2 * (sz - at9) + 10); omega) (by show 0 + 12 ≤ (60 * (sz - at9) + 400); omega) dX8_head_21 (fun q8 H w hq9 hP hD hS hO => ?_)
    have hf10 : (kN K q8 3 0).1 d0 = 4 := (if_neg (fun z => by have z2 := hd0; rw [z, hq9] at z2; exact absurd z2 (by decide))).trans hd0
    have hf11 : (kN K q8 3 0).2.2.1 9 d0 = some lm := (if_neg (fun z => by have z2 := hd0; rw [z, hq9] at z2; exact absurd z2 (by decide))).trans hflm
    have hf12 : (kN K q8 3 0).1 lm = 5 := (if_neg (fun z => by have z2 := htlm; rw [z, hq9] at z2; exact absurd z2 (by decide))).trans htlm
    have hf13 : (kN K q8 3 0).1 q8 = 3 := if_pos rfl
    refine W.widen (k := 1) (n := 12) (by show 0 + 1 ≤ 1; omega) (by show 0 + 12 ≤ 12; omega) ?_
    refine lv_dup hx hb dX8_head_24 rfl ?_
    refine lv_aload_n hx hb dX8_head_25 rfl (lv_at hl 1 rfl) ?_
    refine lv_aload_n hx hb dX8_head_26 rfl (lv_at hl 0 rfl) ?_
    refine c_get (v := .ref (a 1)) (C := RX8) (Tc := TX8) (N := 5) (ci := 5) hx hb hq pin_wsX80 hown hE hP hO 23 (sg_23 G h0 a _ _ _ _ _) rfl 0 (by decide) (hq _ pw_774) (fun _ h9 => h9) rfl dX8_head_27 ?_
    refine lv_iload_n hx hb dX8_head_30 rfl (lv_at hl 3 rfl) ?_
    have hO : OKW G h0 a (upd (upd (upd F 2 (nI sz)) 9 (nI at9)) 2 (nI sz)) (updR R 1 (.ref pq)) Z B J ((kN K q8 3 0).1) (fun q99 x99 => x99 = rep G a (kN K q8 3 0) q99) w := hO.to rfl
    obtain ⟨_, qr17, hqr18⟩ := hO.2.1 2 _ (sg_2 G h0 a _ _ _ _ _)
    refine pc_V0 (G := G) (As := [.int (nI tk)]) (rest := [.ref d0, .ref q8, .ref q8]) hx hb hml hown hq hE hX pX0_al hP hD hS hA hl.1 (K_valueAt l G h0 a (upd (upd F 2 (nI sz)) 9 (nI at9)) (updR R 1 (.ref pq)) Z B J ((kN K q8 3 0).1) (fun q99 x99 => x99 = rep G a (kN K q8 3 0) q99) w (nI tk) sz (by omega) hO) (gV pw_876 pw_57 pw_58 pw_59 pw_39) hV_X10_valueAt qr17 7 hqr18 rfl rfl rfl (Nat.le_of_ble_eq_true rfl) dX8_head_31 ⟨(by show 1 + 0 ≤ (2 * (sz - at9) + 10); omega), (by show 12 + 0 ≤ (60 * (sz - at9) + 400); omega)⟩ ⟨Nat.le_of_ble_eq_true rfl, Nat.le_of_ble_eq_true rfl⟩ (fun v16 u14 H locs hw15 hP hD hS => ?_)
    obtain ⟨w, r19⟩ := u14
    obtain ⟨hw15, hO⟩ := hw15
    obtain rfl : v16 = some (.int r19) := hw15
    have hO : OKP G h0 a (upd (upd F 2 (nI sz)) 9 (nI at9)) (updR R 1 (.ref pq)) Z B J (kN K q8 3 0) w := hO.to rfl
    refine W.widen (k := 1) (n := 12) (by show 1 + 0 ≤ 1; omega) (by show 12 + 0 ≤ 12; omega) ?_
    refine W.eq (g2 := F0 m 34 ls [.int r19, .ref d0, .ref q8, .ref q8]) rfl ?_
    refine lv_iload_n hx hb dX8_head_34 rfl (lv_at hl 3 rfl) ?_
    refine lv_iload_n hx hb dX8_head_35 rfl (lv_at hl 2 rfl) ?_
    have hO : OKP G h0 a (upd (upd F 2 (nI sz)) 9 (nI at9)) (updR R 1 (.ref pq)) Z B J (kN K q8 3 0) w := hO.to rfl
    obtain ⟨qr23, hqr24⟩ := p_recv hO (by rw [hf13]; decide) (rep_3 hf13)
    refine pc_I0 (G := G) (As := [.ref d0, .int r19, .int (nI tk), .int x1]) (rest := [.ref q8]) hx hb hml hown hq hE hX pX0_al hP hD hS hA hl.1 (M_init l G h0 a (upd (upd F 2 (nI sz)) 9 (nI at9)) (updR R 1 (.ref pq)) Z B J (kN K q8 3 0) w q8 d0 r19 (nI tk) x1 hf13 hO) pw_883 pw_884 pw_880 pw_764 rfl hS_X6_init rfl (Nat.le_of_ble_eq_true rfl) dX8_head_36 ⟨(by show 1 + 1 ≤ (2 * (sz - at9) + 10); omega), (by show 12 + 3 ≤ (60 * (sz - at9) + 400); omega)⟩ ⟨Nat.le_of_ble_eq_true rfl, Nat.le_of_ble_eq_true rfl⟩ (fun v22 u20 H locs hw21 hP hD hS => ?_)
    obtain ⟨w, f25⟩ := u20
    obtain ⟨hw21, h26, hO⟩ := hw21
    have h26 : (kI (kI (kI (kC (kN K q8 3 0) 5 q8 (some d0)) 6 q8 r19) 7 q8 (nI tk)) 8 q8 x1).1 f25 = 0 := h26
    obtain rfl : v22 = none := hw21
    have hO : OKP G h0 a (upd (upd F 2 (nI sz)) 9 (nI at9)) (updR R 1 (.ref pq)) Z B J (kI (addL G (kI (kI (kI (kC (kN K q8 3 0) 5 q8 (some d0)) 6 q8 r19) 7 q8 (nI tk)) 8 q8 x1) q8 6 f25) 9 q8 (-1)) w := hO.to rfl
    refine W.widen (k := 2) (n := (12 + 3)) (by show 1 + 1 ≤ 2; omega) (by show 12 + 3 ≤ (12 + 3); omega) ?_
    refine W.eq (g2 := F0 m 39 ls [.ref q8]) rfl ?_
    change OKP G h0 a (upd (upd F 2 (nI sz)) 9 (nI at9)) (updR R 1 (.ref pq)) Z B J (mkM G K q8 d0 r19 (nI tk) x1 f25) w at hO
    have hmm := WPr.meth (x1 := r19) (x2 := (nI tk)) (x3 := x1) hwp hq9 hd0 h26
    obtain ⟨K27, hK28⟩ : ∃ z : PK, z = (mkM G K q8 d0 r19 (nI tk) x1 f25) := ⟨_, rfl⟩
    rw [← hK28] at hO
    rw [← hK28] at hmm
    obtain ⟨hm1, hm2, hm3, hm4, hm5, hm6, hm7, hm8, hm9⟩ := hmm
    have hm07 : K27.2.2.1 7 q8 = none := by rw [hK28]; exact mkM_7 h26
    have hps1 := PgS.ext hps hwp hm2 (fun p hp h0 => by rcases hm9 p h0 with z | z | z; (· rw [hp] at z; exact absurd z (by decide)); (· rw [z]; exact hm4); (· rw [z, hm6] at hp; exact absurd hp (by decide))) (fun p hp h0 => by rcases hm9 p h0 with z | z | z; (· rw [hp] at z; exact absurd z (by decide)); (· rw [z, hm3] at hp; exact absurd hp (by decide)); (· rw [z, hm6] at hp; exact absurd hp (by decide)))
    have hf29 : K27.1 d0 = 4 := (hm2 d0 (by rw [hd0]; decide)).1.1.trans hd0
    have hf30 : K27.1 lm = 5 := (hm2 lm (by rw [htlm]; decide)).1.1.trans htlm
    have hf31 : K27.2.2.1 9 d0 = some lm := ((hm2 d0 (by rw [hd0]; decide)).1.2.2.1 9).trans hflm
    refine lv_astore (lv' := [(4, .ref q8), (0, .ref (a 3)), (1, .ref d0), (2, .int x1), (3, .int (nI tk))]) hx hb dX8_head_39 hl (by decide) rfl (fun ls hl => ?_)
    refine lv_aload_n hx hb dX8_head_41 rfl (lv_at hl 2 rfl) ?_
    refine p_get (v := .ref lm) (C := RX2) (Tc := TX2) (N := 13) (ci := 2) hx hb hq pin_wsX20 hown hE hP hO (by rw [hf29]; decide) (rep_4 hf29) rfl 8 (by decide) (hq _ pw_877) (fun _ h9 => h9) (congrArg (fun z => some (va_rf z)) hf31) dX8_head_42 ?_
    refine lv_aload hx hb dX8_head_45 (lv_at hl 0 rfl) ?_
    have hlc32 : LsC G K27 lm 3 nlm itlm cplm := (LsC.wx (fun p hp => (hm2 p hp).1.1) (by decide) (hm2 lm (by rw [htlm]; decide)).1 (fun e he _ => (hm2 e (by rw [he]; decide)).1) hlclm)
    have hO : OKP G h0 a (upd (upd F 2 (nI sz)) 9 (nI at9)) (updR R 1 (.ref pq)) Z B J K27 w := hO.to rfl
    obtain ⟨qr36, hqr37⟩ := p_recv hO (by rw [hf30]; decide) (rep_5 hf30)
    refine pn_V0 (G := G) (As := [.ref q8]) (rest := []) hx hb hml hown hq hE hX pX0_al hP hD hS hA hl.1 (L_addC l G h0 a (upd (upd F 2 (nI sz)) 9 (nI at9)) (updR R 1 (.ref pq)) Z B J K27 w lm 3 nlm itlm cplm q8 hlc32 (by decide) hm3 (by omega) (by omega) hO hl0) (gV pw_885 pw_886 pw_887 pw_32 pw_868) hV_Jx4a65c_add_9ea2d qr36 10 hqr37 rfl rfl rfl (Nat.le_of_ble_eq_true rfl) dX8_head_47 ⟨(by show 2 + 1 ≤ (2 * (sz - at9) + 10); omega), (by show (12 + 3) + (10 + nlm + nlm / 2) ≤ (60 * (sz - at9) + 400); omega)⟩ ⟨Nat.le_of_ble_eq_true rfl, Nat.le_of_ble_eq_true rfl⟩ (fun v35 u33 H locs hw34 hP hD hS => ?_) (fun ux ce9 q9 H9 locs9 hux hP9 hD9 hS9 hce hcv hcl => pb_out ux (ThQ.up Thx.rfl RhX.rfl hux) hnt hlocks hce hcv hcl hP9 hD9 hS9 (by show 2 + 1 ≤ (2 * (sz - at9) + 10); omega) (by show (12 + 3) + (10 + nlm + nlm / 2) ≤ (60 * (sz - at9) + 400); omega))
    obtain ⟨w, K38, d39⟩ := u33
    obtain ⟨hw34, h40, h41, h42, h43, h44, hO⟩ := hw34
    have h40 : LsC G K38 lm 3 (nlm + 1) (upQ itlm nlm q8) (cplm + d39) := h40
    have h41 : AdQ K27 K38 lm := h41
    have h42 : N6 K27 K38 := h42
    have h43 : cplm + d39 ≤ 10 + 2 * (nlm + 1) := h43
    have h44 : d39 ≤ 10 + nlm / 2 := h44
    obtain rfl : v35 = some (.int 1) := hw34
    have hO : OKP G h0 a (upd (upd F 2 (nI sz)) 9 (nI at9)) (updR R 1 (.ref pq)) Z B J K38 w := hO.to rfl
    refine W.widen (k := 3) (n := ((12 + 3) + (4 * d39))) (by show 2 + 1 ≤ 3; omega) (by show (12 + 3) + (4 * d39) ≤ ((12 + 3) + (4 * d39)); omega) ?_
    refine W.eq (g2 := F0 m 50 ls [.int 1]) rfl ?_
    have hg45 : (gM g q8 f25) 3 lm = 2 := ((hm2 lm (by rw [htlm]; decide)).2 3).trans hrlm
    have hwp46 : WPr G K38 (gM g q8 f25) := WPr.add hm1 h41 h42 hf30 (by rw [hg45]; exact h40) (by rw [hg45]; show _ ≤ 30 ∧ _; omega)
    have hps47 : PgS G K38 (gM g q8 f25) (a 1) pq dr ml nd nm cp it (s9 + 5) := by have z9 := PgS.add hps1 hm1 h41 h42 hf30 (fun z => by have z2 := hg45; rw [z, hps1.1.2.2.2.2.2.2.1] at z2; exact absurd z2 (by decide)) (by rw [szL_of h40, szL_of hlc32]) (by rw [hg45]; decide) (by rw [hg45]; decide) (fun _ => ⟨_, _, _, _, _, hlc32, h40, ((AdQ.sm h41 (p := q8) (by rw [hm3]; decide) (fun z => by have z2 := hm3; rw [z, hf30] at z2; exact absurd z2 (by decide)) (by rw [hm3]; decide)).2.2.1 7).trans hm07⟩); rw [hg45] at z9; exact z9
    have hf48 : K38.1 q8 = 3 := (h41.1 q8 (by rw [hm3]; decide)).1.trans hm3
    have hf49 : K38.1 f25 = 5 := (h41.1 f25 (by rw [hm6]; decide)).1.trans hm6
    have hf50 : K38.1 d0 = 4 := (h41.1 d0 (by rw [hf29]; decide)).1.trans hf29
    have hf51 : K38.1 lm = 5 := (h41.1 lm (by rw [hf30]; decide)).1.trans hf30
    have hon0 : Onc K38 dr nd q8 := Nat.le_trans (tb_two hps1.2.1 hps1.1.2.2.2.2.2.2.2.2.2 hm1 hps1.1.2.2.2.1 h41 hf30 hlc32 h40 (dlt q8)) (by rw [tb_ext (wt := dlt q8) (wt1 := dlt q8) hps.2.1 hwp hps.1.2.2.2.1 (fun p hp => (hm2 p hp).1) (fun _ _ => rfl), Onc.new hps.2.1 hwp hq9]; unfold dlt; rw [if_pos rfl]; decide)
    have hc6 : K38.2.2.1 6 q8 = some f25 := ((AdQ.sm h41 (p := q8) (by rw [hm3]; decide) (fun z => by have z2 := hm3; rw [z, (hm2 lm (by rw [htlm]; decide)).1.1, htlm] at z2; exact absurd z2 (by decide)) (by rw [hm3]; decide)).2.2.1 6).trans hm5
    have hne6 : ¬ f25 = lm := fun z => by have z2 := hm7; rw [z] at z2; have z3 := hg45; rw [z, z2] at z3; exact absurd z3 (by decide)
    have hl6 : LsC G K38 f25 1 0 (fun _ => 0) 0 := LsC.wx (fun p hp => (h41.1 p hp).1) (by decide) (AdQ.sm h41 (by rw [hm6]; decide) hne6 (by rw [hm6]; decide)) (fun e he h17 => h41.2 e (by rw [he]; decide) (fun z => by rw [z, (hm2 lm (by rw [htlm]; decide)).1.1, htlm] at he; exact absurd he (by decide)) (fun z => hne6 (Option.some.inj (h17.symm.trans z.2)))) hm8
    refine lv_pop hx hb dX8_head_50 rfl ?_
    refine lv_aload_n hx hb dX8_head_51 rfl (lv_at hl 1 rfl) ?_
    refine lv_bipush (v := 34) hx hb dX8_head_52 (by decide) ?_
    have hO : OKW G h0 a (upd (upd (upd (upd F 2 (nI sz)) 9 (nI at9)) 2 (nI sz)) 9 (nI at9)) (updR R 1 (.ref pq)) Z B J K38.1 (fun q99 x99 => x99 = rep G a K38 q99) w := hO.to rfl
    obtain ⟨_, qr55, hqr56⟩ := hO.2.1 23 _ (sg_23 G h0 a _ _ _ _ _)
    refine pn_V0 (G := G) (As := [.int 34]) (rest := []) hx hb hml hown hq hE hX pX0_al hP hD hS hA hl.1 (P_take l G h0 a (upd (upd F 2 (nI sz)) 9 (nI at9)) (updR R 1 (.ref pq)) Z B J K38.1 (fun q99 x99 => x99 = rep G a K38 q99) w 34 at9 sz (by omega) (by omega) (by decide) hO hl0) (gV pw_793 pw_794 pw_795 pw_796 pw_781) hV_X8_take qr55 5 hqr56 rfl rfl rfl (Nat.le_of_ble_eq_true rfl) dX8_head_54 ⟨(by show 3 + 1 ≤ (2 * (sz - at9) + 10); omega), (by show ((12 + 3) + (4 * d39)) + 6 ≤ (60 * (sz - at9) + 400); omega)⟩ ⟨Nat.le_of_ble_eq_true rfl, Nat.le_of_ble_eq_true rfl⟩ (fun v54 u52 H locs hw53 hP hD hS => ?_) (fun ux ce9 q9 H9 locs9 hux hP9 hD9 hS9 hce hcv hcl => pb_out ux (ThQ.up (Thx.same (Thx.same Thx.rfl rfl) rfl) RhX.rfl hux) hnt hlocks hce hcv hcl hP9 hD9 hS9 (by show 3 + 1 ≤ (2 * (sz - at9) + 10); omega) (by show ((12 + 3) + (4 * d39)) + 6 ≤ (60 * (sz - at9) + 400); omega))
    obtain ⟨w, _⟩ := u52
    obtain ⟨hw53, h57, hO⟩ := hw53
    have h57 : at9 + 1 ≤ sz := h57
    obtain rfl : v54 = some (.int (nI at9)) := hw53
    have hO : OKP G h0 a (upd (upd F 2 (nI sz)) 9 (nI (at9 + 1))) (updR R 1 (.ref pq)) Z B J K38 w := hO.to rfl
    refine W.widen (k := 3) (n := ((12 + 3) + (4 * d39))) (by show 3 + 0 ≤ 3; omega) (by show ((12 + 3) + (4 * d39)) + 0 ≤ ((12 + 3) + (4 * d39)); omega) ?_
    refine W.eq (g2 := F0 m 57 ls [.int (nI at9)]) rfl ?_
    refine lv_pop hx hb dX8_head_57 rfl ?_
    refine lv_aload_n hx hb dX8_head_58 rfl (lv_at hl 1 rfl) ?_
    refine lv_bipush (v := 35) hx hb dX8_head_59 (by decide) ?_
    have hO : OKW G h0 a (upd (upd (upd (upd F 2 (nI sz)) 9 (nI (at9 + 1))) 2 (nI sz)) 9 (nI (at9 + 1))) (updR R 1 (.ref pq)) Z B J K38.1 (fun q99 x99 => x99 = rep G a K38 q99) w := hO.to rfl
    obtain ⟨_, qr61, hqr62⟩ := hO.2.1 23 _ (sg_23 G h0 a _ _ _ _ _)
    refine pc_V0 (G := G) (As := [.int 35]) (rest := []) hx hb hml hown hq hE hX pX0_al hP hD hS hA hl.1 (P_sees l G h0 a (upd (upd F 2 (nI sz)) 9 (nI (at9 + 1))) (updR R 1 (.ref pq)) Z B J K38.1 (fun q99 x99 => x99 = rep G a K38 q99) w 35 (at9 + 1) sz (by omega) (by omega) hO) (gV pw_803 pw_804 pw_805 pw_796 pw_775) hV_X8_sees qr61 5 hqr62 rfl rfl rfl (Nat.le_of_ble_eq_true rfl) dX8_head_61 ⟨(by show 3 + 0 ≤ (2 * (sz - at9) + 10); omega), (by show ((12 + 3) + (4 * d39)) + 0 ≤ (60 * (sz - at9) + 400); omega)⟩ ⟨Nat.le_of_ble_eq_true rfl, Nat.le_of_ble_eq_true rfl⟩ (fun v60 u58 H locs hw59 hP hD hS => ?_)
    obtain ⟨w, r63⟩ := u58
    obtain ⟨hw59, h64, hO⟩ := hw59
    have h64 : r63 ≤ 1 := h64
    obtain rfl : v60 = some (.int (nI r63)) := hw59
    have hO : OKP G h0 a (upd (upd F 2 (nI sz)) 9 (nI (at9 + 1))) (updR R 1 (.ref pq)) Z B J K38 w := hO.to rfl
    refine W.widen (k := 3) (n := ((12 + 3) + (4 * d39))) (by show 3 + 0 ≤ 3; omega) (by show ((12 + 3) + (4 * d39)) + 0 ≤ ((12 + 3) + (4 * d39)); omega) ?_
    refine W.eq (g2 := F0 m 64 ls [.int (nI r63)]) rfl ?_
    refine lv_if_ne (tgt := 71) hx hb dX8_head_64 (by decide) (fun c65 => ?_) (fun c65 => ?_)
    · have n66 : ¬ (r63 = 0) := fun h9 => c65 ((nI_eq (a := r63) (b := 0) (by omega) (by omega)).mpr h9)
      refine lv_iconst (v := 0) hx hb dX8_head_71 (by decide) ?_
      refine lv_istore (lv' := [(5, .int 0), (4, .ref q8), (0, .ref (a 3)), (1, .ref d0), (2, .int x1), (3, .int (nI tk))]) hx hb dX8_head_72 hl (by decide) rfl (fun ls hl => ?_)
      refine lv_iconst (v := 0) hx hb dX8_head_74 (by decide) ?_
      refine lv_istore (lv' := [(6, .int 0), (5, .int 0), (4, .ref q8), (0, .ref (a 3)), (1, .ref d0), (2, .int x1), (3, .int (nI tk))]) hx hb dX8_head_75 hl (by decide) rfl (fun ls hl => ?_)
      have loop_i : ∀ (n_i : Nat) (i2 : Nat) (at2 : Nat) (f9 : Nat → Int32) (mo2 : Int32) (K2 : PK) (g2 : Nat → Nat → Nat) (q2 : Nat) (f2 : Nat) (np : Nat) (cp2 : Nat) (it2 : Nat → Nat) (s2 : Nat) (H : Heap) (locs : List Loc) (ls : Array Slot) (w : va_W), i2 ≤ sz → sz + 1 ≤ i2 + n_i → (at9 + 1 + 2 * np ≤ at2 ∧ at2 ≤ sz) → (WPr G K2 g2) → (PgS G K2 g2 (a 1) pq dr ml nd nm cp it s2) → (s2 ≤ s9 + 5) → (K2.1 q2 = 3) → (K2.1 d0 = 4) → (K2.2.2.1 6 q2 = some f2) → (g2 3 f2 = 3) → (LsC G K2 f2 1 np it2 cp2) → (cp2 ≤ 10 + 2 * np) → (Onc K2 dr nd q2) → va_P G.1 pCl w H → va_D A w → va_S A s.heap H locs → OKP G h0 a (upd (upd F 2 (nI sz)) 9 (nI at2)) (updR R 1 (.ref pq)) Z (updA B 10 f9) J K2 w → lv_has ls 9 [(6, .int (nI i2)), (5, .int mo2), (4, .ref q2), (3, .int (nI tk)), (2, .int x1), (1, .ref d0), (0, .ref (a 3))] → W p l e (headSpec (Cond.code yX8_head cX8_head 9 (some (.object "JinjaTongue$Method")) :: pw) ({ frames := 8, cells := (2 * (sz - at9) + 10), slots := (60 * (sz - at9) + 400), locals := 191 } : Room)).room s m ([.ref (a 3), .ref d0, .int x1, .int (nI tk)] : List Value).toArray below meth c H locs (3 + 2 * np) (120 + 11 * np + 4 * cp2) (vx_MQ below (pQn G A (fun (v : Option Value) (u : va_W × (PK × (Nat → Nat → Nat) × Nat × Nat × (Nat → Int32))) => v = some (.ref u.2.2.2.1) ∧ (WPr G u.2.1 u.2.2.1) ∧ (PgS G u.2.1 u.2.2.1 (a 1) pq dr ml nd nm cp it (s9 + 3 + (u.2.2.2.2.1 - at9))) ∧ (u.2.1.1 u.2.2.2.1 = 3) ∧ (u.2.1.1 d0 = 4) ∧ (at9 + 2 ≤ u.2.2.2.2.1 ∧ u.2.2.2.2.1 ≤ sz) ∧ (Onc u.2.1 dr nd u.2.2.2.1) ∧ (OKP G h0 a (upd (upd F 2 (nI sz)) 9 (nI u.2.2.2.2.1)) (updR R 1 (.ref pq)) Z (updA B 10 u.2.2.2.2.2) J u.2.1 u.1)) (fun u => u.1) (fun (u : va_W × (PK × (Nat → Nat → Nat) × Nat × Nat × (Nat → Int32))) => (u.2.2.2.2.1 - at9 + 3)) (fun (u : va_W × (PK × (Nat → Nat → Nat) × Nat × Nat × (Nat → Int32))) => (60 * (u.2.2.2.2.1 - at9) + 60))) (pXX G A (fun (u : va_W × (Nat → Int32) × (Nat → Value) × (Nat → Nat → Int32)) => ThQ G h0 a (upd (upd F 2 (nI sz)) 9 (nI at9)) (updR R 1 (.ref pq)) Z B J u) (fun u => u.1)) ([.ref (a 3), .ref d0, .int x1, .int (nI tk)] : List Value).toArray s ({ frames := 8, cells := (2 * (sz - at9) + 10), slots := (60 * (sz - at9) + 400), locals := 191 } : Room).cells ({ frames := 8, cells := (2 * (sz - at9) + 10), slots := (60 * (sz - at9) + 400), locals := 191 } : Room).slots A) (F0 m 77 ls []) := by
        intro n_i
        induction n_i with
        | zero => intro i2 at2 f9 mo2 K2 g2 q2 f2 np cp2 it2 s2 H locs ls w hk_i hn_i; omega
        | succ n_i ih_i =>
          intro i2 at2 f9 mo2 K2 g2 q2 f2 np cp2 it2 s2 H locs ls w hk_i hn_i hat2 hwp2 hps2 hs2 hq2 hd2 hc62 hr2 hlc2 hcb2 hon2 hP hD hS hO hl
          have ht2 := hlc2.1
          refine lv_iload hx hb dX8_head_77 (lv_at hl 0 rfl) ?_
          refine lv_aload_n hx hb dX8_head_79 rfl (lv_at hl 6 rfl) ?_
          refine c_get (v := .ref (a 1)) (C := RX8) (Tc := TX8) (N := 5) (ci := 5) hx hb hq pin_wsX80 hown hE hP hO 23 (sg_23 G h0 a _ _ _ _ _) rfl 0 (by decide) (hq _ pw_774) (fun _ h9 => h9) rfl dX8_head_80 ?_
          refine c_get (v := .int (nI sz)) (C := RX10) (Tc := TX10) (N := 15) (ci := 7) hx hb hq pin_wsX100 hown hE hP hO 2 (sg_2 G h0 a _ _ _ _ _) rfl 8 (by decide) (hq _ pw_792) (fun _ h9 => h9) rfl dX8_head_83 ?_
          refine lv_icmp_ge (tgt := 199) hx hb dX8_head_86 (by decide) (fun c67 => ?_) (fun c67 => ?_)
          · have n68 : sz ≤ i2 := (nI_leI (a := sz) (b := i2) (by omega) (by omega)).mp c67
            refine lv_aload_n hx hb dX8_head_199 rfl (lv_at hl 6 rfl) ?_
            refine lv_bipush (v := 35) hx hb dX8_head_200 (by decide) ?_
            have hO : OKW G h0 a (upd (upd (upd (upd (upd F 2 (nI sz)) 9 (nI at9)) 9 (nI at2)) 2 (nI sz)) 9 (nI at2)) (updR R 1 (.ref pq)) Z (updA B 10 f9) J K2.1 (fun q99 x99 => x99 = rep G a K2 q99) w := hO.to rfl
            obtain ⟨_, qr72, hqr73⟩ := hO.2.1 23 _ (sg_23 G h0 a _ _ _ _ _)
            refine pn_V0 (G := G) (As := [.int 35]) (rest := []) hx hb hml hown hq hE hX pX0_al hP hD hS hA hl.1 (P_take l G h0 a (upd (upd (upd F 2 (nI sz)) 9 (nI at9)) 9 (nI at2)) (updR R 1 (.ref pq)) Z (updA B 10 f9) J K2.1 (fun q99 x99 => x99 = rep G a K2 q99) w 35 at2 sz (by omega) (by omega) (by decide) hO hl0) (gV pw_793 pw_794 pw_795 pw_796 pw_781) hV_X8_take qr72 5 hqr73 rfl rfl rfl (Nat.le_of_ble_eq_true rfl) dX8_head_202 ⟨(by show (3 + 2 * np) + 1 ≤ (2 * (sz - at9) + 10); omega), (by show (120 + 11 * np + 4 * cp2) + 6 ≤ (60 * (sz - at9) + 400); omega)⟩ ⟨Nat.le_of_ble_eq_true rfl, Nat.le_of_ble_eq_true rfl⟩ (fun v71 u69 H locs hw70 hP hD hS => ?_) (fun ux ce9 q9 H9 locs9 hux hP9 hD9 hS9 hce hcv hcl => pb_out ux (ThQ.up (Thx.same (Thx.same (Thx.b (Thx.f Thx.rfl (by omega)) (by omega) (by decide)) rfl) rfl) RhX.rfl hux) hnt hlocks hce hcv hcl hP9 hD9 hS9 (by show (3 + 2 * np) + 1 ≤ (2 * (sz - at9) + 10); omega) (by show (120 + 11 * np + 4 * cp2) + 6 ≤ (60 * (sz - at9) + 400); omega))
            obtain ⟨w, _⟩ := u69
            obtain ⟨hw70, h74, hO⟩ := hw70
            have h74 : at2 + 1 ≤ sz := h74
            obtain rfl : v71 = some (.int (nI at2)) := hw70
            have hO : OKP G h0 a (upd (upd F 2 (nI sz)) 9 (nI (at2 + 1))) (updR R 1 (.ref pq)) Z (updA B 10 f9) J K2 w := hO.to rfl
            refine W.widen (k := (3 + 2 * np)) (n := (120 + 11 * np + 4 * cp2)) (by show (3 + 2 * np) + 0 ≤ (3 + 2 * np); omega) (by show (120 + 11 * np + 4 * cp2) + 0 ≤ (120 + 11 * np + 4 * cp2); omega) ?_
            refine W.eq (g2 := F0 m 205 ls [.int (nI at2)]) rfl ?_
            refine lv_pop hx hb dX8_head_205 rfl ?_
            refine lv_aload hx hb dX8_head_206 (lv_at hl 2 rfl) ?_
            refine W_size (fun hz1 hz2 => ?_)
            refine vx_ret ?_
            have hz75 : WPr G K2 g2 := hwp2
            have hz76 : PgS G K2 g2 (a 1) pq dr ml nd nm cp it (s9 + 3 + ((at2 + 1) - at9)) := (PgS.up hps2 (by omega))
            have hz77 : K2.1 q2 = 3 := hq2
            have hz78 : K2.1 d0 = 4 := hd2
            have hz79 : at9 + 2 ≤ (at2 + 1) ∧ (at2 + 1) ≤ sz := (by omega)
            have hz80 : Onc K2 dr nd q2 := hon2
            have hO : OKP G h0 a (upd (upd F 2 (nI sz)) 9 (nI (at2 + 1))) (updR R 1 (.ref pq)) Z (updA B 10 f9) J K2 w := hO.to rfl
            refine W.widen (k := (2 * (sz - at9) + 10)) (n := (60 * (sz - at9) + 400)) (by omega) (by omega) ?_
            have hzz1 : H.size ≤ s.heap.size + (((at2 + 1) - at9 + 3)) := (by have z : (3 + 2 * np) ≤ ((at2 + 1) - at9 + 3) := (by omega); omega)
            have hzz2 : hSl H ≤ hSl s.heap + ((60 * ((at2 + 1) - at9) + 60)) := (by have z : (120 + 11 * np + 4 * cp2) ≤ (60 * ((at2 + 1) - at9) + 60) := (by omega); omega)
            exact W.aret (v := .ref q2) hx hb hr (Or.inl ⟨_, rfl⟩) (Or.inr ⟨_, rfl⟩) (fun t99 ht99 hW99 => ⟨⟨_, (w, (K2, g2, q2, (at2 + 1), f9)), rfl, ⟨rfl, hz75, hz76, hz77, hz78, hz79, hz80, hO⟩, by rw [ht99]; exact hP, hD, by rw [ht99]; exact hzz1, by rw [ht99]; exact hzz2⟩, hS.F ht99⟩) hS.2.2 dX8_head_208
          · have n81 : ¬ (sz ≤ i2) := fun h9 => c67 ((nI_leI (a := sz) (b := i2) (by omega) (by omega)).mpr h9)
            refine lv_iload hx hb dX8_head_89 (lv_at hl 1 rfl) ?_
            refine lv_if_eq (tgt := 199) hx hb dX8_head_91 (by decide) (fun c82 => ?_) (fun c82 => ?_)
            · refine lv_aload_n hx hb dX8_head_199 rfl (lv_at hl 6 rfl) ?_
              refine lv_bipush (v := 35) hx hb dX8_head_200 (by decide) ?_
              have hO : OKW G h0 a (upd (upd (upd (upd (upd F 2 (nI sz)) 9 (nI at9)) 9 (nI at2)) 2 (nI sz)) 9 (nI at2)) (updR R 1 (.ref pq)) Z (updA B 10 f9) J K2.1 (fun q99 x99 => x99 = rep G a K2 q99) w := hO.to rfl
              obtain ⟨_, qr86, hqr87⟩ := hO.2.1 23 _ (sg_23 G h0 a _ _ _ _ _)
              refine pn_V0 (G := G) (As := [.int 35]) (rest := []) hx hb hml hown hq hE hX pX0_al hP hD hS hA hl.1 (P_take l G h0 a (upd (upd (upd F 2 (nI sz)) 9 (nI at9)) 9 (nI at2)) (updR R 1 (.ref pq)) Z (updA B 10 f9) J K2.1 (fun q99 x99 => x99 = rep G a K2 q99) w 35 at2 sz (by omega) (by omega) (by decide) hO hl0) (gV pw_793 pw_794 pw_795 pw_796 pw_781) hV_X8_take qr86 5 hqr87 rfl rfl rfl (Nat.le_of_ble_eq_true rfl) dX8_head_202 ⟨(by show (3 + 2 * np) + 1 ≤ (2 * (sz - at9) + 10); omega), (by show (120 + 11 * np + 4 * cp2) + 6 ≤ (60 * (sz - at9) + 400); omega)⟩ ⟨Nat.le_of_ble_eq_true rfl, Nat.le_of_ble_eq_true rfl⟩ (fun v85 u83 H locs hw84 hP hD hS => ?_) (fun ux ce9 q9 H9 locs9 hux hP9 hD9 hS9 hce hcv hcl => pb_out ux (ThQ.up (Thx.same (Thx.same (Thx.b (Thx.f Thx.rfl (by omega)) (by omega) (by decide)) rfl) rfl) RhX.rfl hux) hnt hlocks hce hcv hcl hP9 hD9 hS9 (by show (3 + 2 * np) + 1 ≤ (2 * (sz - at9) + 10); omega) (by show (120 + 11 * np + 4 * cp2) + 6 ≤ (60 * (sz - at9) + 400); omega))
              obtain ⟨w, _⟩ := u83
              obtain ⟨hw84, h88, hO⟩ := hw84
              have h88 : at2 + 1 ≤ sz := h88
              obtain rfl : v85 = some (.int (nI at2)) := hw84
              have hO : OKP G h0 a (upd (upd F 2 (nI sz)) 9 (nI (at2 + 1))) (updR R 1 (.ref pq)) Z (updA B 10 f9) J K2 w := hO.to rfl
              refine W.widen (k := (3 + 2 * np)) (n := (120 + 11 * np + 4 * cp2)) (by show (3 + 2 * np) + 0 ≤ (3 + 2 * np); omega) (by show (120 + 11 * np + 4 * cp2) + 0 ≤ (120 + 11 * np + 4 * cp2); omega) ?_
              refine W.eq (g2 := F0 m 205 ls [.int (nI at2)]) rfl ?_
              refine lv_pop hx hb dX8_head_205 rfl ?_
              refine lv_aload hx hb dX8_head_206 (lv_at hl 2 rfl) ?_
              refine W_size (fun hz1 hz2 => ?_)
              refine vx_ret ?_
              have hz89 : WPr G K2 g2 := hwp2
              have hz90 : PgS G K2 g2 (a 1) pq dr ml nd nm cp it (s9 + 3 + ((at2 + 1) - at9)) := (PgS.up hps2 (by omega))
              have hz91 : K2.1 q2 = 3 := hq2
              have hz92 : K2.1 d0 = 4 := hd2
              have hz93 : at9 + 2 ≤ (at2 + 1) ∧ (at2 + 1) ≤ sz := (by omega)
              have hz94 : Onc K2 dr nd q2 := hon2
              have hO : OKP G h0 a (upd (upd F 2 (nI sz)) 9 (nI (at2 + 1))) (updR R 1 (.ref pq)) Z (updA B 10 f9) J K2 w := hO.to rfl
              refine W.widen (k := (2 * (sz - at9) + 10)) (n := (60 * (sz - at9) + 400)) (by omega) (by omega) ?_
              have hzz1 : H.size ≤ s.heap.size + (((at2 + 1) - at9 + 3)) := (by have z : (3 + 2 * np) ≤ ((at2 + 1) - at9 + 3) := (by omega); omega)
              have hzz2 : hSl H ≤ hSl s.heap + ((60 * ((at2 + 1) - at9) + 60)) := (by have z : (120 + 11 * np + 4 * cp2) ≤ (60 * ((at2 + 1) - at9) + 60) := (by omega); omega)
              exact W.aret (v := .ref q2) hx hb hr (Or.inl ⟨_, rfl⟩) (Or.inr ⟨_, rfl⟩) (fun t99 ht99 hW99 => ⟨⟨_, (w, (K2, g2, q2, (at2 + 1), f9)), rfl, ⟨rfl, hz89, hz90, hz91, hz92, hz93, hz94, hO⟩, by rw [ht99]; exact hP, hD, by rw [ht99]; exact hzz1, by rw [ht99]; exact hzz2⟩, hS.F ht99⟩) hS.2.2 dX8_head_208
            · refine lv_aload_n hx hb dX8_head_94 rfl (lv_at hl 6 rfl) ?_
              refine lv_bipush (v := 13) hx hb dX8_head_95 (by decide) ?_
              have hO : OKW G h0 a (upd (upd (upd (upd F 2 (nI sz)) 9 (nI at2)) 2 (nI sz)) 9 (nI at2)) (updR R 1 (.ref pq)) Z (updA B 10 f9) J K2.1 (fun q99 x99 => x99 = rep G a K2 q99) w := hO.to rfl
              obtain ⟨_, qr98, hqr99⟩ := hO.2.1 23 _ (sg_23 G h0 a _ _ _ _ _)
              refine pc_V0 (G := G) (As := [.int 13]) (rest := []) hx hb hml hown hq hE hX pX0_al hP hD hS hA hl.1 (P_sees l G h0 a (upd (upd F 2 (nI sz)) 9 (nI at2)) (updR R 1 (.ref pq)) Z (updA B 10 f9) J K2.1 (fun q99 x99 => x99 = rep G a K2 q99) w 13 at2 sz (by omega) (by omega) hO) (gV pw_803 pw_804 pw_805 pw_796 pw_775) hV_X8_sees qr98 5 hqr99 rfl rfl rfl (Nat.le_of_ble_eq_true rfl) dX8_head_97 ⟨(by show (3 + 2 * np) + 0 ≤ (2 * (sz - at9) + 10); omega), (by show (120 + 11 * np + 4 * cp2) + 0 ≤ (60 * (sz - at9) + 400); omega)⟩ ⟨Nat.le_of_ble_eq_true rfl, Nat.le_of_ble_eq_true rfl⟩ (fun v97 u95 H locs hw96 hP hD hS => ?_)
              obtain ⟨w, r100⟩ := u95
              obtain ⟨hw96, h101, hO⟩ := hw96
              have h101 : r100 ≤ 1 := h101
              obtain rfl : v97 = some (.int (nI r100)) := hw96
              have hO : OKP G h0 a (upd (upd F 2 (nI sz)) 9 (nI at2)) (updR R 1 (.ref pq)) Z (updA B 10 f9) J K2 w := hO.to rfl
              refine W.widen (k := (3 + 2 * np)) (n := (120 + 11 * np + 4 * cp2)) (by show (3 + 2 * np) + 0 ≤ (3 + 2 * np); omega) (by show (120 + 11 * np + 4 * cp2) + 0 ≤ (120 + 11 * np + 4 * cp2); omega) ?_
              refine W.eq (g2 := F0 m 100 ls [.int (nI r100)]) rfl ?_
              refine lv_if_ne (tgt := 120) hx hb dX8_head_100 (by decide) (fun c102 => ?_) (fun c102 => ?_)
              · have n103 : ¬ (r100 = 0) := fun h9 => c102 ((nI_eq (a := r100) (b := 0) (by omega) (by omega)).mpr h9)
                refine lv_iconst (v := 1) hx hb dX8_head_120 (by decide) ?_
                refine lv_goto (tgt := 125) hx hb dX8_head_121 (by decide) ?_
                refine lv_istore (lv' := [(7, .int 1), (6, .int (nI i2)), (5, .int mo2), (4, .ref q2), (3, .int (nI tk)), (2, .int x1), (1, .ref d0), (0, .ref (a 3))]) hx hb dX8_head_125 hl (by decide) rfl (fun ls hl => ?_)
                refine lv_iload hx hb dX8_head_127 (lv_at hl 0 rfl) ?_
                refine lv_if_eq (tgt := 157) hx hb dX8_head_129 (by decide) (fun c104 => absurd c104 (by decide)) (fun c104 => ?_)
                refine lv_aload hx hb dX8_head_132 (lv_at hl 3 rfl) ?_
                refine p_get (v := .ref f2) (C := RX6) (Tc := TX6) (N := 12) (ci := 12) hx hb hq pin_wsX60 hown hE hP hO (by rw [hq2]; decide) (rep_3 hq2) rfl 4 (by decide) (hq _ pw_881) (fun _ h9 => h9) (congrArg (fun z => some (va_rf z)) hc62) dX8_head_134 ?_
                have hO : OKP G h0 a (upd (upd F 2 (nI sz)) 9 (nI at2)) (updR R 1 (.ref pq)) Z (updA B 10 f9) J K2 w := hO.to rfl
                obtain ⟨qr108, hqr109⟩ := p_recv hO (by rw [ht2]; decide) (rep_5 ht2)
                refine pc_V0 (G := G) (As := []) (rest := []) hx hb hml hown hq hE hX pX0_al hP hD hS hA hl.1 (L_size l G h0 a (upd (upd F 2 (nI sz)) 9 (nI at2)) (updR R 1 (.ref pq)) Z (updA B 10 f9) J K2 w f2 1 np it2 hlc2.ls hO) (gV pw_882 pw_87 pw_88 pw_32 pw_16) hV_Jx4a65c_size_8abf5 qr108 10 hqr109 rfl rfl rfl (Nat.le_of_ble_eq_true rfl) dX8_head_137 ⟨(by show (3 + 2 * np) + 0 ≤ (2 * (sz - at9) + 10); omega), (by show (120 + 11 * np + 4 * cp2) + 0 ≤ (60 * (sz - at9) + 400); omega)⟩ ⟨Nat.le_of_ble_eq_true rfl, Nat.le_of_ble_eq_true rfl⟩ (fun v107 u105 H locs hw106 hP hD hS => ?_)
                obtain ⟨w, _⟩ := u105
                obtain ⟨hw106, hO⟩ := hw106
                obtain rfl : v107 = some (.int (nI np)) := hw106
                have hO : OKP G h0 a (upd (upd F 2 (nI sz)) 9 (nI at2)) (updR R 1 (.ref pq)) Z (updA B 10 f9) J K2 w := hO.to rfl
                refine W.widen (k := (3 + 2 * np)) (n := (120 + 11 * np + 4 * cp2)) (by show (3 + 2 * np) + 0 ≤ (3 + 2 * np); omega) (by show (120 + 11 * np + 4 * cp2) + 0 ≤ (120 + 11 * np + 4 * cp2); omega) ?_
                refine W.eq (g2 := F0 m 140 ls [.int (nI np)]) rfl ?_
                refine lv_bipush (v := 8) hx hb dX8_head_140 (by decide) ?_
                refine lv_icmp_lt (tgt := 157) hx hb dX8_head_142 (by decide) (fun c110 => ?_) (fun c110 => ?_)
                · have n111 : np < 8 := (nI_ltI (a := np) (b := 8) (by omega) (by omega)).mp c110
                  refine lv_aload_n hx hb dX8_head_157 rfl (lv_at hl 7 rfl) ?_
                  refine lv_iconst (v := 1) hx hb dX8_head_158 (by decide) ?_
                  have hO : OKW G h0 a (upd (upd (upd (upd (upd F 2 (nI sz)) 9 (nI at9)) 9 (nI at2)) 2 (nI sz)) 9 (nI at2)) (updR R 1 (.ref pq)) Z (updA B 10 f9) J K2.1 (fun q99 x99 => x99 = rep G a K2 q99) w := hO.to rfl
                  obtain ⟨_, qr115, hqr116⟩ := hO.2.1 23 _ (sg_23 G h0 a _ _ _ _ _)
                  refine pn_V0 (G := G) (As := [.int 1]) (rest := []) hx hb hml hown hq hE hX pX0_al hP hD hS hA hl.1 (P_takeType l G h0 a (upd (upd (upd F 2 (nI sz)) 9 (nI at9)) 9 (nI at2)) (updR R 1 (.ref pq)) Z (updA B 10 f9) J K2.1 (fun q99 x99 => x99 = rep G a K2 q99) w 1 at2 sz (by omega) (by omega) hO hl0) (gV pw_825 pw_826 pw_827 pw_796 pw_821) hV_X8_takeType qr115 5 hqr116 rfl rfl rfl (Nat.le_of_ble_eq_true rfl) dX8_head_159 ⟨(by show (3 + 2 * np) + 1 ≤ (2 * (sz - at9) + 10); omega), (by show (120 + 11 * np + 4 * cp2) + 6 ≤ (60 * (sz - at9) + 400); omega)⟩ ⟨Nat.le_of_ble_eq_true rfl, Nat.le_of_ble_eq_true rfl⟩ (fun v114 u112 H locs hw113 hP hD hS => ?_) (fun ux ce9 q9 H9 locs9 hux hP9 hD9 hS9 hce hcv hcl => pb_out ux (ThQ.up (Thx.same (Thx.same (Thx.b (Thx.f Thx.rfl (by omega)) (by omega) (by decide)) rfl) rfl) RhX.rfl hux) hnt hlocks hce hcv hcl hP9 hD9 hS9 (by show (3 + 2 * np) + 1 ≤ (2 * (sz - at9) + 10); omega) (by show (120 + 11 * np + 4 * cp2) + 6 ≤ (60 * (sz - at9) + 400); omega))
                  obtain ⟨w, at117, f118⟩ := u112
                  obtain ⟨hw113, h119, hO⟩ := hw113
                  have h119 : at2 + 1 ≤ at117 ∧ at117 ≤ sz := h119
                  obtain rfl : v114 = some (.int (nI at2)) := hw113
                  have hO : OKP G h0 a (upd (upd F 2 (nI sz)) 9 (nI at117)) (updR R 1 (.ref pq)) Z (updA B 10 f118) J K2 w := hO.to rfl
                  refine W.widen (k := (3 + 2 * np)) (n := (120 + 11 * np + 4 * cp2)) (by show (3 + 2 * np) + 0 ≤ (3 + 2 * np); omega) (by show (120 + 11 * np + 4 * cp2) + 0 ≤ (120 + 11 * np + 4 * cp2); omega) ?_
                  refine W.eq (g2 := F0 m 162 ls [.int (nI at2)]) rfl ?_
                  refine lv_istore (lv' := [(8, .int (nI at2)), (7, .int 1), (6, .int (nI i2)), (5, .int mo2), (4, .ref q2), (3, .int (nI tk)), (2, .int x1), (1, .ref d0), (0, .ref (a 3))]) hx hb dX8_head_162 hl (by decide) rfl (fun ls hl => ?_)
                  refine lv_aload hx hb dX8_head_164 (lv_at hl 4 rfl) ?_
                  refine p_get (v := .ref f2) (C := RX6) (Tc := TX6) (N := 12) (ci := 12) hx hb hq pin_wsX60 hown hE hP hO (by rw [hq2]; decide) (rep_3 hq2) rfl 4 (by decide) (hq _ pw_881) (fun _ h9 => h9) (congrArg (fun z => some (va_rf z)) hc62) dX8_head_166 ?_
                  refine lv_aload_n hx hb dX8_head_169 rfl (lv_at hl 8 rfl) ?_
                  refine lv_iload hx hb dX8_head_170 (lv_at hl 0 rfl) ?_
                  refine lv_aload_n hx hb dX8_head_172 rfl (lv_at hl 8 rfl) ?_
                  refine lv_bipush (v := 65) hx hb dX8_head_173 (by decide) ?_
                  have hO : OKW G h0 a (upd (upd (upd (upd (upd F 2 (nI sz)) 9 (nI at9)) 9 (nI at117)) 2 (nI sz)) 9 (nI at117)) (updR R 1 (.ref pq)) Z (updA B 10 f118) J K2.1 (fun q99 x99 => x99 = rep G a K2 q99) w := hO.to rfl
                  obtain ⟨_, qr123, hqr124⟩ := hO.2.1 23 _ (sg_23 G h0 a _ _ _ _ _)
                  refine pn_V0 (G := G) (As := [.int 65]) (rest := [.int (nI at2), .ref (a 3), .ref f2]) hx hb hml hown hq hE hX pX0_al hP hD hS hA hl.1 (P_take l G h0 a (upd (upd (upd F 2 (nI sz)) 9 (nI at9)) 9 (nI at117)) (updR R 1 (.ref pq)) Z (updA B 10 f118) J K2.1 (fun q99 x99 => x99 = rep G a K2 q99) w 65 at117 sz (by omega) (by omega) (by decide) hO hl0) (gV pw_793 pw_794 pw_795 pw_796 pw_781) hV_X8_take qr123 5 hqr124 rfl rfl rfl (Nat.le_of_ble_eq_true rfl) dX8_head_175 ⟨(by show (3 + 2 * np) + 1 ≤ (2 * (sz - at9) + 10); omega), (by show (120 + 11 * np + 4 * cp2) + 6 ≤ (60 * (sz - at9) + 400); omega)⟩ ⟨Nat.le_of_ble_eq_true rfl, Nat.le_of_ble_eq_true rfl⟩ (fun v122 u120 H locs hw121 hP hD hS => ?_) (fun ux ce9 q9 H9 locs9 hux hP9 hD9 hS9 hce hcv hcl => pb_out ux (ThQ.up (Thx.same (Thx.same (Thx.b (Thx.f Thx.rfl (by omega)) (by omega) (by decide)) rfl) rfl) RhX.rfl hux) hnt hlocks hce hcv hcl hP9 hD9 hS9 (by show (3 + 2 * np) + 1 ≤ (2 * (sz - at9) + 10); omega) (by show (120 + 11 * np + 4 * cp2) + 6 ≤ (60 * (sz - at9) + 400); omega))
                  obtain ⟨w, _⟩ := u120
                  obtain ⟨hw121, h125, hO⟩ := hw121
                  have h125 : at117 + 1 ≤ sz := h125
                  obtain rfl : v122 = some (.int (nI at117)) := hw121
                  have hO : OKP G h0 a (upd (upd F 2 (nI sz)) 9 (nI (at117 + 1))) (updR R 1 (.ref pq)) Z (updA B 10 f118) J K2 w := hO.to rfl
                  refine W.widen (k := (3 + 2 * np)) (n := (120 + 11 * np + 4 * cp2)) (by show (3 + 2 * np) + 0 ≤ (3 + 2 * np); omega) (by show (120 + 11 * np + 4 * cp2) + 0 ≤ (120 + 11 * np + 4 * cp2); omega) ?_
                  refine W.eq (g2 := F0 m 178 ls [.int (nI at117), .int (nI at2), .ref (a 3), .ref f2]) rfl ?_
                  have hO : OKP G h0 a (upd (upd (upd F 2 (nI sz)) 9 (nI (at117 + 1))) 2 (nI sz)) (updR R 1 (.ref pq)) Z (updA B 10 f118) J K2 w := hO.to rfl
                  obtain ⟨_, qr129, hqr130⟩ := hO.2.1 23 _ (sg_23 G h0 a _ _ _ _ _)
                  refine pc_V0 (G := G) (As := [.int (nI at2), .int (nI at117)]) (rest := [.ref f2]) hx hb hml hown hq hE hX pX0_al hP hD hS hA hl.1 (P_variable l G h0 a (upd (upd F 2 (nI sz)) 9 (nI (at117 + 1))) (updR R 1 (.ref pq)) Z (updA B 10 f118) J K2 w (nI at2) (nI at117) sz 0 0 g2 (by omega) hwp2.1 (fun o9 h9 => absurd h9 (by omega)) (by omega) hO) (gV pw_888 pw_889 pw_890 pw_796 pw_869) hV_X8_variable qr129 5 hqr130 rfl rfl rfl (Nat.le_of_ble_eq_true rfl) dX8_head_178 ⟨(by show (3 + 2 * np) + 1 ≤ (2 * (sz - at9) + 10); omega), (by show (120 + 11 * np + 4 * cp2) + 11 ≤ (60 * (sz - at9) + 400); omega)⟩ ⟨Nat.le_of_ble_eq_true rfl, Nat.le_of_ble_eq_true rfl⟩ (fun v128 u126 H locs hw127 hP hD hS => ?_)
                  obtain ⟨w, r131, K132, g133⟩ := u126
                  obtain ⟨hw127, h134, h135, hO⟩ := hw127
                  have h134 : NwR K2 K132 g2 g133 r131 0 0 1 := h134
                  have h135 : K132.2.1 0 r131 = 36 := h135
                  obtain rfl : v128 = some (.ref r131) := hw127
                  have hf136 : K132.1 q2 = 3 := (((h134).2.1.1 q2 (by rw [hq2]; decide)).1).trans hq2
                  have hf137 : K132.1 d0 = 4 := (((h134).2.1.1 d0 (by rw [hd2]; decide)).1).trans hd2
                  have hf138 : K132.1 f2 = 5 := (((h134).2.1.1 f2 (by rw [ht2]; decide)).1).trans ht2
                  have hf139 : K132.2.2.1 6 q2 = some f2 := (((h134).2.1.1 q2 (by rw [hq2]; decide)).2.2.1 6).trans hc62
                  have hO : OKP G h0 a (upd (upd F 2 (nI sz)) 9 (nI (at117 + 1))) (updR R 1 (.ref pq)) Z (updA B 10 f118) J K132 w := hO.to rfl
                  refine W.widen (k := ((3 + 2 * np) + 1)) (n := ((120 + 11 * np + 4 * cp2) + 11)) (by show (3 + 2 * np) + 1 ≤ ((3 + 2 * np) + 1); omega) (by show (120 + 11 * np + 4 * cp2) + 11 ≤ ((120 + 11 * np + 4 * cp2) + 11); omega) ?_
                  refine W.eq (g2 := F0 m 181 ls [.ref r131, .ref f2]) rfl ?_
                  have hwp140 := WPr.nd hwp2 h134
                  have hps141 := PgS.nd hps2 hwp2 h134
                  have hf142 : K132.1 r131 = 1 := h134.2.2.1.2.1
                  have hlc143 : LsC G K132 f2 1 np it2 cp2 := (LsC.wx (fun p hp => (h134.2.1.1 p hp).1) (by decide) (h134.2.1.1 f2 (by rw [ht2]; decide)) (fun e he _ => h134.2.1.1 e (by rw [he]; decide)) hlc2)
                  have hO : OKP G h0 a (upd (upd (upd F 2 (nI sz)) 9 (nI at9)) 9 (nI (at117 + 1))) (updR R 1 (.ref pq)) Z (updA B 10 f118) J K132 w := hO.to rfl
                  obtain ⟨qr147, hqr148⟩ := p_recv hO (by rw [hf138]; decide) (rep_5 hf138)
                  refine pn_V0 (G := G) (As := [.ref r131]) (rest := []) hx hb hml hown hq hE hX pX0_al hP hD hS hA hl.1 (L_addC l G h0 a (upd (upd (upd F 2 (nI sz)) 9 (nI at9)) 9 (nI (at117 + 1))) (updR R 1 (.ref pq)) Z (updA B 10 f118) J K132 w f2 1 np it2 cp2 r131 hlc143 (by decide) hf142 (by omega) (by omega) hO hl0) (gV pw_885 pw_886 pw_887 pw_32 pw_868) hV_Jx4a65c_add_9ea2d qr147 10 hqr148 rfl rfl rfl (Nat.le_of_ble_eq_true rfl) dX8_head_181 ⟨(by show ((3 + 2 * np) + 1) + 1 ≤ (2 * (sz - at9) + 10); omega), (by show ((120 + 11 * np + 4 * cp2) + 11) + (10 + np + np / 2) ≤ (60 * (sz - at9) + 400); omega)⟩ ⟨Nat.le_of_ble_eq_true rfl, Nat.le_of_ble_eq_true rfl⟩ (fun v146 u144 H locs hw145 hP hD hS => ?_) (fun ux ce9 q9 H9 locs9 hux hP9 hD9 hS9 hce hcv hcl => pb_out ux (ThQ.up (Thx.b (Thx.f Thx.rfl (by omega)) (by omega) (by decide)) RhX.rfl hux) hnt hlocks hce hcv hcl hP9 hD9 hS9 (by show ((3 + 2 * np) + 1) + 1 ≤ (2 * (sz - at9) + 10); omega) (by show ((120 + 11 * np + 4 * cp2) + 11) + (10 + np + np / 2) ≤ (60 * (sz - at9) + 400); omega))
                  obtain ⟨w, K149, d150⟩ := u144
                  obtain ⟨hw145, h151, h152, h153, h154, h155, hO⟩ := hw145
                  have h151 : LsC G K149 f2 1 (np + 1) (upQ it2 np r131) (cp2 + d150) := h151
                  have h152 : AdQ K132 K149 f2 := h152
                  have h153 : N6 K132 K149 := h153
                  have h154 : cp2 + d150 ≤ 10 + 2 * (np + 1) := h154
                  have h155 : d150 ≤ 10 + np / 2 := h155
                  obtain rfl : v146 = some (.int 1) := hw145
                  have hO : OKP G h0 a (upd (upd F 2 (nI sz)) 9 (nI (at117 + 1))) (updR R 1 (.ref pq)) Z (updA B 10 f118) J K149 w := hO.to rfl
                  refine W.widen (k := (((3 + 2 * np) + 1) + 1)) (n := (((120 + 11 * np + 4 * cp2) + 11) + (4 * d150))) (by show ((3 + 2 * np) + 1) + 1 ≤ (((3 + 2 * np) + 1) + 1); omega) (by show ((120 + 11 * np + 4 * cp2) + 11) + (4 * d150) ≤ (((120 + 11 * np + 4 * cp2) + 11) + (4 * d150)); omega) ?_
                  refine W.eq (g2 := F0 m 184 ls [.int 1]) rfl ?_
                  have hg156 : g133 3 f2 = 3 := (h134.2.1.2 f2 (by rw [ht2]; decide) 3).trans hr2
                  have hwp157 : WPr G K149 g133 := WPr.add hwp140 h152 h153 hf138 (by rw [hg156]; exact h151) (by rw [hg156]; show _ ≤ 5000 ∧ _; omega)
                  have hps158 : PgS G K149 g133 (a 1) pq dr ml nd nm cp it s2 := by have z9 := PgS.add hps141 hwp140 h152 h153 hf138 (fun z => by have z2 := hg156; rw [z, hps141.1.2.2.2.2.2.2.1] at z2; exact absurd z2 (by decide)) (by rw [szL_of h151, szL_of hlc143]) (by rw [hg156]; decide) (by rw [hg156]; decide) (fun z => by rw [hg156] at z; exact absurd z (by decide)); rw [hg156] at z9; exact z9
                  have hf159 : K149.1 q2 = 3 := (h152.1 q2 (by rw [hf136]; decide)).1.trans hf136
                  have hf160 : K149.1 d0 = 4 := (h152.1 d0 (by rw [hf137]; decide)).1.trans hf137
                  have hf161 : K149.1 f2 = 5 := (h152.1 f2 (by rw [hf138]; decide)).1.trans hf138
                  have hf162 : K149.1 r131 = 1 := (h152.1 r131 (by rw [hf142]; decide)).1.trans hf142
                  have hon9 : Onc K149 dr nd q2 := Onc.add (Onc.ext hon2 hps2.2.1 hwp2 hps2.1.2.2.2.1 h134.2.1.1) hps141.2.1 hwp140 hps141.1.2.2.2.1 h152 hf138 (by rw [hg156]; decide)
                  refine lv_pop hx hb dX8_head_184 rfl ?_
                  refine lv_aload_n hx hb dX8_head_185 rfl (lv_at hl 8 rfl) ?_
                  refine lv_bipush (v := 39) hx hb dX8_head_186 (by decide) ?_
                  have hO : OKW G h0 a (upd (upd (upd (upd F 2 (nI sz)) 9 (nI (at117 + 1))) 2 (nI sz)) 9 (nI (at117 + 1))) (updR R 1 (.ref pq)) Z (updA B 10 f118) J K149.1 (fun q99 x99 => x99 = rep G a K149 q99) w := hO.to rfl
                  obtain ⟨_, qr166, hqr167⟩ := hO.2.1 23 _ (sg_23 G h0 a _ _ _ _ _)
                  refine pc_V0 (G := G) (As := [.int 39]) (rest := []) hx hb hml hown hq hE hX pX0_al hP hD hS hA hl.1 (P_takeIf l G h0 a (upd (upd F 2 (nI sz)) 9 (nI (at117 + 1))) (updR R 1 (.ref pq)) Z (updA B 10 f118) J K149.1 (fun q99 x99 => x99 = rep G a K149 q99) w 39 (at117 + 1) sz (by omega) (by omega) (by decide) hO) (gV pw_797 pw_798 pw_799 pw_796 pw_789) hV_X8_takeIf qr166 5 hqr167 rfl rfl rfl (Nat.le_of_ble_eq_true rfl) dX8_head_188 ⟨(by show (((3 + 2 * np) + 1) + 1) + 0 ≤ (2 * (sz - at9) + 10); omega), (by show (((120 + 11 * np + 4 * cp2) + 11) + (4 * d150)) + 0 ≤ (60 * (sz - at9) + 400); omega)⟩ ⟨Nat.le_of_ble_eq_true rfl, Nat.le_of_ble_eq_true rfl⟩ (fun v165 u163 H locs hw164 hP hD hS => ?_)
                  obtain ⟨w, r168⟩ := u163
                  obtain ⟨hw164, h169, h170, hO⟩ := hw164
                  have h169 : r168 ≤ 1 := h169
                  have h170 : (at117 + 1) + r168 ≤ sz := h170
                  obtain rfl : v165 = some (.int (nI r168)) := hw164
                  have hO : OKP G h0 a (upd (upd F 2 (nI sz)) 9 (nI ((at117 + 1) + r168))) (updR R 1 (.ref pq)) Z (updA B 10 f118) J K149 w := hO.to rfl
                  refine W.widen (k := (((3 + 2 * np) + 1) + 1)) (n := (((120 + 11 * np + 4 * cp2) + 11) + (4 * d150))) (by show (((3 + 2 * np) + 1) + 1) + 0 ≤ (((3 + 2 * np) + 1) + 1); omega) (by show (((120 + 11 * np + 4 * cp2) + 11) + (4 * d150)) + 0 ≤ (((120 + 11 * np + 4 * cp2) + 11) + (4 * d150)); omega) ?_
                  refine W.eq (g2 := F0 m 191 ls [.int (nI r168)]) rfl ?_
                  refine lv_istore (lv' := [(5, .int (nI r168)), (8, .int (nI at2)), (7, .int 1), (6, .int (nI i2)), (4, .ref q2), (3, .int (nI tk)), (2, .int x1), (1, .ref d0), (0, .ref (a 3))]) hx hb dX8_head_191 hl (by decide) rfl (fun ls hl => ?_)
                  refine lv_iinc (v := (nI (i2 + 1))) (lv' := [(6, .int (nI (i2 + 1))), (5, .int (nI r168)), (8, .int (nI at2)), (7, .int 1), (4, .ref q2), (3, .int (nI tk)), (2, .int x1), (1, .ref d0), (0, .ref (a 3))]) hx hb dX8_head_193 hl (k := 3) rfl (nI_1 i2) (by decide) rfl (fun ls hl => ?_)
                  refine lv_goto (tgt := 77) hx hb dX8_head_196 (by decide) ?_
                  refine W.widen (k := (3 + 2 * (np + 1))) (n := (120 + 11 * (np + 1) + 4 * (cp2 + d150))) (by show (((3 + 2 * np) + 1) + 1) ≤ _; omega) (by show (((120 + 11 * np + 4 * cp2) + 11) + (4 * d150)) ≤ _; omega) ?_
                  have hO : OKP G h0 a (upd (upd F 2 (nI sz)) 9 (nI ((at117 + 1) + r168))) (updR R 1 (.ref pq)) Z (updA B 10 f118) J K149 w := hO.to rfl
                  exact ih_i (i2 + 1) ((at117 + 1) + r168) f118 (nI r168) K149 g133 q2 f2 (np + 1) (cp2 + d150) (upQ it2 np r131) s2 _ _ _ _ (by omega) (by omega) (by omega) hwp157 hps158 (by omega) hf159 hf160 (((AdQ.sm h152 (by rw [hf136]; decide) (fun z => by have z2 := hf136; rw [z, hf138] at z2; exact absurd z2 (by decide)) (by rw [hf136]; decide)).2.2.1 6).trans ((h134.2.1.1 q2 (by rw [hq2]; decide)).2.2.1 6 |>.trans hc62)) hg156 h151 (by omega) hon9 hP hD hS hO (lv_sub hl [0, 1, 4, 5, 6, 7, 8] rfl)
                · have n171 : ¬ (np < 8) := fun h9 => c110 ((nI_ltI (a := np) (b := 8) (by omega) (by omega)).mpr h9)
                  refine lv_aload_n hx hb dX8_head_145 rfl (lv_at hl 7 rfl) ?_
                  refine c_get (v := .ref (a 1)) (C := RX8) (Tc := TX8) (N := 5) (ci := 5) hx hb hq pin_wsX80 hown hE hP hO 23 (sg_23 G h0 a _ _ _ _ _) rfl 0 (by decide) (hq _ pw_774) (fun _ h9 => h9) rfl dX8_head_146 ?_
                  refine lv_iconst (v := 2) hx hb dX8_head_149 (by decide) ?_
                  refine lv_aload_n hx hb dX8_head_150 rfl (lv_at hl 7 rfl) ?_
                  refine c_get (v := .int (nI at2)) (C := RX8) (Tc := TX8) (N := 5) (ci := 5) hx hb hq pin_wsX80 hown hE hP hO 23 (sg_23 G h0 a _ _ _ _ _) rfl 2 (by decide) (hq _ pw_776) (fun _ h9 => h9) rfl dX8_head_151 ?_
                  have hO : OKW G h0 a (upd (upd (upd (upd F 2 (nI sz)) 9 (nI at9)) 9 (nI at2)) 2 (nI sz)) (updR R 1 (.ref pq)) Z (updA B 10 f9) J K2.1 (fun q99 x99 => x99 = rep G a K2 q99) w := hO.to rfl
                  obtain ⟨_, qr175, hqr176⟩ := hO.2.1 2 _ (sg_2 G h0 a _ _ _ _ _)
                  refine pn_V0 (G := G) (As := [.int 2, .int (nI at2)]) (rest := []) hx hb hml hown hq hE hX pX0_al hP hD hS hA hl.1 (K_fail l G h0 a (upd (upd (upd F 2 (nI sz)) 9 (nI at9)) 9 (nI at2)) (updR R 1 (.ref pq)) Z (updA B 10 f9) J K2.1 (fun q99 x99 => x99 = rep G a K2 q99) w 2 (nI at2) sz (by omega) hO hl0) (gV pw_779 pw_65 pw_66 pw_59 pw_43) hV_X10_fail qr175 7 hqr176 rfl rfl rfl (Nat.le_of_ble_eq_true rfl) dX8_head_154 ⟨(by show (3 + 2 * np) + 1 ≤ (2 * (sz - at9) + 10); omega), (by show (120 + 11 * np + 4 * cp2) + 6 ≤ (60 * (sz - at9) + 400); omega)⟩ ⟨Nat.le_of_ble_eq_true rfl, Nat.le_of_ble_eq_true rfl⟩ (fun v174 u172 H locs hw173 hP hD hS => hw173.elim) (fun ux ce9 q9 H9 locs9 hux hP9 hD9 hS9 hce hcv hcl => pb_out ux (ThQ.up (Thx.same (Thx.b (Thx.f Thx.rfl (by omega)) (by omega) (by decide)) rfl) RhX.rfl hux) hnt hlocks hce hcv hcl hP9 hD9 hS9 (by show (3 + 2 * np) + 1 ≤ (2 * (sz - at9) + 10); omega) (by show (120 + 11 * np + 4 * cp2) + 6 ≤ (60 * (sz - at9) + 400); omega))
              · have n177 : r100 = 0 := (nI_eq (a := r100) (b := 0) (by omega) (by omega)).mp c102
                refine lv_aload_n hx hb dX8_head_103 rfl (lv_at hl 6 rfl) ?_
                refine lv_iconst (v := 1) hx hb dX8_head_104 (by decide) ?_
                have hO : OKW G h0 a (upd (upd (upd (upd F 2 (nI sz)) 9 (nI at2)) 2 (nI sz)) 9 (nI at2)) (updR R 1 (.ref pq)) Z (updA B 10 f9) J K2.1 (fun q99 x99 => x99 = rep G a K2 q99) w := hO.to rfl
                obtain ⟨_, qr181, hqr182⟩ := hO.2.1 23 _ (sg_23 G h0 a _ _ _ _ _)
                refine pc_V0 (G := G) (As := [.int 1]) (rest := []) hx hb hml hown hq hE hX pX0_al hP hD hS hA hl.1 (P_sees l G h0 a (upd (upd F 2 (nI sz)) 9 (nI at2)) (updR R 1 (.ref pq)) Z (updA B 10 f9) J K2.1 (fun q99 x99 => x99 = rep G a K2 q99) w 1 at2 sz (by omega) (by omega) hO) (gV pw_803 pw_804 pw_805 pw_796 pw_775) hV_X8_sees qr181 5 hqr182 rfl rfl rfl (Nat.le_of_ble_eq_true rfl) dX8_head_105 ⟨(by show (3 + 2 * np) + 0 ≤ (2 * (sz - at9) + 10); omega), (by show (120 + 11 * np + 4 * cp2) + 0 ≤ (60 * (sz - at9) + 400); omega)⟩ ⟨Nat.le_of_ble_eq_true rfl, Nat.le_of_ble_eq_true rfl⟩ (fun v180 u178 H locs hw179 hP hD hS => ?_)
                obtain ⟨w, r183⟩ := u178
                obtain ⟨hw179, h184, hO⟩ := hw179
                have h184 : r183 ≤ 1 := h184
                obtain rfl : v180 = some (.int (nI r183)) := hw179
                have hO : OKP G h0 a (upd (upd F 2 (nI sz)) 9 (nI at2)) (updR R 1 (.ref pq)) Z (updA B 10 f9) J K2 w := hO.to rfl
                refine W.widen (k := (3 + 2 * np)) (n := (120 + 11 * np + 4 * cp2)) (by show (3 + 2 * np) + 0 ≤ (3 + 2 * np); omega) (by show (120 + 11 * np + 4 * cp2) + 0 ≤ (120 + 11 * np + 4 * cp2); omega) ?_
                refine W.eq (g2 := F0 m 108 ls [.int (nI r183)]) rfl ?_
                refine lv_if_ne (tgt := 120) hx hb dX8_head_108 (by decide) (fun c185 => ?_) (fun c185 => ?_)
                · have n186 : ¬ (r183 = 0) := fun h9 => c185 ((nI_eq (a := r183) (b := 0) (by omega) (by omega)).mpr h9)
                  refine lv_iconst (v := 1) hx hb dX8_head_120 (by decide) ?_
                  refine lv_goto (tgt := 125) hx hb dX8_head_121 (by decide) ?_
                  refine lv_istore (lv' := [(7, .int 1), (6, .int (nI i2)), (5, .int mo2), (4, .ref q2), (3, .int (nI tk)), (2, .int x1), (1, .ref d0), (0, .ref (a 3))]) hx hb dX8_head_125 hl (by decide) rfl (fun ls hl => ?_)
                  refine lv_iload hx hb dX8_head_127 (lv_at hl 0 rfl) ?_
                  refine lv_if_eq (tgt := 157) hx hb dX8_head_129 (by decide) (fun c187 => absurd c187 (by decide)) (fun c187 => ?_)
                  refine lv_aload hx hb dX8_head_132 (lv_at hl 3 rfl) ?_
                  refine p_get (v := .ref f2) (C := RX6) (Tc := TX6) (N := 12) (ci := 12) hx hb hq pin_wsX60 hown hE hP hO (by rw [hq2]; decide) (rep_3 hq2) rfl 4 (by decide) (hq _ pw_881) (fun _ h9 => h9) (congrArg (fun z => some (va_rf z)) hc62) dX8_head_134 ?_
                  have hO : OKP G h0 a (upd (upd F 2 (nI sz)) 9 (nI at2)) (updR R 1 (.ref pq)) Z (updA B 10 f9) J K2 w := hO.to rfl
                  obtain ⟨qr191, hqr192⟩ := p_recv hO (by rw [ht2]; decide) (rep_5 ht2)
                  refine pc_V0 (G := G) (As := []) (rest := []) hx hb hml hown hq hE hX pX0_al hP hD hS hA hl.1 (L_size l G h0 a (upd (upd F 2 (nI sz)) 9 (nI at2)) (updR R 1 (.ref pq)) Z (updA B 10 f9) J K2 w f2 1 np it2 hlc2.ls hO) (gV pw_882 pw_87 pw_88 pw_32 pw_16) hV_Jx4a65c_size_8abf5 qr191 10 hqr192 rfl rfl rfl (Nat.le_of_ble_eq_true rfl) dX8_head_137 ⟨(by show (3 + 2 * np) + 0 ≤ (2 * (sz - at9) + 10); omega), (by show (120 + 11 * np + 4 * cp2) + 0 ≤ (60 * (sz - at9) + 400); omega)⟩ ⟨Nat.le_of_ble_eq_true rfl, Nat.le_of_ble_eq_true rfl⟩ (fun v190 u188 H locs hw189 hP hD hS => ?_)
                  obtain ⟨w, _⟩ := u188
                  obtain ⟨hw189, hO⟩ := hw189
                  obtain rfl : v190 = some (.int (nI np)) := hw189
                  have hO : OKP G h0 a (upd (upd F 2 (nI sz)) 9 (nI at2)) (updR R 1 (.ref pq)) Z (updA B 10 f9) J K2 w := hO.to rfl
                  refine W.widen (k := (3 + 2 * np)) (n := (120 + 11 * np + 4 * cp2)) (by show (3 + 2 * np) + 0 ≤ (3 + 2 * np); omega) (by show (120 + 11 * np + 4 * cp2) + 0 ≤ (120 + 11 * np + 4 * cp2); omega) ?_
                  refine W.eq (g2 := F0 m 140 ls [.int (nI np)]) rfl ?_
                  refine lv_bipush (v := 8) hx hb dX8_head_140 (by decide) ?_
                  refine lv_icmp_lt (tgt := 157) hx hb dX8_head_142 (by decide) (fun c193 => ?_) (fun c193 => ?_)
                  · have n194 : np < 8 := (nI_ltI (a := np) (b := 8) (by omega) (by omega)).mp c193
                    refine lv_aload_n hx hb dX8_head_157 rfl (lv_at hl 7 rfl) ?_
                    refine lv_iconst (v := 1) hx hb dX8_head_158 (by decide) ?_
                    have hO : OKW G h0 a (upd (upd (upd (upd (upd F 2 (nI sz)) 9 (nI at9)) 9 (nI at2)) 2 (nI sz)) 9 (nI at2)) (updR R 1 (.ref pq)) Z (updA B 10 f9) J K2.1 (fun q99 x99 => x99 = rep G a K2 q99) w := hO.to rfl
                    obtain ⟨_, qr198, hqr199⟩ := hO.2.1 23 _ (sg_23 G h0 a _ _ _ _ _)
                    refine pn_V0 (G := G) (As := [.int 1]) (rest := []) hx hb hml hown hq hE hX pX0_al hP hD hS hA hl.1 (P_takeType l G h0 a (upd (upd (upd F 2 (nI sz)) 9 (nI at9)) 9 (nI at2)) (updR R 1 (.ref pq)) Z (updA B 10 f9) J K2.1 (fun q99 x99 => x99 = rep G a K2 q99) w 1 at2 sz (by omega) (by omega) hO hl0) (gV pw_825 pw_826 pw_827 pw_796 pw_821) hV_X8_takeType qr198 5 hqr199 rfl rfl rfl (Nat.le_of_ble_eq_true rfl) dX8_head_159 ⟨(by show (3 + 2 * np) + 1 ≤ (2 * (sz - at9) + 10); omega), (by show (120 + 11 * np + 4 * cp2) + 6 ≤ (60 * (sz - at9) + 400); omega)⟩ ⟨Nat.le_of_ble_eq_true rfl, Nat.le_of_ble_eq_true rfl⟩ (fun v197 u195 H locs hw196 hP hD hS => ?_) (fun ux ce9 q9 H9 locs9 hux hP9 hD9 hS9 hce hcv hcl => pb_out ux (ThQ.up (Thx.same (Thx.same (Thx.b (Thx.f Thx.rfl (by omega)) (by omega) (by decide)) rfl) rfl) RhX.rfl hux) hnt hlocks hce hcv hcl hP9 hD9 hS9 (by show (3 + 2 * np) + 1 ≤ (2 * (sz - at9) + 10); omega) (by show (120 + 11 * np + 4 * cp2) + 6 ≤ (60 * (sz - at9) + 400); omega))
                    obtain ⟨w, at200, f201⟩ := u195
                    obtain ⟨hw196, h202, hO⟩ := hw196
                    have h202 : at2 + 1 ≤ at200 ∧ at200 ≤ sz := h202
                    obtain rfl : v197 = some (.int (nI at2)) := hw196
                    have hO : OKP G h0 a (upd (upd F 2 (nI sz)) 9 (nI at200)) (updR R 1 (.ref pq)) Z (updA B 10 f201) J K2 w := hO.to rfl
                    refine W.widen (k := (3 + 2 * np)) (n := (120 + 11 * np + 4 * cp2)) (by show (3 + 2 * np) + 0 ≤ (3 + 2 * np); omega) (by show (120 + 11 * np + 4 * cp2) + 0 ≤ (120 + 11 * np + 4 * cp2); omega) ?_
                    refine W.eq (g2 := F0 m 162 ls [.int (nI at2)]) rfl ?_
                    refine lv_istore (lv' := [(8, .int (nI at2)), (7, .int 1), (6, .int (nI i2)), (5, .int mo2), (4, .ref q2), (3, .int (nI tk)), (2, .int x1), (1, .ref d0), (0, .ref (a 3))]) hx hb dX8_head_162 hl (by decide) rfl (fun ls hl => ?_)
                    refine lv_aload hx hb dX8_head_164 (lv_at hl 4 rfl) ?_
                    refine p_get (v := .ref f2) (C := RX6) (Tc := TX6) (N := 12) (ci := 12) hx hb hq pin_wsX60 hown hE hP hO (by rw [hq2]; decide) (rep_3 hq2) rfl 4 (by decide) (hq _ pw_881) (fun _ h9 => h9) (congrArg (fun z => some (va_rf z)) hc62) dX8_head_166 ?_
                    refine lv_aload_n hx hb dX8_head_169 rfl (lv_at hl 8 rfl) ?_
                    refine lv_iload hx hb dX8_head_170 (lv_at hl 0 rfl) ?_
                    refine lv_aload_n hx hb dX8_head_172 rfl (lv_at hl 8 rfl) ?_
                    refine lv_bipush (v := 65) hx hb dX8_head_173 (by decide) ?_
                    have hO : OKW G h0 a (upd (upd (upd (upd (upd F 2 (nI sz)) 9 (nI at9)) 9 (nI at200)) 2 (nI sz)) 9 (nI at200)) (updR R 1 (.ref pq)) Z (updA B 10 f201) J K2.1 (fun q99 x99 => x99 = rep G a K2 q99) w := hO.to rfl
                    obtain ⟨_, qr206, hqr207⟩ := hO.2.1 23 _ (sg_23 G h0 a _ _ _ _ _)
                    refine pn_V0 (G := G) (As := [.int 65]) (rest := [.int (nI at2), .ref (a 3), .ref f2]) hx hb hml hown hq hE hX pX0_al hP hD hS hA hl.1 (P_take l G h0 a (upd (upd (upd F 2 (nI sz)) 9 (nI at9)) 9 (nI at200)) (updR R 1 (.ref pq)) Z (updA B 10 f201) J K2.1 (fun q99 x99 => x99 = rep G a K2 q99) w 65 at200 sz (by omega) (by omega) (by decide) hO hl0) (gV pw_793 pw_794 pw_795 pw_796 pw_781) hV_X8_take qr206 5 hqr207 rfl rfl rfl (Nat.le_of_ble_eq_true rfl) dX8_head_175 ⟨(by show (3 + 2 * np) + 1 ≤ (2 * (sz - at9) + 10); omega), (by show (120 + 11 * np + 4 * cp2) + 6 ≤ (60 * (sz - at9) + 400); omega)⟩ ⟨Nat.le_of_ble_eq_true rfl, Nat.le_of_ble_eq_true rfl⟩ (fun v205 u203 H locs hw204 hP hD hS => ?_) (fun ux ce9 q9 H9 locs9 hux hP9 hD9 hS9 hce hcv hcl => pb_out ux (ThQ.up (Thx.same (Thx.same (Thx.b (Thx.f Thx.rfl (by omega)) (by omega) (by decide)) rfl) rfl) RhX.rfl hux) hnt hlocks hce hcv hcl hP9 hD9 hS9 (by show (3 + 2 * np) + 1 ≤ (2 * (sz - at9) + 10); omega) (by show (120 + 11 * np + 4 * cp2) + 6 ≤ (60 * (sz - at9) + 400); omega))
                    obtain ⟨w, _⟩ := u203
                    obtain ⟨hw204, h208, hO⟩ := hw204
                    have h208 : at200 + 1 ≤ sz := h208
                    obtain rfl : v205 = some (.int (nI at200)) := hw204
                    have hO : OKP G h0 a (upd (upd F 2 (nI sz)) 9 (nI (at200 + 1))) (updR R 1 (.ref pq)) Z (updA B 10 f201) J K2 w := hO.to rfl
                    refine W.widen (k := (3 + 2 * np)) (n := (120 + 11 * np + 4 * cp2)) (by show (3 + 2 * np) + 0 ≤ (3 + 2 * np); omega) (by show (120 + 11 * np + 4 * cp2) + 0 ≤ (120 + 11 * np + 4 * cp2); omega) ?_
                    refine W.eq (g2 := F0 m 178 ls [.int (nI at200), .int (nI at2), .ref (a 3), .ref f2]) rfl ?_
                    have hO : OKP G h0 a (upd (upd (upd F 2 (nI sz)) 9 (nI (at200 + 1))) 2 (nI sz)) (updR R 1 (.ref pq)) Z (updA B 10 f201) J K2 w := hO.to rfl
                    obtain ⟨_, qr212, hqr213⟩ := hO.2.1 23 _ (sg_23 G h0 a _ _ _ _ _)
                    refine pc_V0 (G := G) (As := [.int (nI at2), .int (nI at200)]) (rest := [.ref f2]) hx hb hml hown hq hE hX pX0_al hP hD hS hA hl.1 (P_variable l G h0 a (upd (upd F 2 (nI sz)) 9 (nI (at200 + 1))) (updR R 1 (.ref pq)) Z (updA B 10 f201) J K2 w (nI at2) (nI at200) sz 0 0 g2 (by omega) hwp2.1 (fun o9 h9 => absurd h9 (by omega)) (by omega) hO) (gV pw_888 pw_889 pw_890 pw_796 pw_869) hV_X8_variable qr212 5 hqr213 rfl rfl rfl (Nat.le_of_ble_eq_true rfl) dX8_head_178 ⟨(by show (3 + 2 * np) + 1 ≤ (2 * (sz - at9) + 10); omega), (by show (120 + 11 * np + 4 * cp2) + 11 ≤ (60 * (sz - at9) + 400); omega)⟩ ⟨Nat.le_of_ble_eq_true rfl, Nat.le_of_ble_eq_true rfl⟩ (fun v211 u209 H locs hw210 hP hD hS => ?_)
                    obtain ⟨w, r214, K215, g216⟩ := u209
                    obtain ⟨hw210, h217, h218, hO⟩ := hw210
                    have h217 : NwR K2 K215 g2 g216 r214 0 0 1 := h217
                    have h218 : K215.2.1 0 r214 = 36 := h218
                    obtain rfl : v211 = some (.ref r214) := hw210
                    have hf219 : K215.1 q2 = 3 := (((h217).2.1.1 q2 (by rw [hq2]; decide)).1).trans hq2
                    have hf220 : K215.1 d0 = 4 := (((h217).2.1.1 d0 (by rw [hd2]; decide)).1).trans hd2
                    have hf221 : K215.1 f2 = 5 := (((h217).2.1.1 f2 (by rw [ht2]; decide)).1).trans ht2
                    have hf222 : K215.2.2.1 6 q2 = some f2 := (((h217).2.1.1 q2 (by rw [hq2]; decide)).2.2.1 6).trans hc62
                    have hO : OKP G h0 a (upd (upd F 2 (nI sz)) 9 (nI (at200 + 1))) (updR R 1 (.ref pq)) Z (updA B 10 f201) J K215 w := hO.to rfl
                    refine W.widen (k := ((3 + 2 * np) + 1)) (n := ((120 + 11 * np + 4 * cp2) + 11)) (by show (3 + 2 * np) + 1 ≤ ((3 + 2 * np) + 1); omega) (by show (120 + 11 * np + 4 * cp2) + 11 ≤ ((120 + 11 * np + 4 * cp2) + 11); omega) ?_
                    refine W.eq (g2 := F0 m 181 ls [.ref r214, .ref f2]) rfl ?_
                    have hwp223 := WPr.nd hwp2 h217
                    have hps224 := PgS.nd hps2 hwp2 h217
                    have hf225 : K215.1 r214 = 1 := h217.2.2.1.2.1
                    have hlc226 : LsC G K215 f2 1 np it2 cp2 := (LsC.wx (fun p hp => (h217.2.1.1 p hp).1) (by decide) (h217.2.1.1 f2 (by rw [ht2]; decide)) (fun e he _ => h217.2.1.1 e (by rw [he]; decide)) hlc2)
                    have hO : OKP G h0 a (upd (upd (upd F 2 (nI sz)) 9 (nI at9)) 9 (nI (at200 + 1))) (updR R 1 (.ref pq)) Z (updA B 10 f201) J K215 w := hO.to rfl
                    obtain ⟨qr230, hqr231⟩ := p_recv hO (by rw [hf221]; decide) (rep_5 hf221)
                    refine pn_V0 (G := G) (As := [.ref r214]) (rest := []) hx hb hml hown hq hE hX pX0_al hP hD hS hA hl.1 (L_addC l G h0 a (upd (upd (upd F 2 (nI sz)) 9 (nI at9)) 9 (nI (at200 + 1))) (updR R 1 (.ref pq)) Z (updA B 10 f201) J K215 w f2 1 np it2 cp2 r214 hlc226 (by decide) hf225 (by omega) (by omega) hO hl0) (gV pw_885 pw_886 pw_887 pw_32 pw_868) hV_Jx4a65c_add_9ea2d qr230 10 hqr231 rfl rfl rfl (Nat.le_of_ble_eq_true rfl) dX8_head_181 ⟨(by show ((3 + 2 * np) + 1) + 1 ≤ (2 * (sz - at9) + 10); omega), (by show ((120 + 11 * np + 4 * cp2) + 11) + (10 + np + np / 2) ≤ (60 * (sz - at9) + 400); omega)⟩ ⟨Nat.le_of_ble_eq_true rfl, Nat.le_of_ble_eq_true rfl⟩ (fun v229 u227 H locs hw228 hP hD hS => ?_) (fun ux ce9 q9 H9 locs9 hux hP9 hD9 hS9 hce hcv hcl => pb_out ux (ThQ.up (Thx.b (Thx.f Thx.rfl (by omega)) (by omega) (by decide)) RhX.rfl hux) hnt hlocks hce hcv hcl hP9 hD9 hS9 (by show ((3 + 2 * np) + 1) + 1 ≤ (2 * (sz - at9) + 10); omega) (by show ((120 + 11 * np + 4 * cp2) + 11) + (10 + np + np / 2) ≤ (60 * (sz - at9) + 400); omega))
                    obtain ⟨w, K232, d233⟩ := u227
                    obtain ⟨hw228, h234, h235, h236, h237, h238, hO⟩ := hw228
                    have h234 : LsC G K232 f2 1 (np + 1) (upQ it2 np r214) (cp2 + d233) := h234
                    have h235 : AdQ K215 K232 f2 := h235
                    have h236 : N6 K215 K232 := h236
                    have h237 : cp2 + d233 ≤ 10 + 2 * (np + 1) := h237
                    have h238 : d233 ≤ 10 + np / 2 := h238
                    obtain rfl : v229 = some (.int 1) := hw228
                    have hO : OKP G h0 a (upd (upd F 2 (nI sz)) 9 (nI (at200 + 1))) (updR R 1 (.ref pq)) Z (updA B 10 f201) J K232 w := hO.to rfl
                    refine W.widen (k := (((3 + 2 * np) + 1) + 1)) (n := (((120 + 11 * np + 4 * cp2) + 11) + (4 * d233))) (by show ((3 + 2 * np) + 1) + 1 ≤ (((3 + 2 * np) + 1) + 1); omega) (by show ((120 + 11 * np + 4 * cp2) + 11) + (4 * d233) ≤ (((120 + 11 * np + 4 * cp2) + 11) + (4 * d233)); omega) ?_
                    refine W.eq (g2 := F0 m 184 ls [.int 1]) rfl ?_
                    have hg239 : g216 3 f2 = 3 := (h217.2.1.2 f2 (by rw [ht2]; decide) 3).trans hr2
                    have hwp240 : WPr G K232 g216 := WPr.add hwp223 h235 h236 hf221 (by rw [hg239]; exact h234) (by rw [hg239]; show _ ≤ 5000 ∧ _; omega)
                    have hps241 : PgS G K232 g216 (a 1) pq dr ml nd nm cp it s2 := by have z9 := PgS.add hps224 hwp223 h235 h236 hf221 (fun z => by have z2 := hg239; rw [z, hps224.1.2.2.2.2.2.2.1] at z2; exact absurd z2 (by decide)) (by rw [szL_of h234, szL_of hlc226]) (by rw [hg239]; decide) (by rw [hg239]; decide) (fun z => by rw [hg239] at z; exact absurd z (by decide)); rw [hg239] at z9; exact z9
                    have hf242 : K232.1 q2 = 3 := (h235.1 q2 (by rw [hf219]; decide)).1.trans hf219
                    have hf243 : K232.1 d0 = 4 := (h235.1 d0 (by rw [hf220]; decide)).1.trans hf220
                    have hf244 : K232.1 f2 = 5 := (h235.1 f2 (by rw [hf221]; decide)).1.trans hf221
                    have hf245 : K232.1 r214 = 1 := (h235.1 r214 (by rw [hf225]; decide)).1.trans hf225
                    have hon9 : Onc K232 dr nd q2 := Onc.add (Onc.ext hon2 hps2.2.1 hwp2 hps2.1.2.2.2.1 h217.2.1.1) hps224.2.1 hwp223 hps224.1.2.2.2.1 h235 hf221 (by rw [hg239]; decide)
                    refine lv_pop hx hb dX8_head_184 rfl ?_
                    refine lv_aload_n hx hb dX8_head_185 rfl (lv_at hl 8 rfl) ?_
                    refine lv_bipush (v := 39) hx hb dX8_head_186 (by decide) ?_
                    have hO : OKW G h0 a (upd (upd (upd (upd F 2 (nI sz)) 9 (nI (at200 + 1))) 2 (nI sz)) 9 (nI (at200 + 1))) (updR R 1 (.ref pq)) Z (updA B 10 f201) J K232.1 (fun q99 x99 => x99 = rep G a K232 q99) w := hO.to rfl
                    obtain ⟨_, qr249, hqr250⟩ := hO.2.1 23 _ (sg_23 G h0 a _ _ _ _ _)
                    refine pc_V0 (G := G) (As := [.int 39]) (rest := []) hx hb hml hown hq hE hX pX0_al hP hD hS hA hl.1 (P_takeIf l G h0 a (upd (upd F 2 (nI sz)) 9 (nI (at200 + 1))) (updR R 1 (.ref pq)) Z (updA B 10 f201) J K232.1 (fun q99 x99 => x99 = rep G a K232 q99) w 39 (at200 + 1) sz (by omega) (by omega) (by decide) hO) (gV pw_797 pw_798 pw_799 pw_796 pw_789) hV_X8_takeIf qr249 5 hqr250 rfl rfl rfl (Nat.le_of_ble_eq_true rfl) dX8_head_188 ⟨(by show (((3 + 2 * np) + 1) + 1) + 0 ≤ (2 * (sz - at9) + 10); omega), (by show (((120 + 11 * np + 4 * cp2) + 11) + (4 * d233)) + 0 ≤ (60 * (sz - at9) + 400); omega)⟩ ⟨Nat.le_of_ble_eq_true rfl, Nat.le_of_ble_eq_true rfl⟩ (fun v248 u246 H locs hw247 hP hD hS => ?_)
                    obtain ⟨w, r251⟩ := u246
                    obtain ⟨hw247, h252, h253, hO⟩ := hw247
                    have h252 : r251 ≤ 1 := h252
                    have h253 : (at200 + 1) + r251 ≤ sz := h253
                    obtain rfl : v248 = some (.int (nI r251)) := hw247
                    have hO : OKP G h0 a (upd (upd F 2 (nI sz)) 9 (nI ((at200 + 1) + r251))) (updR R 1 (.ref pq)) Z (updA B 10 f201) J K232 w := hO.to rfl
                    refine W.widen (k := (((3 + 2 * np) + 1) + 1)) (n := (((120 + 11 * np + 4 * cp2) + 11) + (4 * d233))) (by show (((3 + 2 * np) + 1) + 1) + 0 ≤ (((3 + 2 * np) + 1) + 1); omega) (by show (((120 + 11 * np + 4 * cp2) + 11) + (4 * d233)) + 0 ≤ (((120 + 11 * np + 4 * cp2) + 11) + (4 * d233)); omega) ?_
                    refine W.eq (g2 := F0 m 191 ls [.int (nI r251)]) rfl ?_
                    refine lv_istore (lv' := [(5, .int (nI r251)), (8, .int (nI at2)), (7, .int 1), (6, .int (nI i2)), (4, .ref q2), (3, .int (nI tk)), (2, .int x1), (1, .ref d0), (0, .ref (a 3))]) hx hb dX8_head_191 hl (by decide) rfl (fun ls hl => ?_)
                    refine lv_iinc (v := (nI (i2 + 1))) (lv' := [(6, .int (nI (i2 + 1))), (5, .int (nI r251)), (8, .int (nI at2)), (7, .int 1), (4, .ref q2), (3, .int (nI tk)), (2, .int x1), (1, .ref d0), (0, .ref (a 3))]) hx hb dX8_head_193 hl (k := 3) rfl (nI_1 i2) (by decide) rfl (fun ls hl => ?_)
                    refine lv_goto (tgt := 77) hx hb dX8_head_196 (by decide) ?_
                    refine W.widen (k := (3 + 2 * (np + 1))) (n := (120 + 11 * (np + 1) + 4 * (cp2 + d233))) (by show (((3 + 2 * np) + 1) + 1) ≤ _; omega) (by show (((120 + 11 * np + 4 * cp2) + 11) + (4 * d233)) ≤ _; omega) ?_
                    have hO : OKP G h0 a (upd (upd F 2 (nI sz)) 9 (nI ((at200 + 1) + r251))) (updR R 1 (.ref pq)) Z (updA B 10 f201) J K232 w := hO.to rfl
                    exact ih_i (i2 + 1) ((at200 + 1) + r251) f201 (nI r251) K232 g216 q2 f2 (np + 1) (cp2 + d233) (upQ it2 np r214) s2 _ _ _ _ (by omega) (by omega) (by omega) hwp240 hps241 (by omega) hf242 hf243 (((AdQ.sm h235 (by rw [hf219]; decide) (fun z => by have z2 := hf219; rw [z, hf221] at z2; exact absurd z2 (by decide)) (by rw [hf219]; decide)).2.2.1 6).trans ((h217.2.1.1 q2 (by rw [hq2]; decide)).2.2.1 6 |>.trans hc62)) hg239 h234 (by omega) hon9 hP hD hS hO (lv_sub hl [0, 1, 4, 5, 6, 7, 8] rfl)
                  · have n254 : ¬ (np < 8) := fun h9 => c193 ((nI_ltI (a := np) (b := 8) (by omega) (by omega)).mpr h9)
                    refine lv_aload_n hx hb dX8_head_145 rfl (lv_at hl 7 rfl) ?_
                    refine c_get (v := .ref (a 1)) (C := RX8) (Tc := TX8) (N := 5) (ci := 5) hx hb hq pin_wsX80 hown hE hP hO 23 (sg_23 G h0 a _ _ _ _ _) rfl 0 (by decide) (hq _ pw_774) (fun _ h9 => h9) rfl dX8_head_146 ?_
                    refine lv_iconst (v := 2) hx hb dX8_head_149 (by decide) ?_
                    refine lv_aload_n hx hb dX8_head_150 rfl (lv_at hl 7 rfl) ?_
                    refine c_get (v := .int (nI at2)) (C := RX8) (Tc := TX8) (N := 5) (ci := 5) hx hb hq pin_wsX80 hown hE hP hO 23 (sg_23 G h0 a _ _ _ _ _) rfl 2 (by decide) (hq _ pw_776) (fun _ h9 => h9) rfl dX8_head_151 ?_
                    have hO : OKW G h0 a (upd (upd (upd (upd F 2 (nI sz)) 9 (nI at9)) 9 (nI at2)) 2 (nI sz)) (updR R 1 (.ref pq)) Z (updA B 10 f9) J K2.1 (fun q99 x99 => x99 = rep G a K2 q99) w := hO.to rfl
                    obtain ⟨_, qr258, hqr259⟩ := hO.2.1 2 _ (sg_2 G h0 a _ _ _ _ _)
                    refine pn_V0 (G := G) (As := [.int 2, .int (nI at2)]) (rest := []) hx hb hml hown hq hE hX pX0_al hP hD hS hA hl.1 (K_fail l G h0 a (upd (upd (upd F 2 (nI sz)) 9 (nI at9)) 9 (nI at2)) (updR R 1 (.ref pq)) Z (updA B 10 f9) J K2.1 (fun q99 x99 => x99 = rep G a K2 q99) w 2 (nI at2) sz (by omega) hO hl0) (gV pw_779 pw_65 pw_66 pw_59 pw_43) hV_X10_fail qr258 7 hqr259 rfl rfl rfl (Nat.le_of_ble_eq_true rfl) dX8_head_154 ⟨(by show (3 + 2 * np) + 1 ≤ (2 * (sz - at9) + 10); omega), (by show (120 + 11 * np + 4 * cp2) + 6 ≤ (60 * (sz - at9) + 400); omega)⟩ ⟨Nat.le_of_ble_eq_true rfl, Nat.le_of_ble_eq_true rfl⟩ (fun v257 u255 H locs hw256 hP hD hS => hw256.elim) (fun ux ce9 q9 H9 locs9 hux hP9 hD9 hS9 hce hcv hcl => pb_out ux (ThQ.up (Thx.same (Thx.b (Thx.f Thx.rfl (by omega)) (by omega) (by decide)) rfl) RhX.rfl hux) hnt hlocks hce hcv hcl hP9 hD9 hS9 (by show (3 + 2 * np) + 1 ≤ (2 * (sz - at9) + 10); omega) (by show (120 + 11 * np + 4 * cp2) + 6 ≤ (60 * (sz - at9) + 400); omega))
                · have n260 : r183 = 0 := (nI_eq (a := r183) (b := 0) (by omega) (by omega)).mp c185
                  refine lv_aload_n hx hb dX8_head_111 rfl (lv_at hl 6 rfl) ?_
                  refine lv_bipush (v := 65) hx hb dX8_head_112 (by decide) ?_
                  have hO : OKW G h0 a (upd (upd (upd (upd F 2 (nI sz)) 9 (nI at2)) 2 (nI sz)) 9 (nI at2)) (updR R 1 (.ref pq)) Z (updA B 10 f9) J K2.1 (fun q99 x99 => x99 = rep G a K2 q99) w := hO.to rfl
                  obtain ⟨_, qr264, hqr265⟩ := hO.2.1 23 _ (sg_23 G h0 a _ _ _ _ _)
                  refine pc_V0 (G := G) (As := [.int 65]) (rest := []) hx hb hml hown hq hE hX pX0_al hP hD hS hA hl.1 (P_sees l G h0 a (upd (upd F 2 (nI sz)) 9 (nI at2)) (updR R 1 (.ref pq)) Z (updA B 10 f9) J K2.1 (fun q99 x99 => x99 = rep G a K2 q99) w 65 at2 sz (by omega) (by omega) hO) (gV pw_803 pw_804 pw_805 pw_796 pw_775) hV_X8_sees qr264 5 hqr265 rfl rfl rfl (Nat.le_of_ble_eq_true rfl) dX8_head_114 ⟨(by show (3 + 2 * np) + 0 ≤ (2 * (sz - at9) + 10); omega), (by show (120 + 11 * np + 4 * cp2) + 0 ≤ (60 * (sz - at9) + 400); omega)⟩ ⟨Nat.le_of_ble_eq_true rfl, Nat.le_of_ble_eq_true rfl⟩ (fun v263 u261 H locs hw262 hP hD hS => ?_)
                  obtain ⟨w, r266⟩ := u261
                  obtain ⟨hw262, h267, hO⟩ := hw262
                  have h267 : r266 ≤ 1 := h267
                  obtain rfl : v263 = some (.int (nI r266)) := hw262
                  have hO : OKP G h0 a (upd (upd F 2 (nI sz)) 9 (nI at2)) (updR R 1 (.ref pq)) Z (updA B 10 f9) J K2 w := hO.to rfl
                  refine W.widen (k := (3 + 2 * np)) (n := (120 + 11 * np + 4 * cp2)) (by show (3 + 2 * np) + 0 ≤ (3 + 2 * np); omega) (by show (120 + 11 * np + 4 * cp2) + 0 ≤ (120 + 11 * np + 4 * cp2); omega) ?_
                  refine W.eq (g2 := F0 m 117 ls [.int (nI r266)]) rfl ?_
                  refine lv_if_eq (tgt := 124) hx hb dX8_head_117 (by decide) (fun c268 => ?_) (fun c268 => ?_)
                  · have n269 : r266 = 0 := (nI_eq (a := r266) (b := 0) (by omega) (by omega)).mp c268
                    refine lv_iconst (v := 0) hx hb dX8_head_124 (by decide) ?_
                    refine lv_istore (lv' := [(7, .int 0), (6, .int (nI i2)), (5, .int mo2), (4, .ref q2), (3, .int (nI tk)), (2, .int x1), (1, .ref d0), (0, .ref (a 3))]) hx hb dX8_head_125 hl (by decide) rfl (fun ls hl => ?_)
                    refine lv_iload hx hb dX8_head_127 (lv_at hl 0 rfl) ?_
                    refine lv_if_eq (tgt := 157) hx hb dX8_head_129 (by decide) (fun c270 => ?_) (fun c270 => absurd c270 (by decide))
                    refine lv_aload_n hx hb dX8_head_157 rfl (lv_at hl 7 rfl) ?_
                    refine lv_iconst (v := 1) hx hb dX8_head_158 (by decide) ?_
                    have hO : OKW G h0 a (upd (upd (upd (upd (upd F 2 (nI sz)) 9 (nI at9)) 9 (nI at2)) 2 (nI sz)) 9 (nI at2)) (updR R 1 (.ref pq)) Z (updA B 10 f9) J K2.1 (fun q99 x99 => x99 = rep G a K2 q99) w := hO.to rfl
                    obtain ⟨_, qr274, hqr275⟩ := hO.2.1 23 _ (sg_23 G h0 a _ _ _ _ _)
                    refine pn_V0 (G := G) (As := [.int 1]) (rest := []) hx hb hml hown hq hE hX pX0_al hP hD hS hA hl.1 (P_takeType l G h0 a (upd (upd (upd F 2 (nI sz)) 9 (nI at9)) 9 (nI at2)) (updR R 1 (.ref pq)) Z (updA B 10 f9) J K2.1 (fun q99 x99 => x99 = rep G a K2 q99) w 1 at2 sz (by omega) (by omega) hO hl0) (gV pw_825 pw_826 pw_827 pw_796 pw_821) hV_X8_takeType qr274 5 hqr275 rfl rfl rfl (Nat.le_of_ble_eq_true rfl) dX8_head_159 ⟨(by show (3 + 2 * np) + 1 ≤ (2 * (sz - at9) + 10); omega), (by show (120 + 11 * np + 4 * cp2) + 6 ≤ (60 * (sz - at9) + 400); omega)⟩ ⟨Nat.le_of_ble_eq_true rfl, Nat.le_of_ble_eq_true rfl⟩ (fun v273 u271 H locs hw272 hP hD hS => ?_) (fun ux ce9 q9 H9 locs9 hux hP9 hD9 hS9 hce hcv hcl => pb_out ux (ThQ.up (Thx.same (Thx.same (Thx.b (Thx.f Thx.rfl (by omega)) (by omega) (by decide)) rfl) rfl) RhX.rfl hux) hnt hlocks hce hcv hcl hP9 hD9 hS9 (by show (3 + 2 * np) + 1 ≤ (2 * (sz - at9) + 10); omega) (by show (120 + 11 * np + 4 * cp2) + 6 ≤ (60 * (sz - at9) + 400); omega))
                    obtain ⟨w, at276, f277⟩ := u271
                    obtain ⟨hw272, h278, hO⟩ := hw272
                    have h278 : at2 + 1 ≤ at276 ∧ at276 ≤ sz := h278
                    obtain rfl : v273 = some (.int (nI at2)) := hw272
                    have hO : OKP G h0 a (upd (upd F 2 (nI sz)) 9 (nI at276)) (updR R 1 (.ref pq)) Z (updA B 10 f277) J K2 w := hO.to rfl
                    refine W.widen (k := (3 + 2 * np)) (n := (120 + 11 * np + 4 * cp2)) (by show (3 + 2 * np) + 0 ≤ (3 + 2 * np); omega) (by show (120 + 11 * np + 4 * cp2) + 0 ≤ (120 + 11 * np + 4 * cp2); omega) ?_
                    refine W.eq (g2 := F0 m 162 ls [.int (nI at2)]) rfl ?_
                    refine lv_istore (lv' := [(8, .int (nI at2)), (7, .int 0), (6, .int (nI i2)), (5, .int mo2), (4, .ref q2), (3, .int (nI tk)), (2, .int x1), (1, .ref d0), (0, .ref (a 3))]) hx hb dX8_head_162 hl (by decide) rfl (fun ls hl => ?_)
                    refine lv_aload hx hb dX8_head_164 (lv_at hl 4 rfl) ?_
                    refine p_get (v := .ref f2) (C := RX6) (Tc := TX6) (N := 12) (ci := 12) hx hb hq pin_wsX60 hown hE hP hO (by rw [hq2]; decide) (rep_3 hq2) rfl 4 (by decide) (hq _ pw_881) (fun _ h9 => h9) (congrArg (fun z => some (va_rf z)) hc62) dX8_head_166 ?_
                    refine lv_aload_n hx hb dX8_head_169 rfl (lv_at hl 8 rfl) ?_
                    refine lv_iload hx hb dX8_head_170 (lv_at hl 0 rfl) ?_
                    refine lv_aload_n hx hb dX8_head_172 rfl (lv_at hl 8 rfl) ?_
                    refine lv_bipush (v := 65) hx hb dX8_head_173 (by decide) ?_
                    have hO : OKW G h0 a (upd (upd (upd (upd (upd F 2 (nI sz)) 9 (nI at9)) 9 (nI at276)) 2 (nI sz)) 9 (nI at276)) (updR R 1 (.ref pq)) Z (updA B 10 f277) J K2.1 (fun q99 x99 => x99 = rep G a K2 q99) w := hO.to rfl
                    obtain ⟨_, qr282, hqr283⟩ := hO.2.1 23 _ (sg_23 G h0 a _ _ _ _ _)
                    refine pn_V0 (G := G) (As := [.int 65]) (rest := [.int (nI at2), .ref (a 3), .ref f2]) hx hb hml hown hq hE hX pX0_al hP hD hS hA hl.1 (P_take l G h0 a (upd (upd (upd F 2 (nI sz)) 9 (nI at9)) 9 (nI at276)) (updR R 1 (.ref pq)) Z (updA B 10 f277) J K2.1 (fun q99 x99 => x99 = rep G a K2 q99) w 65 at276 sz (by omega) (by omega) (by decide) hO hl0) (gV pw_793 pw_794 pw_795 pw_796 pw_781) hV_X8_take qr282 5 hqr283 rfl rfl rfl (Nat.le_of_ble_eq_true rfl) dX8_head_175 ⟨(by show (3 + 2 * np) + 1 ≤ (2 * (sz - at9) + 10); omega), (by show (120 + 11 * np + 4 * cp2) + 6 ≤ (60 * (sz - at9) + 400); omega)⟩ ⟨Nat.le_of_ble_eq_true rfl, Nat.le_of_ble_eq_true rfl⟩ (fun v281 u279 H locs hw280 hP hD hS => ?_) (fun ux ce9 q9 H9 locs9 hux hP9 hD9 hS9 hce hcv hcl => pb_out ux (ThQ.up (Thx.same (Thx.same (Thx.b (Thx.f Thx.rfl (by omega)) (by omega) (by decide)) rfl) rfl) RhX.rfl hux) hnt hlocks hce hcv hcl hP9 hD9 hS9 (by show (3 + 2 * np) + 1 ≤ (2 * (sz - at9) + 10); omega) (by show (120 + 11 * np + 4 * cp2) + 6 ≤ (60 * (sz - at9) + 400); omega))
                    obtain ⟨w, _⟩ := u279
                    obtain ⟨hw280, h284, hO⟩ := hw280
                    have h284 : at276 + 1 ≤ sz := h284
                    obtain rfl : v281 = some (.int (nI at276)) := hw280
                    have hO : OKP G h0 a (upd (upd F 2 (nI sz)) 9 (nI (at276 + 1))) (updR R 1 (.ref pq)) Z (updA B 10 f277) J K2 w := hO.to rfl
                    refine W.widen (k := (3 + 2 * np)) (n := (120 + 11 * np + 4 * cp2)) (by show (3 + 2 * np) + 0 ≤ (3 + 2 * np); omega) (by show (120 + 11 * np + 4 * cp2) + 0 ≤ (120 + 11 * np + 4 * cp2); omega) ?_
                    refine W.eq (g2 := F0 m 178 ls [.int (nI at276), .int (nI at2), .ref (a 3), .ref f2]) rfl ?_
                    have hO : OKP G h0 a (upd (upd (upd F 2 (nI sz)) 9 (nI (at276 + 1))) 2 (nI sz)) (updR R 1 (.ref pq)) Z (updA B 10 f277) J K2 w := hO.to rfl
                    obtain ⟨_, qr288, hqr289⟩ := hO.2.1 23 _ (sg_23 G h0 a _ _ _ _ _)
                    refine pc_V0 (G := G) (As := [.int (nI at2), .int (nI at276)]) (rest := [.ref f2]) hx hb hml hown hq hE hX pX0_al hP hD hS hA hl.1 (P_variable l G h0 a (upd (upd F 2 (nI sz)) 9 (nI (at276 + 1))) (updR R 1 (.ref pq)) Z (updA B 10 f277) J K2 w (nI at2) (nI at276) sz 0 0 g2 (by omega) hwp2.1 (fun o9 h9 => absurd h9 (by omega)) (by omega) hO) (gV pw_888 pw_889 pw_890 pw_796 pw_869) hV_X8_variable qr288 5 hqr289 rfl rfl rfl (Nat.le_of_ble_eq_true rfl) dX8_head_178 ⟨(by show (3 + 2 * np) + 1 ≤ (2 * (sz - at9) + 10); omega), (by show (120 + 11 * np + 4 * cp2) + 11 ≤ (60 * (sz - at9) + 400); omega)⟩ ⟨Nat.le_of_ble_eq_true rfl, Nat.le_of_ble_eq_true rfl⟩ (fun v287 u285 H locs hw286 hP hD hS => ?_)
                    obtain ⟨w, r290, K291, g292⟩ := u285
                    obtain ⟨hw286, h293, h294, hO⟩ := hw286
                    have h293 : NwR K2 K291 g2 g292 r290 0 0 1 := h293
                    have h294 : K291.2.1 0 r290 = 36 := h294
                    obtain rfl : v287 = some (.ref r290) := hw286
                    have hf295 : K291.1 q2 = 3 := (((h293).2.1.1 q2 (by rw [hq2]; decide)).1).trans hq2
                    have hf296 : K291.1 d0 = 4 := (((h293).2.1.1 d0 (by rw [hd2]; decide)).1).trans hd2
                    have hf297 : K291.1 f2 = 5 := (((h293).2.1.1 f2 (by rw [ht2]; decide)).1).trans ht2
                    have hf298 : K291.2.2.1 6 q2 = some f2 := (((h293).2.1.1 q2 (by rw [hq2]; decide)).2.2.1 6).trans hc62
                    have hO : OKP G h0 a (upd (upd F 2 (nI sz)) 9 (nI (at276 + 1))) (updR R 1 (.ref pq)) Z (updA B 10 f277) J K291 w := hO.to rfl
                    refine W.widen (k := ((3 + 2 * np) + 1)) (n := ((120 + 11 * np + 4 * cp2) + 11)) (by show (3 + 2 * np) + 1 ≤ ((3 + 2 * np) + 1); omega) (by show (120 + 11 * np + 4 * cp2) + 11 ≤ ((120 + 11 * np + 4 * cp2) + 11); omega) ?_
                    refine W.eq (g2 := F0 m 181 ls [.ref r290, .ref f2]) rfl ?_
                    have hwp299 := WPr.nd hwp2 h293
                    have hps300 := PgS.nd hps2 hwp2 h293
                    have hf301 : K291.1 r290 = 1 := h293.2.2.1.2.1
                    have hlc302 : LsC G K291 f2 1 np it2 cp2 := (LsC.wx (fun p hp => (h293.2.1.1 p hp).1) (by decide) (h293.2.1.1 f2 (by rw [ht2]; decide)) (fun e he _ => h293.2.1.1 e (by rw [he]; decide)) hlc2)
                    have hO : OKP G h0 a (upd (upd (upd F 2 (nI sz)) 9 (nI at9)) 9 (nI (at276 + 1))) (updR R 1 (.ref pq)) Z (updA B 10 f277) J K291 w := hO.to rfl
                    obtain ⟨qr306, hqr307⟩ := p_recv hO (by rw [hf297]; decide) (rep_5 hf297)
                    refine pn_V0 (G := G) (As := [.ref r290]) (rest := []) hx hb hml hown hq hE hX pX0_al hP hD hS hA hl.1 (L_addC l G h0 a (upd (upd (upd F 2 (nI sz)) 9 (nI at9)) 9 (nI (at276 + 1))) (updR R 1 (.ref pq)) Z (updA B 10 f277) J K291 w f2 1 np it2 cp2 r290 hlc302 (by decide) hf301 (by omega) (by omega) hO hl0) (gV pw_885 pw_886 pw_887 pw_32 pw_868) hV_Jx4a65c_add_9ea2d qr306 10 hqr307 rfl rfl rfl (Nat.le_of_ble_eq_true rfl) dX8_head_181 ⟨(by show ((3 + 2 * np) + 1) + 1 ≤ (2 * (sz - at9) + 10); omega), (by show ((120 + 11 * np + 4 * cp2) + 11) + (10 + np + np / 2) ≤ (60 * (sz - at9) + 400); omega)⟩ ⟨Nat.le_of_ble_eq_true rfl, Nat.le_of_ble_eq_true rfl⟩ (fun v305 u303 H locs hw304 hP hD hS => ?_) (fun ux ce9 q9 H9 locs9 hux hP9 hD9 hS9 hce hcv hcl => pb_out ux (ThQ.up (Thx.b (Thx.f Thx.rfl (by omega)) (by omega) (by decide)) RhX.rfl hux) hnt hlocks hce hcv hcl hP9 hD9 hS9 (by show ((3 + 2 * np) + 1) + 1 ≤ (2 * (sz - at9) + 10); omega) (by show ((120 + 11 * np + 4 * cp2) + 11) + (10 + np + np / 2) ≤ (60 * (sz - at9) + 400); omega))
                    obtain ⟨w, K308, d309⟩ := u303
                    obtain ⟨hw304, h310, h311, h312, h313, h314, hO⟩ := hw304
                    have h310 : LsC G K308 f2 1 (np + 1) (upQ it2 np r290) (cp2 + d309) := h310
                    have h311 : AdQ K291 K308 f2 := h311
                    have h312 : N6 K291 K308 := h312
                    have h313 : cp2 + d309 ≤ 10 + 2 * (np + 1) := h313
                    have h314 : d309 ≤ 10 + np / 2 := h314
                    obtain rfl : v305 = some (.int 1) := hw304
                    have hO : OKP G h0 a (upd (upd F 2 (nI sz)) 9 (nI (at276 + 1))) (updR R 1 (.ref pq)) Z (updA B 10 f277) J K308 w := hO.to rfl
                    refine W.widen (k := (((3 + 2 * np) + 1) + 1)) (n := (((120 + 11 * np + 4 * cp2) + 11) + (4 * d309))) (by show ((3 + 2 * np) + 1) + 1 ≤ (((3 + 2 * np) + 1) + 1); omega) (by show ((120 + 11 * np + 4 * cp2) + 11) + (4 * d309) ≤ (((120 + 11 * np + 4 * cp2) + 11) + (4 * d309)); omega) ?_
                    refine W.eq (g2 := F0 m 184 ls [.int 1]) rfl ?_
                    have hg315 : g292 3 f2 = 3 := (h293.2.1.2 f2 (by rw [ht2]; decide) 3).trans hr2
                    have hwp316 : WPr G K308 g292 := WPr.add hwp299 h311 h312 hf297 (by rw [hg315]; exact h310) (by rw [hg315]; show _ ≤ 5000 ∧ _; omega)
                    have hps317 : PgS G K308 g292 (a 1) pq dr ml nd nm cp it s2 := by have z9 := PgS.add hps300 hwp299 h311 h312 hf297 (fun z => by have z2 := hg315; rw [z, hps300.1.2.2.2.2.2.2.1] at z2; exact absurd z2 (by decide)) (by rw [szL_of h310, szL_of hlc302]) (by rw [hg315]; decide) (by rw [hg315]; decide) (fun z => by rw [hg315] at z; exact absurd z (by decide)); rw [hg315] at z9; exact z9
                    have hf318 : K308.1 q2 = 3 := (h311.1 q2 (by rw [hf295]; decide)).1.trans hf295
                    have hf319 : K308.1 d0 = 4 := (h311.1 d0 (by rw [hf296]; decide)).1.trans hf296
                    have hf320 : K308.1 f2 = 5 := (h311.1 f2 (by rw [hf297]; decide)).1.trans hf297
                    have hf321 : K308.1 r290 = 1 := (h311.1 r290 (by rw [hf301]; decide)).1.trans hf301
                    have hon9 : Onc K308 dr nd q2 := Onc.add (Onc.ext hon2 hps2.2.1 hwp2 hps2.1.2.2.2.1 h293.2.1.1) hps300.2.1 hwp299 hps300.1.2.2.2.1 h311 hf297 (by rw [hg315]; decide)
                    refine lv_pop hx hb dX8_head_184 rfl ?_
                    refine lv_aload_n hx hb dX8_head_185 rfl (lv_at hl 8 rfl) ?_
                    refine lv_bipush (v := 39) hx hb dX8_head_186 (by decide) ?_
                    have hO : OKW G h0 a (upd (upd (upd (upd F 2 (nI sz)) 9 (nI (at276 + 1))) 2 (nI sz)) 9 (nI (at276 + 1))) (updR R 1 (.ref pq)) Z (updA B 10 f277) J K308.1 (fun q99 x99 => x99 = rep G a K308 q99) w := hO.to rfl
                    obtain ⟨_, qr325, hqr326⟩ := hO.2.1 23 _ (sg_23 G h0 a _ _ _ _ _)
                    refine pc_V0 (G := G) (As := [.int 39]) (rest := []) hx hb hml hown hq hE hX pX0_al hP hD hS hA hl.1 (P_takeIf l G h0 a (upd (upd F 2 (nI sz)) 9 (nI (at276 + 1))) (updR R 1 (.ref pq)) Z (updA B 10 f277) J K308.1 (fun q99 x99 => x99 = rep G a K308 q99) w 39 (at276 + 1) sz (by omega) (by omega) (by decide) hO) (gV pw_797 pw_798 pw_799 pw_796 pw_789) hV_X8_takeIf qr325 5 hqr326 rfl rfl rfl (Nat.le_of_ble_eq_true rfl) dX8_head_188 ⟨(by show (((3 + 2 * np) + 1) + 1) + 0 ≤ (2 * (sz - at9) + 10); omega), (by show (((120 + 11 * np + 4 * cp2) + 11) + (4 * d309)) + 0 ≤ (60 * (sz - at9) + 400); omega)⟩ ⟨Nat.le_of_ble_eq_true rfl, Nat.le_of_ble_eq_true rfl⟩ (fun v324 u322 H locs hw323 hP hD hS => ?_)
                    obtain ⟨w, r327⟩ := u322
                    obtain ⟨hw323, h328, h329, hO⟩ := hw323
                    have h328 : r327 ≤ 1 := h328
                    have h329 : (at276 + 1) + r327 ≤ sz := h329
                    obtain rfl : v324 = some (.int (nI r327)) := hw323
                    have hO : OKP G h0 a (upd (upd F 2 (nI sz)) 9 (nI ((at276 + 1) + r327))) (updR R 1 (.ref pq)) Z (updA B 10 f277) J K308 w := hO.to rfl
                    refine W.widen (k := (((3 + 2 * np) + 1) + 1)) (n := (((120 + 11 * np + 4 * cp2) + 11) + (4 * d309))) (by show (((3 + 2 * np) + 1) + 1) + 0 ≤ (((3 + 2 * np) + 1) + 1); omega) (by show (((120 + 11 * np + 4 * cp2) + 11) + (4 * d309)) + 0 ≤ (((120 + 11 * np + 4 * cp2) + 11) + (4 * d309)); omega) ?_
                    refine W.eq (g2 := F0 m 191 ls [.int (nI r327)]) rfl ?_
                    refine lv_istore (lv' := [(5, .int (nI r327)), (8, .int (nI at2)), (7, .int 0), (6, .int (nI i2)), (4, .ref q2), (3, .int (nI tk)), (2, .int x1), (1, .ref d0), (0, .ref (a 3))]) hx hb dX8_head_191 hl (by decide) rfl (fun ls hl => ?_)
                    refine lv_iinc (v := (nI (i2 + 1))) (lv' := [(6, .int (nI (i2 + 1))), (5, .int (nI r327)), (8, .int (nI at2)), (7, .int 0), (4, .ref q2), (3, .int (nI tk)), (2, .int x1), (1, .ref d0), (0, .ref (a 3))]) hx hb dX8_head_193 hl (k := 3) rfl (nI_1 i2) (by decide) rfl (fun ls hl => ?_)
                    refine lv_goto (tgt := 77) hx hb dX8_head_196 (by decide) ?_
                    refine W.widen (k := (3 + 2 * (np + 1))) (n := (120 + 11 * (np + 1) + 4 * (cp2 + d309))) (by show (((3 + 2 * np) + 1) + 1) ≤ _; omega) (by show (((120 + 11 * np + 4 * cp2) + 11) + (4 * d309)) ≤ _; omega) ?_
                    have hO : OKP G h0 a (upd (upd F 2 (nI sz)) 9 (nI ((at276 + 1) + r327))) (updR R 1 (.ref pq)) Z (updA B 10 f277) J K308 w := hO.to rfl
                    exact ih_i (i2 + 1) ((at276 + 1) + r327) f277 (nI r327) K308 g292 q2 f2 (np + 1) (cp2 + d309) (upQ it2 np r290) s2 _ _ _ _ (by omega) (by omega) (by omega) hwp316 hps317 (by omega) hf318 hf319 (((AdQ.sm h311 (by rw [hf295]; decide) (fun z => by have z2 := hf295; rw [z, hf297] at z2; exact absurd z2 (by decide)) (by rw [hf295]; decide)).2.2.1 6).trans ((h293.2.1.1 q2 (by rw [hq2]; decide)).2.2.1 6 |>.trans hc62)) hg315 h310 (by omega) hon9 hP hD hS hO (lv_sub hl [0, 1, 4, 5, 6, 7, 8] rfl)
                  · have n330 : ¬ (r266 = 0) := fun h9 => c268 ((nI_eq (a := r266) (b := 0) (by omega) (by omega)).mpr h9)
                    refine lv_iconst (v := 1) hx hb dX8_head_120 (by decide) ?_
                    refine lv_goto (tgt := 125) hx hb dX8_head_121 (by decide) ?_
                    refine lv_istore (lv' := [(7, .int 1), (6, .int (nI i2)), (5, .int mo2), (4, .ref q2), (3, .int (nI tk)), (2, .int x1), (1, .ref d0), (0, .ref (a 3))]) hx hb dX8_head_125 hl (by decide) rfl (fun ls hl => ?_)
                    refine lv_iload hx hb dX8_head_127 (lv_at hl 0 rfl) ?_
                    refine lv_if_eq (tgt := 157) hx hb dX8_head_129 (by decide) (fun c331 => absurd c331 (by decide)) (fun c331 => ?_)
                    refine lv_aload hx hb dX8_head_132 (lv_at hl 3 rfl) ?_
                    refine p_get (v := .ref f2) (C := RX6) (Tc := TX6) (N := 12) (ci := 12) hx hb hq pin_wsX60 hown hE hP hO (by rw [hq2]; decide) (rep_3 hq2) rfl 4 (by decide) (hq _ pw_881) (fun _ h9 => h9) (congrArg (fun z => some (va_rf z)) hc62) dX8_head_134 ?_
                    have hO : OKP G h0 a (upd (upd F 2 (nI sz)) 9 (nI at2)) (updR R 1 (.ref pq)) Z (updA B 10 f9) J K2 w := hO.to rfl
                    obtain ⟨qr335, hqr336⟩ := p_recv hO (by rw [ht2]; decide) (rep_5 ht2)
                    refine pc_V0 (G := G) (As := []) (rest := []) hx hb hml hown hq hE hX pX0_al hP hD hS hA hl.1 (L_size l G h0 a (upd (upd F 2 (nI sz)) 9 (nI at2)) (updR R 1 (.ref pq)) Z (updA B 10 f9) J K2 w f2 1 np it2 hlc2.ls hO) (gV pw_882 pw_87 pw_88 pw_32 pw_16) hV_Jx4a65c_size_8abf5 qr335 10 hqr336 rfl rfl rfl (Nat.le_of_ble_eq_true rfl) dX8_head_137 ⟨(by show (3 + 2 * np) + 0 ≤ (2 * (sz - at9) + 10); omega), (by show (120 + 11 * np + 4 * cp2) + 0 ≤ (60 * (sz - at9) + 400); omega)⟩ ⟨Nat.le_of_ble_eq_true rfl, Nat.le_of_ble_eq_true rfl⟩ (fun v334 u332 H locs hw333 hP hD hS => ?_)
                    obtain ⟨w, _⟩ := u332
                    obtain ⟨hw333, hO⟩ := hw333
                    obtain rfl : v334 = some (.int (nI np)) := hw333
                    have hO : OKP G h0 a (upd (upd F 2 (nI sz)) 9 (nI at2)) (updR R 1 (.ref pq)) Z (updA B 10 f9) J K2 w := hO.to rfl
                    refine W.widen (k := (3 + 2 * np)) (n := (120 + 11 * np + 4 * cp2)) (by show (3 + 2 * np) + 0 ≤ (3 + 2 * np); omega) (by show (120 + 11 * np + 4 * cp2) + 0 ≤ (120 + 11 * np + 4 * cp2); omega) ?_
                    refine W.eq (g2 := F0 m 140 ls [.int (nI np)]) rfl ?_
                    refine lv_bipush (v := 8) hx hb dX8_head_140 (by decide) ?_
                    refine lv_icmp_lt (tgt := 157) hx hb dX8_head_142 (by decide) (fun c337 => ?_) (fun c337 => ?_)
                    · have n338 : np < 8 := (nI_ltI (a := np) (b := 8) (by omega) (by omega)).mp c337
                      refine lv_aload_n hx hb dX8_head_157 rfl (lv_at hl 7 rfl) ?_
                      refine lv_iconst (v := 1) hx hb dX8_head_158 (by decide) ?_
                      have hO : OKW G h0 a (upd (upd (upd (upd (upd F 2 (nI sz)) 9 (nI at9)) 9 (nI at2)) 2 (nI sz)) 9 (nI at2)) (updR R 1 (.ref pq)) Z (updA B 10 f9) J K2.1 (fun q99 x99 => x99 = rep G a K2 q99) w := hO.to rfl
                      obtain ⟨_, qr342, hqr343⟩ := hO.2.1 23 _ (sg_23 G h0 a _ _ _ _ _)
                      refine pn_V0 (G := G) (As := [.int 1]) (rest := []) hx hb hml hown hq hE hX pX0_al hP hD hS hA hl.1 (P_takeType l G h0 a (upd (upd (upd F 2 (nI sz)) 9 (nI at9)) 9 (nI at2)) (updR R 1 (.ref pq)) Z (updA B 10 f9) J K2.1 (fun q99 x99 => x99 = rep G a K2 q99) w 1 at2 sz (by omega) (by omega) hO hl0) (gV pw_825 pw_826 pw_827 pw_796 pw_821) hV_X8_takeType qr342 5 hqr343 rfl rfl rfl (Nat.le_of_ble_eq_true rfl) dX8_head_159 ⟨(by show (3 + 2 * np) + 1 ≤ (2 * (sz - at9) + 10); omega), (by show (120 + 11 * np + 4 * cp2) + 6 ≤ (60 * (sz - at9) + 400); omega)⟩ ⟨Nat.le_of_ble_eq_true rfl, Nat.le_of_ble_eq_true rfl⟩ (fun v341 u339 H locs hw340 hP hD hS => ?_) (fun ux ce9 q9 H9 locs9 hux hP9 hD9 hS9 hce hcv hcl => pb_out ux (ThQ.up (Thx.same (Thx.same (Thx.b (Thx.f Thx.rfl (by omega)) (by omega) (by decide)) rfl) rfl) RhX.rfl hux) hnt hlocks hce hcv hcl hP9 hD9 hS9 (by show (3 + 2 * np) + 1 ≤ (2 * (sz - at9) + 10); omega) (by show (120 + 11 * np + 4 * cp2) + 6 ≤ (60 * (sz - at9) + 400); omega))
                      obtain ⟨w, at344, f345⟩ := u339
                      obtain ⟨hw340, h346, hO⟩ := hw340
                      have h346 : at2 + 1 ≤ at344 ∧ at344 ≤ sz := h346
                      obtain rfl : v341 = some (.int (nI at2)) := hw340
                      have hO : OKP G h0 a (upd (upd F 2 (nI sz)) 9 (nI at344)) (updR R 1 (.ref pq)) Z (updA B 10 f345) J K2 w := hO.to rfl
                      refine W.widen (k := (3 + 2 * np)) (n := (120 + 11 * np + 4 * cp2)) (by show (3 + 2 * np) + 0 ≤ (3 + 2 * np); omega) (by show (120 + 11 * np + 4 * cp2) + 0 ≤ (120 + 11 * np + 4 * cp2); omega) ?_
                      refine W.eq (g2 := F0 m 162 ls [.int (nI at2)]) rfl ?_
                      refine lv_istore (lv' := [(8, .int (nI at2)), (7, .int 1), (6, .int (nI i2)), (5, .int mo2), (4, .ref q2), (3, .int (nI tk)), (2, .int x1), (1, .ref d0), (0, .ref (a 3))]) hx hb dX8_head_162 hl (by decide) rfl (fun ls hl => ?_)
                      refine lv_aload hx hb dX8_head_164 (lv_at hl 4 rfl) ?_
                      refine p_get (v := .ref f2) (C := RX6) (Tc := TX6) (N := 12) (ci := 12) hx hb hq pin_wsX60 hown hE hP hO (by rw [hq2]; decide) (rep_3 hq2) rfl 4 (by decide) (hq _ pw_881) (fun _ h9 => h9) (congrArg (fun z => some (va_rf z)) hc62) dX8_head_166 ?_
                      refine lv_aload_n hx hb dX8_head_169 rfl (lv_at hl 8 rfl) ?_
                      refine lv_iload hx hb dX8_head_170 (lv_at hl 0 rfl) ?_
                      refine lv_aload_n hx hb dX8_head_172 rfl (lv_at hl 8 rfl) ?_
                      refine lv_bipush (v := 65) hx hb dX8_head_173 (by decide) ?_
                      have hO : OKW G h0 a (upd (upd (upd (upd (upd F 2 (nI sz)) 9 (nI at9)) 9 (nI at344)) 2 (nI sz)) 9 (nI at344)) (updR R 1 (.ref pq)) Z (updA B 10 f345) J K2.1 (fun q99 x99 => x99 = rep G a K2 q99) w := hO.to rfl
                      obtain ⟨_, qr350, hqr351⟩ := hO.2.1 23 _ (sg_23 G h0 a _ _ _ _ _)
                      refine pn_V0 (G := G) (As := [.int 65]) (rest := [.int (nI at2), .ref (a 3), .ref f2]) hx hb hml hown hq hE hX pX0_al hP hD hS hA hl.1 (P_take l G h0 a (upd (upd (upd F 2 (nI sz)) 9 (nI at9)) 9 (nI at344)) (updR R 1 (.ref pq)) Z (updA B 10 f345) J K2.1 (fun q99 x99 => x99 = rep G a K2 q99) w 65 at344 sz (by omega) (by omega) (by decide) hO hl0) (gV pw_793 pw_794 pw_795 pw_796 pw_781) hV_X8_take qr350 5 hqr351 rfl rfl rfl (Nat.le_of_ble_eq_true rfl) dX8_head_175 ⟨(by show (3 + 2 * np) + 1 ≤ (2 * (sz - at9) + 10); omega), (by show (120 + 11 * np + 4 * cp2) + 6 ≤ (60 * (sz - at9) + 400); omega)⟩ ⟨Nat.le_of_ble_eq_true rfl, Nat.le_of_ble_eq_true rfl⟩ (fun v349 u347 H locs hw348 hP hD hS => ?_) (fun ux ce9 q9 H9 locs9 hux hP9 hD9 hS9 hce hcv hcl => pb_out ux (ThQ.up (Thx.same (Thx.same (Thx.b (Thx.f Thx.rfl (by omega)) (by omega) (by decide)) rfl) rfl) RhX.rfl hux) hnt hlocks hce hcv hcl hP9 hD9 hS9 (by show (3 + 2 * np) + 1 ≤ (2 * (sz - at9) + 10); omega) (by show (120 + 11 * np + 4 * cp2) + 6 ≤ (60 * (sz - at9) + 400); omega))
                      obtain ⟨w, _⟩ := u347
                      obtain ⟨hw348, h352, hO⟩ := hw348
                      have h352 : at344 + 1 ≤ sz := h352
                      obtain rfl : v349 = some (.int (nI at344)) := hw348
                      have hO : OKP G h0 a (upd (upd F 2 (nI sz)) 9 (nI (at344 + 1))) (updR R 1 (.ref pq)) Z (updA B 10 f345) J K2 w := hO.to rfl
                      refine W.widen (k := (3 + 2 * np)) (n := (120 + 11 * np + 4 * cp2)) (by show (3 + 2 * np) + 0 ≤ (3 + 2 * np); omega) (by show (120 + 11 * np + 4 * cp2) + 0 ≤ (120 + 11 * np + 4 * cp2); omega) ?_
                      refine W.eq (g2 := F0 m 178 ls [.int (nI at344), .int (nI at2), .ref (a 3), .ref f2]) rfl ?_
                      have hO : OKP G h0 a (upd (upd (upd F 2 (nI sz)) 9 (nI (at344 + 1))) 2 (nI sz)) (updR R 1 (.ref pq)) Z (updA B 10 f345) J K2 w := hO.to rfl
                      obtain ⟨_, qr356, hqr357⟩ := hO.2.1 23 _ (sg_23 G h0 a _ _ _ _ _)
                      refine pc_V0 (G := G) (As := [.int (nI at2), .int (nI at344)]) (rest := [.ref f2]) hx hb hml hown hq hE hX pX0_al hP hD hS hA hl.1 (P_variable l G h0 a (upd (upd F 2 (nI sz)) 9 (nI (at344 + 1))) (updR R 1 (.ref pq)) Z (updA B 10 f345) J K2 w (nI at2) (nI at344) sz 0 0 g2 (by omega) hwp2.1 (fun o9 h9 => absurd h9 (by omega)) (by omega) hO) (gV pw_888 pw_889 pw_890 pw_796 pw_869) hV_X8_variable qr356 5 hqr357 rfl rfl rfl (Nat.le_of_ble_eq_true rfl) dX8_head_178 ⟨(by show (3 + 2 * np) + 1 ≤ (2 * (sz - at9) + 10); omega), (by show (120 + 11 * np + 4 * cp2) + 11 ≤ (60 * (sz - at9) + 400); omega)⟩ ⟨Nat.le_of_ble_eq_true rfl, Nat.le_of_ble_eq_true rfl⟩ (fun v355 u353 H locs hw354 hP hD hS => ?_)
                      obtain ⟨w, r358, K359, g360⟩ := u353
                      obtain ⟨hw354, h361, h362, hO⟩ := hw354
                      have h361 : NwR K2 K359 g2 g360 r358 0 0 1 := h361
                      have h362 : K359.2.1 0 r358 = 36 := h362
                      obtain rfl : v355 = some (.ref r358) := hw354
                      have hf363 : K359.1 q2 = 3 := (((h361).2.1.1 q2 (by rw [hq2]; decide)).1).trans hq2
                      have hf364 : K359.1 d0 = 4 := (((h361).2.1.1 d0 (by rw [hd2]; decide)).1).trans hd2
                      have hf365 : K359.1 f2 = 5 := (((h361).2.1.1 f2 (by rw [ht2]; decide)).1).trans ht2
                      have hf366 : K359.2.2.1 6 q2 = some f2 := (((h361).2.1.1 q2 (by rw [hq2]; decide)).2.2.1 6).trans hc62
                      have hO : OKP G h0 a (upd (upd F 2 (nI sz)) 9 (nI (at344 + 1))) (updR R 1 (.ref pq)) Z (updA B 10 f345) J K359 w := hO.to rfl
                      refine W.widen (k := ((3 + 2 * np) + 1)) (n := ((120 + 11 * np + 4 * cp2) + 11)) (by show (3 + 2 * np) + 1 ≤ ((3 + 2 * np) + 1); omega) (by show (120 + 11 * np + 4 * cp2) + 11 ≤ ((120 + 11 * np + 4 * cp2) + 11); omega) ?_
                      refine W.eq (g2 := F0 m 181 ls [.ref r358, .ref f2]) rfl ?_
                      have hwp367 := WPr.nd hwp2 h361
                      have hps368 := PgS.nd hps2 hwp2 h361
                      have hf369 : K359.1 r358 = 1 := h361.2.2.1.2.1
                      have hlc370 : LsC G K359 f2 1 np it2 cp2 := (LsC.wx (fun p hp => (h361.2.1.1 p hp).1) (by decide) (h361.2.1.1 f2 (by rw [ht2]; decide)) (fun e he _ => h361.2.1.1 e (by rw [he]; decide)) hlc2)
                      have hO : OKP G h0 a (upd (upd (upd F 2 (nI sz)) 9 (nI at9)) 9 (nI (at344 + 1))) (updR R 1 (.ref pq)) Z (updA B 10 f345) J K359 w := hO.to rfl
                      obtain ⟨qr374, hqr375⟩ := p_recv hO (by rw [hf365]; decide) (rep_5 hf365)
                      refine pn_V0 (G := G) (As := [.ref r358]) (rest := []) hx hb hml hown hq hE hX pX0_al hP hD hS hA hl.1 (L_addC l G h0 a (upd (upd (upd F 2 (nI sz)) 9 (nI at9)) 9 (nI (at344 + 1))) (updR R 1 (.ref pq)) Z (updA B 10 f345) J K359 w f2 1 np it2 cp2 r358 hlc370 (by decide) hf369 (by omega) (by omega) hO hl0) (gV pw_885 pw_886 pw_887 pw_32 pw_868) hV_Jx4a65c_add_9ea2d qr374 10 hqr375 rfl rfl rfl (Nat.le_of_ble_eq_true rfl) dX8_head_181 ⟨(by show ((3 + 2 * np) + 1) + 1 ≤ (2 * (sz - at9) + 10); omega), (by show ((120 + 11 * np + 4 * cp2) + 11) + (10 + np + np / 2) ≤ (60 * (sz - at9) + 400); omega)⟩ ⟨Nat.le_of_ble_eq_true rfl, Nat.le_of_ble_eq_true rfl⟩ (fun v373 u371 H locs hw372 hP hD hS => ?_) (fun ux ce9 q9 H9 locs9 hux hP9 hD9 hS9 hce hcv hcl => pb_out ux (ThQ.up (Thx.b (Thx.f Thx.rfl (by omega)) (by omega) (by decide)) RhX.rfl hux) hnt hlocks hce hcv hcl hP9 hD9 hS9 (by show ((3 + 2 * np) + 1) + 1 ≤ (2 * (sz - at9) + 10); omega) (by show ((120 + 11 * np + 4 * cp2) + 11) + (10 + np + np / 2) ≤ (60 * (sz - at9) + 400); omega))
                      obtain ⟨w, K376, d377⟩ := u371
                      obtain ⟨hw372, h378, h379, h380, h381, h382, hO⟩ := hw372
                      have h378 : LsC G K376 f2 1 (np + 1) (upQ it2 np r358) (cp2 + d377) := h378
                      have h379 : AdQ K359 K376 f2 := h379
                      have h380 : N6 K359 K376 := h380
                      have h381 : cp2 + d377 ≤ 10 + 2 * (np + 1) := h381
                      have h382 : d377 ≤ 10 + np / 2 := h382
                      obtain rfl : v373 = some (.int 1) := hw372
                      have hO : OKP G h0 a (upd (upd F 2 (nI sz)) 9 (nI (at344 + 1))) (updR R 1 (.ref pq)) Z (updA B 10 f345) J K376 w := hO.to rfl
                      refine W.widen (k := (((3 + 2 * np) + 1) + 1)) (n := (((120 + 11 * np + 4 * cp2) + 11) + (4 * d377))) (by show ((3 + 2 * np) + 1) + 1 ≤ (((3 + 2 * np) + 1) + 1); omega) (by show ((120 + 11 * np + 4 * cp2) + 11) + (4 * d377) ≤ (((120 + 11 * np + 4 * cp2) + 11) + (4 * d377)); omega) ?_
                      refine W.eq (g2 := F0 m 184 ls [.int 1]) rfl ?_
                      have hg383 : g360 3 f2 = 3 := (h361.2.1.2 f2 (by rw [ht2]; decide) 3).trans hr2
                      have hwp384 : WPr G K376 g360 := WPr.add hwp367 h379 h380 hf365 (by rw [hg383]; exact h378) (by rw [hg383]; show _ ≤ 5000 ∧ _; omega)
                      have hps385 : PgS G K376 g360 (a 1) pq dr ml nd nm cp it s2 := by have z9 := PgS.add hps368 hwp367 h379 h380 hf365 (fun z => by have z2 := hg383; rw [z, hps368.1.2.2.2.2.2.2.1] at z2; exact absurd z2 (by decide)) (by rw [szL_of h378, szL_of hlc370]) (by rw [hg383]; decide) (by rw [hg383]; decide) (fun z => by rw [hg383] at z; exact absurd z (by decide)); rw [hg383] at z9; exact z9
                      have hf386 : K376.1 q2 = 3 := (h379.1 q2 (by rw [hf363]; decide)).1.trans hf363
                      have hf387 : K376.1 d0 = 4 := (h379.1 d0 (by rw [hf364]; decide)).1.trans hf364
                      have hf388 : K376.1 f2 = 5 := (h379.1 f2 (by rw [hf365]; decide)).1.trans hf365
                      have hf389 : K376.1 r358 = 1 := (h379.1 r358 (by rw [hf369]; decide)).1.trans hf369
                      have hon9 : Onc K376 dr nd q2 := Onc.add (Onc.ext hon2 hps2.2.1 hwp2 hps2.1.2.2.2.1 h361.2.1.1) hps368.2.1 hwp367 hps368.1.2.2.2.1 h379 hf365 (by rw [hg383]; decide)
                      refine lv_pop hx hb dX8_head_184 rfl ?_
                      refine lv_aload_n hx hb dX8_head_185 rfl (lv_at hl 8 rfl) ?_
                      refine lv_bipush (v := 39) hx hb dX8_head_186 (by decide) ?_
                      have hO : OKW G h0 a (upd (upd (upd (upd F 2 (nI sz)) 9 (nI (at344 + 1))) 2 (nI sz)) 9 (nI (at344 + 1))) (updR R 1 (.ref pq)) Z (updA B 10 f345) J K376.1 (fun q99 x99 => x99 = rep G a K376 q99) w := hO.to rfl
                      obtain ⟨_, qr393, hqr394⟩ := hO.2.1 23 _ (sg_23 G h0 a _ _ _ _ _)
                      refine pc_V0 (G := G) (As := [.int 39]) (rest := []) hx hb hml hown hq hE hX pX0_al hP hD hS hA hl.1 (P_takeIf l G h0 a (upd (upd F 2 (nI sz)) 9 (nI (at344 + 1))) (updR R 1 (.ref pq)) Z (updA B 10 f345) J K376.1 (fun q99 x99 => x99 = rep G a K376 q99) w 39 (at344 + 1) sz (by omega) (by omega) (by decide) hO) (gV pw_797 pw_798 pw_799 pw_796 pw_789) hV_X8_takeIf qr393 5 hqr394 rfl rfl rfl (Nat.le_of_ble_eq_true rfl) dX8_head_188 ⟨(by show (((3 + 2 * np) + 1) + 1) + 0 ≤ (2 * (sz - at9) + 10); omega), (by show (((120 + 11 * np + 4 * cp2) + 11) + (4 * d377)) + 0 ≤ (60 * (sz - at9) + 400); omega)⟩ ⟨Nat.le_of_ble_eq_true rfl, Nat.le_of_ble_eq_true rfl⟩ (fun v392 u390 H locs hw391 hP hD hS => ?_)
                      obtain ⟨w, r395⟩ := u390
                      obtain ⟨hw391, h396, h397, hO⟩ := hw391
                      have h396 : r395 ≤ 1 := h396
                      have h397 : (at344 + 1) + r395 ≤ sz := h397
                      obtain rfl : v392 = some (.int (nI r395)) := hw391
                      have hO : OKP G h0 a (upd (upd F 2 (nI sz)) 9 (nI ((at344 + 1) + r395))) (updR R 1 (.ref pq)) Z (updA B 10 f345) J K376 w := hO.to rfl
                      refine W.widen (k := (((3 + 2 * np) + 1) + 1)) (n := (((120 + 11 * np + 4 * cp2) + 11) + (4 * d377))) (by show (((3 + 2 * np) + 1) + 1) + 0 ≤ (((3 + 2 * np) + 1) + 1); omega) (by show (((120 + 11 * np + 4 * cp2) + 11) + (4 * d377)) + 0 ≤ (((120 + 11 * np + 4 * cp2) + 11) + (4 * d377)); omega) ?_
                      refine W.eq (g2 := F0 m 191 ls [.int (nI r395)]) rfl ?_
                      refine lv_istore (lv' := [(5, .int (nI r395)), (8, .int (nI at2)), (7, .int 1), (6, .int (nI i2)), (4, .ref q2), (3, .int (nI tk)), (2, .int x1), (1, .ref d0), (0, .ref (a 3))]) hx hb dX8_head_191 hl (by decide) rfl (fun ls hl => ?_)
                      refine lv_iinc (v := (nI (i2 + 1))) (lv' := [(6, .int (nI (i2 + 1))), (5, .int (nI r395)), (8, .int (nI at2)), (7, .int 1), (4, .ref q2), (3, .int (nI tk)), (2, .int x1), (1, .ref d0), (0, .ref (a 3))]) hx hb dX8_head_193 hl (k := 3) rfl (nI_1 i2) (by decide) rfl (fun ls hl => ?_)
                      refine lv_goto (tgt := 77) hx hb dX8_head_196 (by decide) ?_
                      refine W.widen (k := (3 + 2 * (np + 1))) (n := (120 + 11 * (np + 1) + 4 * (cp2 + d377))) (by show (((3 + 2 * np) + 1) + 1) ≤ _; omega) (by show (((120 + 11 * np + 4 * cp2) + 11) + (4 * d377)) ≤ _; omega) ?_
                      have hO : OKP G h0 a (upd (upd F 2 (nI sz)) 9 (nI ((at344 + 1) + r395))) (updR R 1 (.ref pq)) Z (updA B 10 f345) J K376 w := hO.to rfl
                      exact ih_i (i2 + 1) ((at344 + 1) + r395) f345 (nI r395) K376 g360 q2 f2 (np + 1) (cp2 + d377) (upQ it2 np r358) s2 _ _ _ _ (by omega) (by omega) (by omega) hwp384 hps385 (by omega) hf386 hf387 (((AdQ.sm h379 (by rw [hf363]; decide) (fun z => by have z2 := hf363; rw [z, hf365] at z2; exact absurd z2 (by decide)) (by rw [hf363]; decide)).2.2.1 6).trans ((h361.2.1.1 q2 (by rw [hq2]; decide)).2.2.1 6 |>.trans hc62)) hg383 h378 (by omega) hon9 hP hD hS hO (lv_sub hl [0, 1, 4, 5, 6, 7, 8] rfl)
                    · have n398 : ¬ (np < 8) := fun h9 => c337 ((nI_ltI (a := np) (b := 8) (by omega) (by omega)).mpr h9)
                      refine lv_aload_n hx hb dX8_head_145 rfl (lv_at hl 7 rfl) ?_
                      refine c_get (v := .ref (a 1)) (C := RX8) (Tc := TX8) (N := 5) (ci := 5) hx hb hq pin_wsX80 hown hE hP hO 23 (sg_23 G h0 a _ _ _ _ _) rfl 0 (by decide) (hq _ pw_774) (fun _ h9 => h9) rfl dX8_head_146 ?_
                      refine lv_iconst (v := 2) hx hb dX8_head_149 (by decide) ?_
                      refine lv_aload_n hx hb dX8_head_150 rfl (lv_at hl 7 rfl) ?_
                      refine c_get (v := .int (nI at2)) (C := RX8) (Tc := TX8) (N := 5) (ci := 5) hx hb hq pin_wsX80 hown hE hP hO 23 (sg_23 G h0 a _ _ _ _ _) rfl 2 (by decide) (hq _ pw_776) (fun _ h9 => h9) rfl dX8_head_151 ?_
                      have hO : OKW G h0 a (upd (upd (upd (upd F 2 (nI sz)) 9 (nI at9)) 9 (nI at2)) 2 (nI sz)) (updR R 1 (.ref pq)) Z (updA B 10 f9) J K2.1 (fun q99 x99 => x99 = rep G a K2 q99) w := hO.to rfl
                      obtain ⟨_, qr402, hqr403⟩ := hO.2.1 2 _ (sg_2 G h0 a _ _ _ _ _)
                      refine pn_V0 (G := G) (As := [.int 2, .int (nI at2)]) (rest := []) hx hb hml hown hq hE hX pX0_al hP hD hS hA hl.1 (K_fail l G h0 a (upd (upd (upd F 2 (nI sz)) 9 (nI at9)) 9 (nI at2)) (updR R 1 (.ref pq)) Z (updA B 10 f9) J K2.1 (fun q99 x99 => x99 = rep G a K2 q99) w 2 (nI at2) sz (by omega) hO hl0) (gV pw_779 pw_65 pw_66 pw_59 pw_43) hV_X10_fail qr402 7 hqr403 rfl rfl rfl (Nat.le_of_ble_eq_true rfl) dX8_head_154 ⟨(by show (3 + 2 * np) + 1 ≤ (2 * (sz - at9) + 10); omega), (by show (120 + 11 * np + 4 * cp2) + 6 ≤ (60 * (sz - at9) + 400); omega)⟩ ⟨Nat.le_of_ble_eq_true rfl, Nat.le_of_ble_eq_true rfl⟩ (fun v401 u399 H locs hw400 hP hD hS => hw400.elim) (fun ux ce9 q9 H9 locs9 hux hP9 hD9 hS9 hce hcv hcl => pb_out ux (ThQ.up (Thx.same (Thx.b (Thx.f Thx.rfl (by omega)) (by omega) (by decide)) rfl) RhX.rfl hux) hnt hlocks hce hcv hcl hP9 hD9 hS9 (by show (3 + 2 * np) + 1 ≤ (2 * (sz - at9) + 10); omega) (by show (120 + 11 * np + 4 * cp2) + 6 ≤ (60 * (sz - at9) + 400); omega))
      refine W.widen (k := (3 + 2 * 0)) (n := (120 + 11 * 0 + 4 * 0)) (by show 3 ≤ _; omega) (by show ((12 + 3) + (4 * d39)) ≤ _; omega) ?_
      have hO : OKP G h0 a (upd (upd F 2 (nI sz)) 9 (nI (at9 + 1))) (updR R 1 (.ref pq)) Z (updA B 10 (B 10)) J K38 w := hO.to rfl
      exact loop_i (sz + 1) 0 (at9 + 1) (B 10) (0 : Int32) K38 (gM g q8 f25) q8 f25 0 0 (fun _ => 0) (s9 + 5) _ _ _ _ (by omega) (by omega) (by omega) hwp46 hps47 (by omega) hf48 hf50 hc6 hm7 hl6 (by omega) hon0 hP hD hS hO (lv_sub hl [0, 1, 2, 6, 5, 4, 3] rfl)
    · have n404 : r63 = 0 := (nI_eq (a := r63) (b := 0) (by omega) (by omega)).mp c65
      refine lv_iconst (v := 1) hx hb dX8_head_67 (by decide) ?_
      refine lv_goto (tgt := 72) hx hb dX8_head_68 (by decide) ?_
      refine lv_istore (lv' := [(5, .int 1), (4, .ref q8), (0, .ref (a 3)), (1, .ref d0), (2, .int x1), (3, .int (nI tk))]) hx hb dX8_head_72 hl (by decide) rfl (fun ls hl => ?_)
      refine lv_iconst (v := 0) hx hb dX8_head_74 (by decide) ?_
      refine lv_istore (lv' := [(6, .int 0), (5, .int 1), (4, .ref q8), (0, .ref (a 3)), (1, .ref d0), (2, .int x1), (3, .int (nI tk))]) hx hb dX8_head_75 hl (by decide) rfl (fun ls hl => ?_)
      have loop_i : ∀ (n_i : Nat) (i2 : Nat) (at2 : Nat) (f9 : Nat → Int32) (mo2 : Int32) (K2 : PK) (g2 : Nat → Nat → Nat) (q2 : Nat) (f2 : Nat) (np : Nat) (cp2 : Nat) (it2 : Nat → Nat) (s2 : Nat) (H : Heap) (locs : List Loc) (ls : Array Slot) (w : va_W), i2 ≤ sz → sz + 1 ≤ i2 + n_i → (at9 + 1 + 2 * np ≤ at2 ∧ at2 ≤ sz) → (WPr G K2 g2) → (PgS G K2 g2 (a 1) pq dr ml nd nm cp it s2) → (s2 ≤ s9 + 5) → (K2.1 q2 = 3) → (K2.1 d0 = 4) → (K2.2.2.1 6 q2 = some f2) → (g2 3 f2 = 3) → (LsC G K2 f2 1 np it2 cp2) → (cp2 ≤ 10 + 2 * np) → (Onc K2 dr nd q2) → va_P G.1 pCl w H → va_D A w → va_S A s.heap H locs → OKP G h0 a (upd (upd F 2 (nI sz)) 9 (nI at2)) (updR R 1 (.ref pq)) Z (updA B 10 f9) J K2 w → lv_has ls 9 [(6, .int (nI i2)), (5, .int mo2), (4, .ref q2), (3, .int (nI tk)), (2, .int x1), (1, .ref d0), (0, .ref (a 3))] → W p l e (headSpec (Cond.code yX8_head cX8_head 9 (some (.object "JinjaTongue$Method")) :: pw) ({ frames := 8, cells := (2 * (sz - at9) + 10), slots := (60 * (sz - at9) + 400), locals := 191 } : Room)).room s m ([.ref (a 3), .ref d0, .int x1, .int (nI tk)] : List Value).toArray below meth c H locs (3 + 2 * np) (120 + 11 * np + 4 * cp2) (vx_MQ below (pQn G A (fun (v : Option Value) (u : va_W × (PK × (Nat → Nat → Nat) × Nat × Nat × (Nat → Int32))) => v = some (.ref u.2.2.2.1) ∧ (WPr G u.2.1 u.2.2.1) ∧ (PgS G u.2.1 u.2.2.1 (a 1) pq dr ml nd nm cp it (s9 + 3 + (u.2.2.2.2.1 - at9))) ∧ (u.2.1.1 u.2.2.2.1 = 3) ∧ (u.2.1.1 d0 = 4) ∧ (at9 + 2 ≤ u.2.2.2.2.1 ∧ u.2.2.2.2.1 ≤ sz) ∧ (Onc u.2.1 dr nd u.2.2.2.1) ∧ (OKP G h0 a (upd (upd F 2 (nI sz)) 9 (nI u.2.2.2.2.1)) (updR R 1 (.ref pq)) Z (updA B 10 u.2.2.2.2.2) J u.2.1 u.1)) (fun u => u.1) (fun (u : va_W × (PK × (Nat → Nat → Nat) × Nat × Nat × (Nat → Int32))) => (u.2.2.2.2.1 - at9 + 3)) (fun (u : va_W × (PK × (Nat → Nat → Nat) × Nat × Nat × (Nat → Int32))) => (60 * (u.2.2.2.2.1 - at9) + 60))) (pXX G A (fun (u : va_W × (Nat → Int32) × (Nat → Value) × (Nat → Nat → Int32)) => ThQ G h0 a (upd (upd F 2 (nI sz)) 9 (nI at9)) (updR R 1 (.ref pq)) Z B J u) (fun u => u.1)) ([.ref (a 3), .ref d0, .int x1, .int (nI tk)] : List Value).toArray s ({ frames := 8, cells := (2 * (sz - at9) + 10), slots := (60 * (sz - at9) + 400), locals := 191 } : Room).cells ({ frames := 8, cells := (2 * (sz - at9) + 10), slots := (60 * (sz - at9) + 400), locals := 191 } : Room).slots A) (F0 m 77 ls []) := by
        intro n_i
        induction n_i with
        | zero => intro i2 at2 f9 mo2 K2 g2 q2 f2 np cp2 it2 s2 H locs ls w hk_i hn_i; omega
        | succ n_i ih_i =>
          intro i2 at2 f9 mo2 K2 g2 q2 f2 np cp2 it2 s2 H locs ls w hk_i hn_i hat2 hwp2 hps2 hs2 hq2 hd2 hc62 hr2 hlc2 hcb2 hon2 hP hD hS hO hl
          have ht2 := hlc2.1
          refine lv_iload hx hb dX8_head_77 (lv_at hl 0 rfl) ?_
          refine lv_aload_n hx hb dX8_head_79 rfl (lv_at hl 6 rfl) ?_
          refine c_get (v := .ref (a 1)) (C := RX8) (Tc := TX8) (N := 5) (ci := 5) hx hb hq pin_wsX80 hown hE hP hO 23 (sg_23 G h0 a _ _ _ _ _) rfl 0 (by decide) (hq _ pw_774) (fun _ h9 => h9) rfl dX8_head_80 ?_
          refine c_get (v := .int (nI sz)) (C := RX10) (Tc := TX10) (N := 15) (ci := 7) hx hb hq pin_wsX100 hown hE hP hO 2 (sg_2 G h0 a _ _ _ _ _) rfl 8 (by decide) (hq _ pw_792) (fun _ h9 => h9) rfl dX8_head_83 ?_
          refine lv_icmp_ge (tgt := 199) hx hb dX8_head_86 (by decide) (fun c405 => ?_) (fun c405 => ?_)
          · have n406 : sz ≤ i2 := (nI_leI (a := sz) (b := i2) (by omega) (by omega)).mp c405
            refine lv_aload_n hx hb dX8_head_199 rfl (lv_at hl 6 rfl) ?_
            refine lv_bipush (v := 35) hx hb dX8_head_200 (by decide) ?_
            have hO : OKW G h0 a (upd (upd (upd (upd (upd F 2 (nI sz)) 9 (nI at9)) 9 (nI at2)) 2 (nI sz)) 9 (nI at2)) (updR R 1 (.ref pq)) Z (updA B 10 f9) J K2.1 (fun q99 x99 => x99 = rep G a K2 q99) w := hO.to rfl
            obtain ⟨_, qr410, hqr411⟩ := hO.2.1 23 _ (sg_23 G h0 a _ _ _ _ _)
            refine pn_V0 (G := G) (As := [.int 35]) (rest := []) hx hb hml hown hq hE hX pX0_al hP hD hS hA hl.1 (P_take l G h0 a (upd (upd (upd F 2 (nI sz)) 9 (nI at9)) 9 (nI at2)) (updR R 1 (.ref pq)) Z (updA B 10 f9) J K2.1 (fun q99 x99 => x99 = rep G a K2 q99) w 35 at2 sz (by omega) (by omega) (by decide) hO hl0) (gV pw_793 pw_794 pw_795 pw_796 pw_781) hV_X8_take qr410 5 hqr411 rfl rfl rfl (Nat.le_of_ble_eq_true rfl) dX8_head_202 ⟨(by show (3 + 2 * np) + 1 ≤ (2 * (sz - at9) + 10); omega), (by show (120 + 11 * np + 4 * cp2) + 6 ≤ (60 * (sz - at9) + 400); omega)⟩ ⟨Nat.le_of_ble_eq_true rfl, Nat.le_of_ble_eq_true rfl⟩ (fun v409 u407 H locs hw408 hP hD hS => ?_) (fun ux ce9 q9 H9 locs9 hux hP9 hD9 hS9 hce hcv hcl => pb_out ux (ThQ.up (Thx.same (Thx.same (Thx.b (Thx.f Thx.rfl (by omega)) (by omega) (by decide)) rfl) rfl) RhX.rfl hux) hnt hlocks hce hcv hcl hP9 hD9 hS9 (by show (3 + 2 * np) + 1 ≤ (2 * (sz - at9) + 10); omega) (by show (120 + 11 * np + 4 * cp2) + 6 ≤ (60 * (sz - at9) + 400); omega))
            obtain ⟨w, _⟩ := u407
            obtain ⟨hw408, h412, hO⟩ := hw408
            have h412 : at2 + 1 ≤ sz := h412
            obtain rfl : v409 = some (.int (nI at2)) := hw408
            have hO : OKP G h0 a (upd (upd F 2 (nI sz)) 9 (nI (at2 + 1))) (updR R 1 (.ref pq)) Z (updA B 10 f9) J K2 w := hO.to rfl
            refine W.widen (k := (3 + 2 * np)) (n := (120 + 11 * np + 4 * cp2)) (by show (3 + 2 * np) + 0 ≤ (3 + 2 * np); omega) (by show (120 + 11 * np + 4 * cp2) + 0 ≤ (120 + 11 * np + 4 * cp2); omega) ?_
            refine W.eq (g2 := F0 m 205 ls [.int (nI at2)]) rfl ?_
            refine lv_pop hx hb dX8_head_205 rfl ?_
            refine lv_aload hx hb dX8_head_206 (lv_at hl 2 rfl) ?_
            refine W_size (fun hz1 hz2 => ?_)
            refine vx_ret ?_
            have hz413 : WPr G K2 g2 := hwp2
            have hz414 : PgS G K2 g2 (a 1) pq dr ml nd nm cp it (s9 + 3 + ((at2 + 1) - at9)) := (PgS.up hps2 (by omega))
            have hz415 : K2.1 q2 = 3 := hq2
            have hz416 : K2.1 d0 = 4 := hd2
            have hz417 : at9 + 2 ≤ (at2 + 1) ∧ (at2 + 1) ≤ sz := (by omega)
            have hz418 : Onc K2 dr nd q2 := hon2
            have hO : OKP G h0 a (upd (upd F 2 (nI sz)) 9 (nI (at2 + 1))) (updR R 1 (.ref pq)) Z (updA B 10 f9) J K2 w := hO.to rfl
            refine W.widen (k := (2 * (sz - at9) + 10)) (n := (60 * (sz - at9) + 400)) (by omega) (by omega) ?_
            have hzz1 : H.size ≤ s.heap.size + (((at2 + 1) - at9 + 3)) := (by have z : (3 + 2 * np) ≤ ((at2 + 1) - at9 + 3) := (by omega); omega)
            have hzz2 : hSl H ≤ hSl s.heap + ((60 * ((at2 + 1) - at9) + 60)) := (by have z : (120 + 11 * np + 4 * cp2) ≤ (60 * ((at2 + 1) - at9) + 60) := (by omega); omega)
            exact W.aret (v := .ref q2) hx hb hr (Or.inl ⟨_, rfl⟩) (Or.inr ⟨_, rfl⟩) (fun t99 ht99 hW99 => ⟨⟨_, (w, (K2, g2, q2, (at2 + 1), f9)), rfl, ⟨rfl, hz413, hz414, hz415, hz416, hz417, hz418, hO⟩, by rw [ht99]; exact hP, hD, by rw [ht99]; exact hzz1, by rw [ht99]; exact hzz2⟩, hS.F ht99⟩) hS.2.2 dX8_head_208
          · have n419 : ¬ (sz ≤ i2) := fun h9 => c405 ((nI_leI (a := sz) (b := i2) (by omega) (by omega)).mpr h9)
            refine lv_iload hx hb dX8_head_89 (lv_at hl 1 rfl) ?_
            refine lv_if_eq (tgt := 199) hx hb dX8_head_91 (by decide) (fun c420 => ?_) (fun c420 => ?_)
            · refine lv_aload_n hx hb dX8_head_199 rfl (lv_at hl 6 rfl) ?_
              refine lv_bipush (v := 35) hx hb dX8_head_200 (by decide) ?_
              have hO : OKW G h0 a (upd (upd (upd (upd (upd F 2 (nI sz)) 9 (nI at9)) 9 (nI at2)) 2 (nI sz)) 9 (nI at2)) (updR R 1 (.ref pq)) Z (updA B 10 f9) J K2.1 (fun q99 x99 => x99 = rep G a K2 q99) w := hO.to rfl
              obtain ⟨_, qr424, hqr425⟩ := hO.2.1 23 _ (sg_23 G h0 a _ _ _ _ _)
              refine pn_V0 (G := G) (As := [.int 35]) (rest := []) hx hb hml hown hq hE hX pX0_al hP hD hS hA hl.1 (P_take l G h0 a (upd (upd (upd F 2 (nI sz)) 9 (nI at9)) 9 (nI at2)) (updR R 1 (.ref pq)) Z (updA B 10 f9) J K2.1 (fun q99 x99 => x99 = rep G a K2 q99) w 35 at2 sz (by omega) (by omega) (by decide) hO hl0) (gV pw_793 pw_794 pw_795 pw_796 pw_781) hV_X8_take qr424 5 hqr425 rfl rfl rfl (Nat.le_of_ble_eq_true rfl) dX8_head_202 ⟨(by show (3 + 2 * np) + 1 ≤ (2 * (sz - at9) + 10); omega), (by show (120 + 11 * np + 4 * cp2) + 6 ≤ (60 * (sz - at9) + 400); omega)⟩ ⟨Nat.le_of_ble_eq_true rfl, Nat.le_of_ble_eq_true rfl⟩ (fun v423 u421 H locs hw422 hP hD hS => ?_) (fun ux ce9 q9 H9 locs9 hux hP9 hD9 hS9 hce hcv hcl => pb_out ux (ThQ.up (Thx.same (Thx.same (Thx.b (Thx.f Thx.rfl (by omega)) (by omega) (by decide)) rfl) rfl) RhX.rfl hux) hnt hlocks hce hcv hcl hP9 hD9 hS9 (by show (3 + 2 * np) + 1 ≤ (2 * (sz - at9) + 10); omega) (by show (120 + 11 * np + 4 * cp2) + 6 ≤ (60 * (sz - at9) + 400); omega))
              obtain ⟨w, _⟩ := u421
              obtain ⟨hw422, h426, hO⟩ := hw422
              have h426 : at2 + 1 ≤ sz := h426
              obtain rfl : v423 = some (.int (nI at2)) := hw422
              have hO : OKP G h0 a (upd (upd F 2 (nI sz)) 9 (nI (at2 + 1))) (updR R 1 (.ref pq)) Z (updA B 10 f9) J K2 w := hO.to rfl
              refine W.widen (k := (3 + 2 * np)) (n := (120 + 11 * np + 4 * cp2)) (by show (3 + 2 * np) + 0 ≤ (3 + 2 * np); omega) (by show (120 + 11 * np + 4 * cp2) + 0 ≤ (120 + 11 * np + 4 * cp2); omega) ?_
              refine W.eq (g2 := F0 m 205 ls [.int (nI at2)]) rfl ?_
              refine lv_pop hx hb dX8_head_205 rfl ?_
              refine lv_aload hx hb dX8_head_206 (lv_at hl 2 rfl) ?_
              refine W_size (fun hz1 hz2 => ?_)
              refine vx_ret ?_
              have hz427 : WPr G K2 g2 := hwp2
              have hz428 : PgS G K2 g2 (a 1) pq dr ml nd nm cp it (s9 + 3 + ((at2 + 1) - at9)) := (PgS.up hps2 (by omega))
              have hz429 : K2.1 q2 = 3 := hq2
              have hz430 : K2.1 d0 = 4 := hd2
              have hz431 : at9 + 2 ≤ (at2 + 1) ∧ (at2 + 1) ≤ sz := (by omega)
              have hz432 : Onc K2 dr nd q2 := hon2
              have hO : OKP G h0 a (upd (upd F 2 (nI sz)) 9 (nI (at2 + 1))) (updR R 1 (.ref pq)) Z (updA B 10 f9) J K2 w := hO.to rfl
              refine W.widen (k := (2 * (sz - at9) + 10)) (n := (60 * (sz - at9) + 400)) (by omega) (by omega) ?_
              have hzz1 : H.size ≤ s.heap.size + (((at2 + 1) - at9 + 3)) := (by have z : (3 + 2 * np) ≤ ((at2 + 1) - at9 + 3) := (by omega); omega)
              have hzz2 : hSl H ≤ hSl s.heap + ((60 * ((at2 + 1) - at9) + 60)) := (by have z : (120 + 11 * np + 4 * cp2) ≤ (60 * ((at2 + 1) - at9) + 60) := (by omega); omega)
              exact W.aret (v := .ref q2) hx hb hr (Or.inl ⟨_, rfl⟩) (Or.inr ⟨_, rfl⟩) (fun t99 ht99 hW99 => ⟨⟨_, (w, (K2, g2, q2, (at2 + 1), f9)), rfl, ⟨rfl, hz427, hz428, hz429, hz430, hz431, hz432, hO⟩, by rw [ht99]; exact hP, hD, by rw [ht99]; exact hzz1, by rw [ht99]; exact hzz2⟩, hS.F ht99⟩) hS.2.2 dX8_head_208
            · refine lv_aload_n hx hb dX8_head_94 rfl (lv_at hl 6 rfl) ?_
              refine lv_bipush (v := 13) hx hb dX8_head_95 (by decide) ?_
              have hO : OKW G h0 a (upd (upd (upd (upd F 2 (nI sz)) 9 (nI at2)) 2 (nI sz)) 9 (nI at2)) (updR R 1 (.ref pq)) Z (updA B 10 f9) J K2.1 (fun q99 x99 => x99 = rep G a K2 q99) w := hO.to rfl
              obtain ⟨_, qr436, hqr437⟩ := hO.2.1 23 _ (sg_23 G h0 a _ _ _ _ _)
              refine pc_V0 (G := G) (As := [.int 13]) (rest := []) hx hb hml hown hq hE hX pX0_al hP hD hS hA hl.1 (P_sees l G h0 a (upd (upd F 2 (nI sz)) 9 (nI at2)) (updR R 1 (.ref pq)) Z (updA B 10 f9) J K2.1 (fun q99 x99 => x99 = rep G a K2 q99) w 13 at2 sz (by omega) (by omega) hO) (gV pw_803 pw_804 pw_805 pw_796 pw_775) hV_X8_sees qr436 5 hqr437 rfl rfl rfl (Nat.le_of_ble_eq_true rfl) dX8_head_97 ⟨(by show (3 + 2 * np) + 0 ≤ (2 * (sz - at9) + 10); omega), (by show (120 + 11 * np + 4 * cp2) + 0 ≤ (60 * (sz - at9) + 400); omega)⟩ ⟨Nat.le_of_ble_eq_true rfl, Nat.le_of_ble_eq_true rfl⟩ (fun v435 u433 H locs hw434 hP hD hS => ?_)
              obtain ⟨w, r438⟩ := u433
              obtain ⟨hw434, h439, hO⟩ := hw434
              have h439 : r438 ≤ 1 := h439
              obtain rfl : v435 = some (.int (nI r438)) := hw434
              have hO : OKP G h0 a (upd (upd F 2 (nI sz)) 9 (nI at2)) (updR R 1 (.ref pq)) Z (updA B 10 f9) J K2 w := hO.to rfl
              refine W.widen (k := (3 + 2 * np)) (n := (120 + 11 * np + 4 * cp2)) (by show (3 + 2 * np) + 0 ≤ (3 + 2 * np); omega) (by show (120 + 11 * np + 4 * cp2) + 0 ≤ (120 + 11 * np + 4 * cp2); omega) ?_
              refine W.eq (g2 := F0 m 100 ls [.int (nI r438)]) rfl ?_
              refine lv_if_ne (tgt := 120) hx hb dX8_head_100 (by decide) (fun c440 => ?_) (fun c440 => ?_)
              · have n441 : ¬ (r438 = 0) := fun h9 => c440 ((nI_eq (a := r438) (b := 0) (by omega) (by omega)).mpr h9)
                refine lv_iconst (v := 1) hx hb dX8_head_120 (by decide) ?_
                refine lv_goto (tgt := 125) hx hb dX8_head_121 (by decide) ?_
                refine lv_istore (lv' := [(7, .int 1), (6, .int (nI i2)), (5, .int mo2), (4, .ref q2), (3, .int (nI tk)), (2, .int x1), (1, .ref d0), (0, .ref (a 3))]) hx hb dX8_head_125 hl (by decide) rfl (fun ls hl => ?_)
                refine lv_iload hx hb dX8_head_127 (lv_at hl 0 rfl) ?_
                refine lv_if_eq (tgt := 157) hx hb dX8_head_129 (by decide) (fun c442 => absurd c442 (by decide)) (fun c442 => ?_)
                refine lv_aload hx hb dX8_head_132 (lv_at hl 3 rfl) ?_
                refine p_get (v := .ref f2) (C := RX6) (Tc := TX6) (N := 12) (ci := 12) hx hb hq pin_wsX60 hown hE hP hO (by rw [hq2]; decide) (rep_3 hq2) rfl 4 (by decide) (hq _ pw_881) (fun _ h9 => h9) (congrArg (fun z => some (va_rf z)) hc62) dX8_head_134 ?_
                have hO : OKP G h0 a (upd (upd F 2 (nI sz)) 9 (nI at2)) (updR R 1 (.ref pq)) Z (updA B 10 f9) J K2 w := hO.to rfl
                obtain ⟨qr446, hqr447⟩ := p_recv hO (by rw [ht2]; decide) (rep_5 ht2)
                refine pc_V0 (G := G) (As := []) (rest := []) hx hb hml hown hq hE hX pX0_al hP hD hS hA hl.1 (L_size l G h0 a (upd (upd F 2 (nI sz)) 9 (nI at2)) (updR R 1 (.ref pq)) Z (updA B 10 f9) J K2 w f2 1 np it2 hlc2.ls hO) (gV pw_882 pw_87 pw_88 pw_32 pw_16) hV_Jx4a65c_size_8abf5 qr446 10 hqr447 rfl rfl rfl (Nat.le_of_ble_eq_true rfl) dX8_head_137 ⟨(by show (3 + 2 * np) + 0 ≤ (2 * (sz - at9) + 10); omega), (by show (120 + 11 * np + 4 * cp2) + 0 ≤ (60 * (sz - at9) + 400); omega)⟩ ⟨Nat.le_of_ble_eq_true rfl, Nat.le_of_ble_eq_true rfl⟩ (fun v445 u443 H locs hw444 hP hD hS => ?_)
                obtain ⟨w, _⟩ := u443
                obtain ⟨hw444, hO⟩ := hw444
                obtain rfl : v445 = some (.int (nI np)) := hw444
                have hO : OKP G h0 a (upd (upd F 2 (nI sz)) 9 (nI at2)) (updR R 1 (.ref pq)) Z (updA B 10 f9) J K2 w := hO.to rfl
                refine W.widen (k := (3 + 2 * np)) (n := (120 + 11 * np + 4 * cp2)) (by show (3 + 2 * np) + 0 ≤ (3 + 2 * np); omega) (by show (120 + 11 * np + 4 * cp2) + 0 ≤ (120 + 11 * np + 4 * cp2); omega) ?_
                refine W.eq (g2 := F0 m 140 ls [.int (nI np)]) rfl ?_
                refine lv_bipush (v := 8) hx hb dX8_head_140 (by decide) ?_
                refine lv_icmp_lt (tgt := 157) hx hb dX8_head_142 (by decide) (fun c448 => ?_) (fun c448 => ?_)
                · have n449 : np < 8 := (nI_ltI (a := np) (b := 8) (by omega) (by omega)).mp c448
                  refine lv_aload_n hx hb dX8_head_157 rfl (lv_at hl 7 rfl) ?_
                  refine lv_iconst (v := 1) hx hb dX8_head_158 (by decide) ?_
                  have hO : OKW G h0 a (upd (upd (upd (upd (upd F 2 (nI sz)) 9 (nI at9)) 9 (nI at2)) 2 (nI sz)) 9 (nI at2)) (updR R 1 (.ref pq)) Z (updA B 10 f9) J K2.1 (fun q99 x99 => x99 = rep G a K2 q99) w := hO.to rfl
                  obtain ⟨_, qr453, hqr454⟩ := hO.2.1 23 _ (sg_23 G h0 a _ _ _ _ _)
                  refine pn_V0 (G := G) (As := [.int 1]) (rest := []) hx hb hml hown hq hE hX pX0_al hP hD hS hA hl.1 (P_takeType l G h0 a (upd (upd (upd F 2 (nI sz)) 9 (nI at9)) 9 (nI at2)) (updR R 1 (.ref pq)) Z (updA B 10 f9) J K2.1 (fun q99 x99 => x99 = rep G a K2 q99) w 1 at2 sz (by omega) (by omega) hO hl0) (gV pw_825 pw_826 pw_827 pw_796 pw_821) hV_X8_takeType qr453 5 hqr454 rfl rfl rfl (Nat.le_of_ble_eq_true rfl) dX8_head_159 ⟨(by show (3 + 2 * np) + 1 ≤ (2 * (sz - at9) + 10); omega), (by show (120 + 11 * np + 4 * cp2) + 6 ≤ (60 * (sz - at9) + 400); omega)⟩ ⟨Nat.le_of_ble_eq_true rfl, Nat.le_of_ble_eq_true rfl⟩ (fun v452 u450 H locs hw451 hP hD hS => ?_) (fun ux ce9 q9 H9 locs9 hux hP9 hD9 hS9 hce hcv hcl => pb_out ux (ThQ.up (Thx.same (Thx.same (Thx.b (Thx.f Thx.rfl (by omega)) (by omega) (by decide)) rfl) rfl) RhX.rfl hux) hnt hlocks hce hcv hcl hP9 hD9 hS9 (by show (3 + 2 * np) + 1 ≤ (2 * (sz - at9) + 10); omega) (by show (120 + 11 * np + 4 * cp2) + 6 ≤ (60 * (sz - at9) + 400); omega))
                  obtain ⟨w, at455, f456⟩ := u450
                  obtain ⟨hw451, h457, hO⟩ := hw451
                  have h457 : at2 + 1 ≤ at455 ∧ at455 ≤ sz := h457
                  obtain rfl : v452 = some (.int (nI at2)) := hw451
                  have hO : OKP G h0 a (upd (upd F 2 (nI sz)) 9 (nI at455)) (updR R 1 (.ref pq)) Z (updA B 10 f456) J K2 w := hO.to rfl
                  refine W.widen (k := (3 + 2 * np)) (n := (120 + 11 * np + 4 * cp2)) (by show (3 + 2 * np) + 0 ≤ (3 + 2 * np); omega) (by show (120 + 11 * np + 4 * cp2) + 0 ≤ (120 + 11 * np + 4 * cp2); omega) ?_
                  refine W.eq (g2 := F0 m 162 ls [.int (nI at2)]) rfl ?_
                  refine lv_istore (lv' := [(8, .int (nI at2)), (7, .int 1), (6, .int (nI i2)), (5, .int mo2), (4, .ref q2), (3, .int (nI tk)), (2, .int x1), (1, .ref d0), (0, .ref (a 3))]) hx hb dX8_head_162 hl (by decide) rfl (fun ls hl => ?_)
                  refine lv_aload hx hb dX8_head_164 (lv_at hl 4 rfl) ?_
                  refine p_get (v := .ref f2) (C := RX6) (Tc := TX6) (N := 12) (ci := 12) hx hb hq pin_wsX60 hown hE hP hO (by rw [hq2]; decide) (rep_3 hq2) rfl 4 (by decide) (hq _ pw_881) (fun _ h9 => h9) (congrArg (fun z => some (va_rf z)) hc62) dX8_head_166 ?_
                  refine lv_aload_n hx hb dX8_head_169 rfl (lv_at hl 8 rfl) ?_
                  refine lv_iload hx hb dX8_head_170 (lv_at hl 0 rfl) ?_
                  refine lv_aload_n hx hb dX8_head_172 rfl (lv_at hl 8 rfl) ?_
                  refine lv_bipush (v := 65) hx hb dX8_head_173 (by decide) ?_
                  have hO : OKW G h0 a (upd (upd (upd (upd (upd F 2 (nI sz)) 9 (nI at9)) 9 (nI at455)) 2 (nI sz)) 9 (nI at455)) (updR R 1 (.ref pq)) Z (updA B 10 f456) J K2.1 (fun q99 x99 => x99 = rep G a K2 q99) w := hO.to rfl
                  obtain ⟨_, qr461, hqr462⟩ := hO.2.1 23 _ (sg_23 G h0 a _ _ _ _ _)
                  refine pn_V0 (G := G) (As := [.int 65]) (rest := [.int (nI at2), .ref (a 3), .ref f2]) hx hb hml hown hq hE hX pX0_al hP hD hS hA hl.1 (P_take l G h0 a (upd (upd (upd F 2 (nI sz)) 9 (nI at9)) 9 (nI at455)) (updR R 1 (.ref pq)) Z (updA B 10 f456) J K2.1 (fun q99 x99 => x99 = rep G a K2 q99) w 65 at455 sz (by omega) (by omega) (by decide) hO hl0) (gV pw_793 pw_794 pw_795 pw_796 pw_781) hV_X8_take qr461 5 hqr462 rfl rfl rfl (Nat.le_of_ble_eq_true rfl) dX8_head_175 ⟨(by show (3 + 2 * np) + 1 ≤ (2 * (sz - at9) + 10); omega), (by show (120 + 11 * np + 4 * cp2) + 6 ≤ (60 * (sz - at9) + 400); omega)⟩ ⟨Nat.le_of_ble_eq_true rfl, Nat.le_of_ble_eq_true rfl⟩ (fun v460 u458 H locs hw459 hP hD hS => ?_) (fun ux ce9 q9 H9 locs9 hux hP9 hD9 hS9 hce hcv hcl => pb_out ux (ThQ.up (Thx.same (Thx.same (Thx.b (Thx.f Thx.rfl (by omega)) (by omega) (by decide)) rfl) rfl) RhX.rfl hux) hnt hlocks hce hcv hcl hP9 hD9 hS9 (by show (3 + 2 * np) + 1 ≤ (2 * (sz - at9) + 10); omega) (by show (120 + 11 * np + 4 * cp2) + 6 ≤ (60 * (sz - at9) + 400); omega))
                  obtain ⟨w, _⟩ := u458
                  obtain ⟨hw459, h463, hO⟩ := hw459
                  have h463 : at455 + 1 ≤ sz := h463
                  obtain rfl : v460 = some (.int (nI at455)) := hw459
                  have hO : OKP G h0 a (upd (upd F 2 (nI sz)) 9 (nI (at455 + 1))) (updR R 1 (.ref pq)) Z (updA B 10 f456) J K2 w := hO.to rfl
                  refine W.widen (k := (3 + 2 * np)) (n := (120 + 11 * np + 4 * cp2)) (by show (3 + 2 * np) + 0 ≤ (3 + 2 * np); omega) (by show (120 + 11 * np + 4 * cp2) + 0 ≤ (120 + 11 * np + 4 * cp2); omega) ?_
                  refine W.eq (g2 := F0 m 178 ls [.int (nI at455), .int (nI at2), .ref (a 3), .ref f2]) rfl ?_
                  have hO : OKP G h0 a (upd (upd (upd F 2 (nI sz)) 9 (nI (at455 + 1))) 2 (nI sz)) (updR R 1 (.ref pq)) Z (updA B 10 f456) J K2 w := hO.to rfl
                  obtain ⟨_, qr467, hqr468⟩ := hO.2.1 23 _ (sg_23 G h0 a _ _ _ _ _)
                  refine pc_V0 (G := G) (As := [.int (nI at2), .int (nI at455)]) (rest := [.ref f2]) hx hb hml hown hq hE hX pX0_al hP hD hS hA hl.1 (P_variable l G h0 a (upd (upd F 2 (nI sz)) 9 (nI (at455 + 1))) (updR R 1 (.ref pq)) Z (updA B 10 f456) J K2 w (nI at2) (nI at455) sz 0 0 g2 (by omega) hwp2.1 (fun o9 h9 => absurd h9 (by omega)) (by omega) hO) (gV pw_888 pw_889 pw_890 pw_796 pw_869) hV_X8_variable qr467 5 hqr468 rfl rfl rfl (Nat.le_of_ble_eq_true rfl) dX8_head_178 ⟨(by show (3 + 2 * np) + 1 ≤ (2 * (sz - at9) + 10); omega), (by show (120 + 11 * np + 4 * cp2) + 11 ≤ (60 * (sz - at9) + 400); omega)⟩ ⟨Nat.le_of_ble_eq_true rfl, Nat.le_of_ble_eq_true rfl⟩ (fun v466 u464 H locs hw465 hP hD hS => ?_)
                  obtain ⟨w, r469, K470, g471⟩ := u464
                  obtain ⟨hw465, h472, h473, hO⟩ := hw465
                  have h472 : NwR K2 K470 g2 g471 r469 0 0 1 := h472
                  have h473 : K470.2.1 0 r469 = 36 := h473
                  obtain rfl : v466 = some (.ref r469) := hw465
                  have hf474 : K470.1 q2 = 3 := (((h472).2.1.1 q2 (by rw [hq2]; decide)).1).trans hq2
                  have hf475 : K470.1 d0 = 4 := (((h472).2.1.1 d0 (by rw [hd2]; decide)).1).trans hd2
                  have hf476 : K470.1 f2 = 5 := (((h472).2.1.1 f2 (by rw [ht2]; decide)).1).trans ht2
                  have hf477 : K470.2.2.1 6 q2 = some f2 := (((h472).2.1.1 q2 (by rw [hq2]; decide)).2.2.1 6).trans hc62
                  have hO : OKP G h0 a (upd (upd F 2 (nI sz)) 9 (nI (at455 + 1))) (updR R 1 (.ref pq)) Z (updA B 10 f456) J K470 w := hO.to rfl
                  refine W.widen (k := ((3 + 2 * np) + 1)) (n := ((120 + 11 * np + 4 * cp2) + 11)) (by show (3 + 2 * np) + 1 ≤ ((3 + 2 * np) + 1); omega) (by show (120 + 11 * np + 4 * cp2) + 11 ≤ ((120 + 11 * np + 4 * cp2) + 11); omega) ?_
                  refine W.eq (g2 := F0 m 181 ls [.ref r469, .ref f2]) rfl ?_
                  have hwp478 := WPr.nd hwp2 h472
                  have hps479 := PgS.nd hps2 hwp2 h472
                  have hf480 : K470.1 r469 = 1 := h472.2.2.1.2.1
                  have hlc481 : LsC G K470 f2 1 np it2 cp2 := (LsC.wx (fun p hp => (h472.2.1.1 p hp).1) (by decide) (h472.2.1.1 f2 (by rw [ht2]; decide)) (fun e he _ => h472.2.1.1 e (by rw [he]; decide)) hlc2)
                  have hO : OKP G h0 a (upd (upd (upd F 2 (nI sz)) 9 (nI at9)) 9 (nI (at455 + 1))) (updR R 1 (.ref pq)) Z (updA B 10 f456) J K470 w := hO.to rfl
                  obtain ⟨qr485, hqr486⟩ := p_recv hO (by rw [hf476]; decide) (rep_5 hf476)
                  refine pn_V0 (G := G) (As := [.ref r469]) (rest := []) hx hb hml hown hq hE hX pX0_al hP hD hS hA hl.1 (L_addC l G h0 a (upd (upd (upd F 2 (nI sz)) 9 (nI at9)) 9 (nI (at455 + 1))) (updR R 1 (.ref pq)) Z (updA B 10 f456) J K470 w f2 1 np it2 cp2 r469 hlc481 (by decide) hf480 (by omega) (by omega) hO hl0) (gV pw_885 pw_886 pw_887 pw_32 pw_868) hV_Jx4a65c_add_9ea2d qr485 10 hqr486 rfl rfl rfl (Nat.le_of_ble_eq_true rfl) dX8_head_181 ⟨(by show ((3 + 2 * np) + 1) + 1 ≤ (2 * (sz - at9) + 10); omega), (by show ((120 + 11 * np + 4 * cp2) + 11) + (10 + np + np / 2) ≤ (60 * (sz - at9) + 400); omega)⟩ ⟨Nat.le_of_ble_eq_true rfl, Nat.le_of_ble_eq_true rfl⟩ (fun v484 u482 H locs hw483 hP hD hS => ?_) (fun ux ce9 q9 H9 locs9 hux hP9 hD9 hS9 hce hcv hcl => pb_out ux (ThQ.up (Thx.b (Thx.f Thx.rfl (by omega)) (by omega) (by decide)) RhX.rfl hux) hnt hlocks hce hcv hcl hP9 hD9 hS9 (by show ((3 + 2 * np) + 1) + 1 ≤ (2 * (sz - at9) + 10); omega) (by show ((120 + 11 * np + 4 * cp2) + 11) + (10 + np + np / 2) ≤ (60 * (sz - at9) + 400); omega))
                  obtain ⟨w, K487, d488⟩ := u482
                  obtain ⟨hw483, h489, h490, h491, h492, h493, hO⟩ := hw483
                  have h489 : LsC G K487 f2 1 (np + 1) (upQ it2 np r469) (cp2 + d488) := h489
                  have h490 : AdQ K470 K487 f2 := h490
                  have h491 : N6 K470 K487 := h491
                  have h492 : cp2 + d488 ≤ 10 + 2 * (np + 1) := h492
                  have h493 : d488 ≤ 10 + np / 2 := h493
                  obtain rfl : v484 = some (.int 1) := hw483
                  have hO : OKP G h0 a (upd (upd F 2 (nI sz)) 9 (nI (at455 + 1))) (updR R 1 (.ref pq)) Z (updA B 10 f456) J K487 w := hO.to rfl
                  refine W.widen (k := (((3 + 2 * np) + 1) + 1)) (n := (((120 + 11 * np + 4 * cp2) + 11) + (4 * d488))) (by show ((3 + 2 * np) + 1) + 1 ≤ (((3 + 2 * np) + 1) + 1); omega) (by show ((120 + 11 * np + 4 * cp2) + 11) + (4 * d488) ≤ (((120 + 11 * np + 4 * cp2) + 11) + (4 * d488)); omega) ?_
                  refine W.eq (g2 := F0 m 184 ls [.int 1]) rfl ?_
                  have hg494 : g471 3 f2 = 3 := (h472.2.1.2 f2 (by rw [ht2]; decide) 3).trans hr2
                  have hwp495 : WPr G K487 g471 := WPr.add hwp478 h490 h491 hf476 (by rw [hg494]; exact h489) (by rw [hg494]; show _ ≤ 5000 ∧ _; omega)
                  have hps496 : PgS G K487 g471 (a 1) pq dr ml nd nm cp it s2 := by have z9 := PgS.add hps479 hwp478 h490 h491 hf476 (fun z => by have z2 := hg494; rw [z, hps479.1.2.2.2.2.2.2.1] at z2; exact absurd z2 (by decide)) (by rw [szL_of h489, szL_of hlc481]) (by rw [hg494]; decide) (by rw [hg494]; decide) (fun z => by rw [hg494] at z; exact absurd z (by decide)); rw [hg494] at z9; exact z9
                  have hf497 : K487.1 q2 = 3 := (h490.1 q2 (by rw [hf474]; decide)).1.trans hf474
                  have hf498 : K487.1 d0 = 4 := (h490.1 d0 (by rw [hf475]; decide)).1.trans hf475
                  have hf499 : K487.1 f2 = 5 := (h490.1 f2 (by rw [hf476]; decide)).1.trans hf476
                  have hf500 : K487.1 r469 = 1 := (h490.1 r469 (by rw [hf480]; decide)).1.trans hf480
                  have hon9 : Onc K487 dr nd q2 := Onc.add (Onc.ext hon2 hps2.2.1 hwp2 hps2.1.2.2.2.1 h472.2.1.1) hps479.2.1 hwp478 hps479.1.2.2.2.1 h490 hf476 (by rw [hg494]; decide)
                  refine lv_pop hx hb dX8_head_184 rfl ?_
                  refine lv_aload_n hx hb dX8_head_185 rfl (lv_at hl 8 rfl) ?_
                  refine lv_bipush (v := 39) hx hb dX8_head_186 (by decide) ?_
                  have hO : OKW G h0 a (upd (upd (upd (upd F 2 (nI sz)) 9 (nI (at455 + 1))) 2 (nI sz)) 9 (nI (at455 + 1))) (updR R 1 (.ref pq)) Z (updA B 10 f456) J K487.1 (fun q99 x99 => x99 = rep G a K487 q99) w := hO.to rfl
                  obtain ⟨_, qr504, hqr505⟩ := hO.2.1 23 _ (sg_23 G h0 a _ _ _ _ _)
                  refine pc_V0 (G := G) (As := [.int 39]) (rest := []) hx hb hml hown hq hE hX pX0_al hP hD hS hA hl.1 (P_takeIf l G h0 a (upd (upd F 2 (nI sz)) 9 (nI (at455 + 1))) (updR R 1 (.ref pq)) Z (updA B 10 f456) J K487.1 (fun q99 x99 => x99 = rep G a K487 q99) w 39 (at455 + 1) sz (by omega) (by omega) (by decide) hO) (gV pw_797 pw_798 pw_799 pw_796 pw_789) hV_X8_takeIf qr504 5 hqr505 rfl rfl rfl (Nat.le_of_ble_eq_true rfl) dX8_head_188 ⟨(by show (((3 + 2 * np) + 1) + 1) + 0 ≤ (2 * (sz - at9) + 10); omega), (by show (((120 + 11 * np + 4 * cp2) + 11) + (4 * d488)) + 0 ≤ (60 * (sz - at9) + 400); omega)⟩ ⟨Nat.le_of_ble_eq_true rfl, Nat.le_of_ble_eq_true rfl⟩ (fun v503 u501 H locs hw502 hP hD hS => ?_)
                  obtain ⟨w, r506⟩ := u501
                  obtain ⟨hw502, h507, h508, hO⟩ := hw502
                  have h507 : r506 ≤ 1 := h507
                  have h508 : (at455 + 1) + r506 ≤ sz := h508
                  obtain rfl : v503 = some (.int (nI r506)) := hw502
                  have hO : OKP G h0 a (upd (upd F 2 (nI sz)) 9 (nI ((at455 + 1) + r506))) (updR R 1 (.ref pq)) Z (updA B 10 f456) J K487 w := hO.to rfl
                  refine W.widen (k := (((3 + 2 * np) + 1) + 1)) (n := (((120 + 11 * np + 4 * cp2) + 11) + (4 * d488))) (by show (((3 + 2 * np) + 1) + 1) + 0 ≤ (((3 + 2 * np) + 1) + 1); omega) (by show (((120 + 11 * np + 4 * cp2) + 11) + (4 * d488)) + 0 ≤ (((120 + 11 * np + 4 * cp2) + 11) + (4 * d488)); omega) ?_
                  refine W.eq (g2 := F0 m 191 ls [.int (nI r506)]) rfl ?_
                  refine lv_istore (lv' := [(5, .int (nI r506)), (8, .int (nI at2)), (7, .int 1), (6, .int (nI i2)), (4, .ref q2), (3, .int (nI tk)), (2, .int x1), (1, .ref d0), (0, .ref (a 3))]) hx hb dX8_head_191 hl (by decide) rfl (fun ls hl => ?_)
                  refine lv_iinc (v := (nI (i2 + 1))) (lv' := [(6, .int (nI (i2 + 1))), (5, .int (nI r506)), (8, .int (nI at2)), (7, .int 1), (4, .ref q2), (3, .int (nI tk)), (2, .int x1), (1, .ref d0), (0, .ref (a 3))]) hx hb dX8_head_193 hl (k := 3) rfl (nI_1 i2) (by decide) rfl (fun ls hl => ?_)
                  refine lv_goto (tgt := 77) hx hb dX8_head_196 (by decide) ?_
                  refine W.widen (k := (3 + 2 * (np + 1))) (n := (120 + 11 * (np + 1) + 4 * (cp2 + d488))) (by show (((3 + 2 * np) + 1) + 1) ≤ _; omega) (by show (((120 + 11 * np + 4 * cp2) + 11) + (4 * d488)) ≤ _; omega) ?_
                  have hO : OKP G h0 a (upd (upd F 2 (nI sz)) 9 (nI ((at455 + 1) + r506))) (updR R 1 (.ref pq)) Z (updA B 10 f456) J K487 w := hO.to rfl
                  exact ih_i (i2 + 1) ((at455 + 1) + r506) f456 (nI r506) K487 g471 q2 f2 (np + 1) (cp2 + d488) (upQ it2 np r469) s2 _ _ _ _ (by omega) (by omega) (by omega) hwp495 hps496 (by omega) hf497 hf498 (((AdQ.sm h490 (by rw [hf474]; decide) (fun z => by have z2 := hf474; rw [z, hf476] at z2; exact absurd z2 (by decide)) (by rw [hf474]; decide)).2.2.1 6).trans ((h472.2.1.1 q2 (by rw [hq2]; decide)).2.2.1 6 |>.trans hc62)) hg494 h489 (by omega) hon9 hP hD hS hO (lv_sub hl [0, 1, 4, 5, 6, 7, 8] rfl)
                · have n509 : ¬ (np < 8) := fun h9 => c448 ((nI_ltI (a := np) (b := 8) (by omega) (by omega)).mpr h9)
                  refine lv_aload_n hx hb dX8_head_145 rfl (lv_at hl 7 rfl) ?_
                  refine c_get (v := .ref (a 1)) (C := RX8) (Tc := TX8) (N := 5) (ci := 5) hx hb hq pin_wsX80 hown hE hP hO 23 (sg_23 G h0 a _ _ _ _ _) rfl 0 (by decide) (hq _ pw_774) (fun _ h9 => h9) rfl dX8_head_146 ?_
                  refine lv_iconst (v := 2) hx hb dX8_head_149 (by decide) ?_
                  refine lv_aload_n hx hb dX8_head_150 rfl (lv_at hl 7 rfl) ?_
                  refine c_get (v := .int (nI at2)) (C := RX8) (Tc := TX8) (N := 5) (ci := 5) hx hb hq pin_wsX80 hown hE hP hO 23 (sg_23 G h0 a _ _ _ _ _) rfl 2 (by decide) (hq _ pw_776) (fun _ h9 => h9) rfl dX8_head_151 ?_
                  have hO : OKW G h0 a (upd (upd (upd (upd F 2 (nI sz)) 9 (nI at9)) 9 (nI at2)) 2 (nI sz)) (updR R 1 (.ref pq)) Z (updA B 10 f9) J K2.1 (fun q99 x99 => x99 = rep G a K2 q99) w := hO.to rfl
                  obtain ⟨_, qr513, hqr514⟩ := hO.2.1 2 _ (sg_2 G h0 a _ _ _ _ _)
                  refine pn_V0 (G := G) (As := [.int 2, .int (nI at2)]) (rest := []) hx hb hml hown hq hE hX pX0_al hP hD hS hA hl.1 (K_fail l G h0 a (upd (upd (upd F 2 (nI sz)) 9 (nI at9)) 9 (nI at2)) (updR R 1 (.ref pq)) Z (updA B 10 f9) J K2.1 (fun q99 x99 => x99 = rep G a K2 q99) w 2 (nI at2) sz (by omega) hO hl0) (gV pw_779 pw_65 pw_66 pw_59 pw_43) hV_X10_fail qr513 7 hqr514 rfl rfl rfl (Nat.le_of_ble_eq_true rfl) dX8_head_154 ⟨(by show (3 + 2 * np) + 1 ≤ (2 * (sz - at9) + 10); omega), (by show (120 + 11 * np + 4 * cp2) + 6 ≤ (60 * (sz - at9) + 400); omega)⟩ ⟨Nat.le_of_ble_eq_true rfl, Nat.le_of_ble_eq_true rfl⟩ (fun v512 u510 H locs hw511 hP hD hS => hw511.elim) (fun ux ce9 q9 H9 locs9 hux hP9 hD9 hS9 hce hcv hcl => pb_out ux (ThQ.up (Thx.same (Thx.b (Thx.f Thx.rfl (by omega)) (by omega) (by decide)) rfl) RhX.rfl hux) hnt hlocks hce hcv hcl hP9 hD9 hS9 (by show (3 + 2 * np) + 1 ≤ (2 * (sz - at9) + 10); omega) (by show (120 + 11 * np + 4 * cp2) + 6 ≤ (60 * (sz - at9) + 400); omega))
              · have n515 : r438 = 0 := (nI_eq (a := r438) (b := 0) (by omega) (by omega)).mp c440
                refine lv_aload_n hx hb dX8_head_103 rfl (lv_at hl 6 rfl) ?_
                refine lv_iconst (v := 1) hx hb dX8_head_104 (by decide) ?_
                have hO : OKW G h0 a (upd (upd (upd (upd F 2 (nI sz)) 9 (nI at2)) 2 (nI sz)) 9 (nI at2)) (updR R 1 (.ref pq)) Z (updA B 10 f9) J K2.1 (fun q99 x99 => x99 = rep G a K2 q99) w := hO.to rfl
                obtain ⟨_, qr519, hqr520⟩ := hO.2.1 23 _ (sg_23 G h0 a _ _ _ _ _)
                refine pc_V0 (G := G) (As := [.int 1]) (rest := []) hx hb hml hown hq hE hX pX0_al hP hD hS hA hl.1 (P_sees l G h0 a (upd (upd F 2 (nI sz)) 9 (nI at2)) (updR R 1 (.ref pq)) Z (updA B 10 f9) J K2.1 (fun q99 x99 => x99 = rep G a K2 q99) w 1 at2 sz (by omega) (by omega) hO) (gV pw_803 pw_804 pw_805 pw_796 pw_775) hV_X8_sees qr519 5 hqr520 rfl rfl rfl (Nat.le_of_ble_eq_true rfl) dX8_head_105 ⟨(by show (3 + 2 * np) + 0 ≤ (2 * (sz - at9) + 10); omega), (by show (120 + 11 * np + 4 * cp2) + 0 ≤ (60 * (sz - at9) + 400); omega)⟩ ⟨Nat.le_of_ble_eq_true rfl, Nat.le_of_ble_eq_true rfl⟩ (fun v518 u516 H locs hw517 hP hD hS => ?_)
                obtain ⟨w, r521⟩ := u516
                obtain ⟨hw517, h522, hO⟩ := hw517
                have h522 : r521 ≤ 1 := h522
                obtain rfl : v518 = some (.int (nI r521)) := hw517
                have hO : OKP G h0 a (upd (upd F 2 (nI sz)) 9 (nI at2)) (updR R 1 (.ref pq)) Z (updA B 10 f9) J K2 w := hO.to rfl
                refine W.widen (k := (3 + 2 * np)) (n := (120 + 11 * np + 4 * cp2)) (by show (3 + 2 * np) + 0 ≤ (3 + 2 * np); omega) (by show (120 + 11 * np + 4 * cp2) + 0 ≤ (120 + 11 * np + 4 * cp2); omega) ?_
                refine W.eq (g2 := F0 m 108 ls [.int (nI r521)]) rfl ?_
                refine lv_if_ne (tgt := 120) hx hb dX8_head_108 (by decide) (fun c523 => ?_) (fun c523 => ?_)
                · have n524 : ¬ (r521 = 0) := fun h9 => c523 ((nI_eq (a := r521) (b := 0) (by omega) (by omega)).mpr h9)
                  refine lv_iconst (v := 1) hx hb dX8_head_120 (by decide) ?_
                  refine lv_goto (tgt := 125) hx hb dX8_head_121 (by decide) ?_
                  refine lv_istore (lv' := [(7, .int 1), (6, .int (nI i2)), (5, .int mo2), (4, .ref q2), (3, .int (nI tk)), (2, .int x1), (1, .ref d0), (0, .ref (a 3))]) hx hb dX8_head_125 hl (by decide) rfl (fun ls hl => ?_)
                  refine lv_iload hx hb dX8_head_127 (lv_at hl 0 rfl) ?_
                  refine lv_if_eq (tgt := 157) hx hb dX8_head_129 (by decide) (fun c525 => absurd c525 (by decide)) (fun c525 => ?_)
                  refine lv_aload hx hb dX8_head_132 (lv_at hl 3 rfl) ?_
                  refine p_get (v := .ref f2) (C := RX6) (Tc := TX6) (N := 12) (ci := 12) hx hb hq pin_wsX60 hown hE hP hO (by rw [hq2]; decide) (rep_3 hq2) rfl 4 (by decide) (hq _ pw_881) (fun _ h9 => h9) (congrArg (fun z => some (va_rf z)) hc62) dX8_head_134 ?_
                  have hO : OKP G h0 a (upd (upd F 2 (nI sz)) 9 (nI at2)) (updR R 1 (.ref pq)) Z (updA B 10 f9) J K2 w := hO.to rfl
                  obtain ⟨qr529, hqr530⟩ := p_recv hO (by rw [ht2]; decide) (rep_5 ht2)
                  refine pc_V0 (G := G) (As := []) (rest := []) hx hb hml hown hq hE hX pX0_al hP hD hS hA hl.1 (L_size l G h0 a (upd (upd F 2 (nI sz)) 9 (nI at2)) (updR R 1 (.ref pq)) Z (updA B 10 f9) J K2 w f2 1 np it2 hlc2.ls hO) (gV pw_882 pw_87 pw_88 pw_32 pw_16) hV_Jx4a65c_size_8abf5 qr529 10 hqr530 rfl rfl rfl (Nat.le_of_ble_eq_true rfl) dX8_head_137 ⟨(by show (3 + 2 * np) + 0 ≤ (2 * (sz - at9) + 10); omega), (by show (120 + 11 * np + 4 * cp2) + 0 ≤ (60 * (sz - at9) + 400); omega)⟩ ⟨Nat.le_of_ble_eq_true rfl, Nat.le_of_ble_eq_true rfl⟩ (fun v528 u526 H locs hw527 hP hD hS => ?_)
                  obtain ⟨w, _⟩ := u526
                  obtain ⟨hw527, hO⟩ := hw527
                  obtain rfl : v528 = some (.int (nI np)) := hw527
                  have hO : OKP G h0 a (upd (upd F 2 (nI sz)) 9 (nI at2)) (updR R 1 (.ref pq)) Z (updA B 10 f9) J K2 w := hO.to rfl
                  refine W.widen (k := (3 + 2 * np)) (n := (120 + 11 * np + 4 * cp2)) (by show (3 + 2 * np) + 0 ≤ (3 + 2 * np); omega) (by show (120 + 11 * np + 4 * cp2) + 0 ≤ (120 + 11 * np + 4 * cp2); omega) ?_
                  refine W.eq (g2 := F0 m 140 ls [.int (nI np)]) rfl ?_
                  refine lv_bipush (v := 8) hx hb dX8_head_140 (by decide) ?_
                  refine lv_icmp_lt (tgt := 157) hx hb dX8_head_142 (by decide) (fun c531 => ?_) (fun c531 => ?_)
                  · have n532 : np < 8 := (nI_ltI (a := np) (b := 8) (by omega) (by omega)).mp c531
                    refine lv_aload_n hx hb dX8_head_157 rfl (lv_at hl 7 rfl) ?_
                    refine lv_iconst (v := 1) hx hb dX8_head_158 (by decide) ?_
                    have hO : OKW G h0 a (upd (upd (upd (upd (upd F 2 (nI sz)) 9 (nI at9)) 9 (nI at2)) 2 (nI sz)) 9 (nI at2)) (updR R 1 (.ref pq)) Z (updA B 10 f9) J K2.1 (fun q99 x99 => x99 = rep G a K2 q99) w := hO.to rfl
                    obtain ⟨_, qr536, hqr537⟩ := hO.2.1 23 _ (sg_23 G h0 a _ _ _ _ _)
                    refine pn_V0 (G := G) (As := [.int 1]) (rest := []) hx hb hml hown hq hE hX pX0_al hP hD hS hA hl.1 (P_takeType l G h0 a (upd (upd (upd F 2 (nI sz)) 9 (nI at9)) 9 (nI at2)) (updR R 1 (.ref pq)) Z (updA B 10 f9) J K2.1 (fun q99 x99 => x99 = rep G a K2 q99) w 1 at2 sz (by omega) (by omega) hO hl0) (gV pw_825 pw_826 pw_827 pw_796 pw_821) hV_X8_takeType qr536 5 hqr537 rfl rfl rfl (Nat.le_of_ble_eq_true rfl) dX8_head_159 ⟨(by show (3 + 2 * np) + 1 ≤ (2 * (sz - at9) + 10); omega), (by show (120 + 11 * np + 4 * cp2) + 6 ≤ (60 * (sz - at9) + 400); omega)⟩ ⟨Nat.le_of_ble_eq_true rfl, Nat.le_of_ble_eq_true rfl⟩ (fun v535 u533 H locs hw534 hP hD hS => ?_) (fun ux ce9 q9 H9 locs9 hux hP9 hD9 hS9 hce hcv hcl => pb_out ux (ThQ.up (Thx.same (Thx.same (Thx.b (Thx.f Thx.rfl (by omega)) (by omega) (by decide)) rfl) rfl) RhX.rfl hux) hnt hlocks hce hcv hcl hP9 hD9 hS9 (by show (3 + 2 * np) + 1 ≤ (2 * (sz - at9) + 10); omega) (by show (120 + 11 * np + 4 * cp2) + 6 ≤ (60 * (sz - at9) + 400); omega))
                    obtain ⟨w, at538, f539⟩ := u533
                    obtain ⟨hw534, h540, hO⟩ := hw534
                    have h540 : at2 + 1 ≤ at538 ∧ at538 ≤ sz := h540
                    obtain rfl : v535 = some (.int (nI at2)) := hw534
                    have hO : OKP G h0 a (upd (upd F 2 (nI sz)) 9 (nI at538)) (updR R 1 (.ref pq)) Z (updA B 10 f539) J K2 w := hO.to rfl
                    refine W.widen (k := (3 + 2 * np)) (n := (120 + 11 * np + 4 * cp2)) (by show (3 + 2 * np) + 0 ≤ (3 + 2 * np); omega) (by show (120 + 11 * np + 4 * cp2) + 0 ≤ (120 + 11 * np + 4 * cp2); omega) ?_
                    refine W.eq (g2 := F0 m 162 ls [.int (nI at2)]) rfl ?_
                    refine lv_istore (lv' := [(8, .int (nI at2)), (7, .int 1), (6, .int (nI i2)), (5, .int mo2), (4, .ref q2), (3, .int (nI tk)), (2, .int x1), (1, .ref d0), (0, .ref (a 3))]) hx hb dX8_head_162 hl (by decide) rfl (fun ls hl => ?_)
                    refine lv_aload hx hb dX8_head_164 (lv_at hl 4 rfl) ?_
                    refine p_get (v := .ref f2) (C := RX6) (Tc := TX6) (N := 12) (ci := 12) hx hb hq pin_wsX60 hown hE hP hO (by rw [hq2]; decide) (rep_3 hq2) rfl 4 (by decide) (hq _ pw_881) (fun _ h9 => h9) (congrArg (fun z => some (va_rf z)) hc62) dX8_head_166 ?_
                    refine lv_aload_n hx hb dX8_head_169 rfl (lv_at hl 8 rfl) ?_
                    refine lv_iload hx hb dX8_head_170 (lv_at hl 0 rfl) ?_
                    refine lv_aload_n hx hb dX8_head_172 rfl (lv_at hl 8 rfl) ?_
                    refine lv_bipush (v := 65) hx hb dX8_head_173 (by decide) ?_
                    have hO : OKW G h0 a (upd (upd (upd (upd (upd F 2 (nI sz)) 9 (nI at9)) 9 (nI at538)) 2 (nI sz)) 9 (nI at538)) (updR R 1 (.ref pq)) Z (updA B 10 f539) J K2.1 (fun q99 x99 => x99 = rep G a K2 q99) w := hO.to rfl
                    obtain ⟨_, qr544, hqr545⟩ := hO.2.1 23 _ (sg_23 G h0 a _ _ _ _ _)
                    refine pn_V0 (G := G) (As := [.int 65]) (rest := [.int (nI at2), .ref (a 3), .ref f2]) hx hb hml hown hq hE hX pX0_al hP hD hS hA hl.1 (P_take l G h0 a (upd (upd (upd F 2 (nI sz)) 9 (nI at9)) 9 (nI at538)) (updR R 1 (.ref pq)) Z (updA B 10 f539) J K2.1 (fun q99 x99 => x99 = rep G a K2 q99) w 65 at538 sz (by omega) (by omega) (by decide) hO hl0) (gV pw_793 pw_794 pw_795 pw_796 pw_781) hV_X8_take qr544 5 hqr545 rfl rfl rfl (Nat.le_of_ble_eq_true rfl) dX8_head_175 ⟨(by show (3 + 2 * np) + 1 ≤ (2 * (sz - at9) + 10); omega), (by show (120 + 11 * np + 4 * cp2) + 6 ≤ (60 * (sz - at9) + 400); omega)⟩ ⟨Nat.le_of_ble_eq_true rfl, Nat.le_of_ble_eq_true rfl⟩ (fun v543 u541 H locs hw542 hP hD hS => ?_) (fun ux ce9 q9 H9 locs9 hux hP9 hD9 hS9 hce hcv hcl => pb_out ux (ThQ.up (Thx.same (Thx.same (Thx.b (Thx.f Thx.rfl (by omega)) (by omega) (by decide)) rfl) rfl) RhX.rfl hux) hnt hlocks hce hcv hcl hP9 hD9 hS9 (by show (3 + 2 * np) + 1 ≤ (2 * (sz - at9) + 10); omega) (by show (120 + 11 * np + 4 * cp2) + 6 ≤ (60 * (sz - at9) + 400); omega))
                    obtain ⟨w, _⟩ := u541
                    obtain ⟨hw542, h546, hO⟩ := hw542
                    have h546 : at538 + 1 ≤ sz := h546
                    obtain rfl : v543 = some (.int (nI at538)) := hw542
                    have hO : OKP G h0 a (upd (upd F 2 (nI sz)) 9 (nI (at538 + 1))) (updR R 1 (.ref pq)) Z (updA B 10 f539) J K2 w := hO.to rfl
                    refine W.widen (k := (3 + 2 * np)) (n := (120 + 11 * np + 4 * cp2)) (by show (3 + 2 * np) + 0 ≤ (3 + 2 * np); omega) (by show (120 + 11 * np + 4 * cp2) + 0 ≤ (120 + 11 * np + 4 * cp2); omega) ?_
                    refine W.eq (g2 := F0 m 178 ls [.int (nI at538), .int (nI at2), .ref (a 3), .ref f2]) rfl ?_
                    have hO : OKP G h0 a (upd (upd (upd F 2 (nI sz)) 9 (nI (at538 + 1))) 2 (nI sz)) (updR R 1 (.ref pq)) Z (updA B 10 f539) J K2 w := hO.to rfl
                    obtain ⟨_, qr550, hqr551⟩ := hO.2.1 23 _ (sg_23 G h0 a _ _ _ _ _)
                    refine pc_V0 (G := G) (As := [.int (nI at2), .int (nI at538)]) (rest := [.ref f2]) hx hb hml hown hq hE hX pX0_al hP hD hS hA hl.1 (P_variable l G h0 a (upd (upd F 2 (nI sz)) 9 (nI (at538 + 1))) (updR R 1 (.ref pq)) Z (updA B 10 f539) J K2 w (nI at2) (nI at538) sz 0 0 g2 (by omega) hwp2.1 (fun o9 h9 => absurd h9 (by omega)) (by omega) hO) (gV pw_888 pw_889 pw_890 pw_796 pw_869) hV_X8_variable qr550 5 hqr551 rfl rfl rfl (Nat.le_of_ble_eq_true rfl) dX8_head_178 ⟨(by show (3 + 2 * np) + 1 ≤ (2 * (sz - at9) + 10); omega), (by show (120 + 11 * np + 4 * cp2) + 11 ≤ (60 * (sz - at9) + 400); omega)⟩ ⟨Nat.le_of_ble_eq_true rfl, Nat.le_of_ble_eq_true rfl⟩ (fun v549 u547 H locs hw548 hP hD hS => ?_)
                    obtain ⟨w, r552, K553, g554⟩ := u547
                    obtain ⟨hw548, h555, h556, hO⟩ := hw548
                    have h555 : NwR K2 K553 g2 g554 r552 0 0 1 := h555
                    have h556 : K553.2.1 0 r552 = 36 := h556
                    obtain rfl : v549 = some (.ref r552) := hw548
                    have hf557 : K553.1 q2 = 3 := (((h555).2.1.1 q2 (by rw [hq2]; decide)).1).trans hq2
                    have hf558 : K553.1 d0 = 4 := (((h555).2.1.1 d0 (by rw [hd2]; decide)).1).trans hd2
                    have hf559 : K553.1 f2 = 5 := (((h555).2.1.1 f2 (by rw [ht2]; decide)).1).trans ht2
                    have hf560 : K553.2.2.1 6 q2 = some f2 := (((h555).2.1.1 q2 (by rw [hq2]; decide)).2.2.1 6).trans hc62
                    have hO : OKP G h0 a (upd (upd F 2 (nI sz)) 9 (nI (at538 + 1))) (updR R 1 (.ref pq)) Z (updA B 10 f539) J K553 w := hO.to rfl
                    refine W.widen (k := ((3 + 2 * np) + 1)) (n := ((120 + 11 * np + 4 * cp2) + 11)) (by show (3 + 2 * np) + 1 ≤ ((3 + 2 * np) + 1); omega) (by show (120 + 11 * np + 4 * cp2) + 11 ≤ ((120 + 11 * np + 4 * cp2) + 11); omega) ?_
                    refine W.eq (g2 := F0 m 181 ls [.ref r552, .ref f2]) rfl ?_
                    have hwp561 := WPr.nd hwp2 h555
                    have hps562 := PgS.nd hps2 hwp2 h555
                    have hf563 : K553.1 r552 = 1 := h555.2.2.1.2.1
                    have hlc564 : LsC G K553 f2 1 np it2 cp2 := (LsC.wx (fun p hp => (h555.2.1.1 p hp).1) (by decide) (h555.2.1.1 f2 (by rw [ht2]; decide)) (fun e he _ => h555.2.1.1 e (by rw [he]; decide)) hlc2)
                    have hO : OKP G h0 a (upd (upd (upd F 2 (nI sz)) 9 (nI at9)) 9 (nI (at538 + 1))) (updR R 1 (.ref pq)) Z (updA B 10 f539) J K553 w := hO.to rfl
                    obtain ⟨qr568, hqr569⟩ := p_recv hO (by rw [hf559]; decide) (rep_5 hf559)
                    refine pn_V0 (G := G) (As := [.ref r552]) (rest := []) hx hb hml hown hq hE hX pX0_al hP hD hS hA hl.1 (L_addC l G h0 a (upd (upd (upd F 2 (nI sz)) 9 (nI at9)) 9 (nI (at538 + 1))) (updR R 1 (.ref pq)) Z (updA B 10 f539) J K553 w f2 1 np it2 cp2 r552 hlc564 (by decide) hf563 (by omega) (by omega) hO hl0) (gV pw_885 pw_886 pw_887 pw_32 pw_868) hV_Jx4a65c_add_9ea2d qr568 10 hqr569 rfl rfl rfl (Nat.le_of_ble_eq_true rfl) dX8_head_181 ⟨(by show ((3 + 2 * np) + 1) + 1 ≤ (2 * (sz - at9) + 10); omega), (by show ((120 + 11 * np + 4 * cp2) + 11) + (10 + np + np / 2) ≤ (60 * (sz - at9) + 400); omega)⟩ ⟨Nat.le_of_ble_eq_true rfl, Nat.le_of_ble_eq_true rfl⟩ (fun v567 u565 H locs hw566 hP hD hS => ?_) (fun ux ce9 q9 H9 locs9 hux hP9 hD9 hS9 hce hcv hcl => pb_out ux (ThQ.up (Thx.b (Thx.f Thx.rfl (by omega)) (by omega) (by decide)) RhX.rfl hux) hnt hlocks hce hcv hcl hP9 hD9 hS9 (by show ((3 + 2 * np) + 1) + 1 ≤ (2 * (sz - at9) + 10); omega) (by show ((120 + 11 * np + 4 * cp2) + 11) + (10 + np + np / 2) ≤ (60 * (sz - at9) + 400); omega))
                    obtain ⟨w, K570, d571⟩ := u565
                    obtain ⟨hw566, h572, h573, h574, h575, h576, hO⟩ := hw566
                    have h572 : LsC G K570 f2 1 (np + 1) (upQ it2 np r552) (cp2 + d571) := h572
                    have h573 : AdQ K553 K570 f2 := h573
                    have h574 : N6 K553 K570 := h574
                    have h575 : cp2 + d571 ≤ 10 + 2 * (np + 1) := h575
                    have h576 : d571 ≤ 10 + np / 2 := h576
                    obtain rfl : v567 = some (.int 1) := hw566
                    have hO : OKP G h0 a (upd (upd F 2 (nI sz)) 9 (nI (at538 + 1))) (updR R 1 (.ref pq)) Z (updA B 10 f539) J K570 w := hO.to rfl
                    refine W.widen (k := (((3 + 2 * np) + 1) + 1)) (n := (((120 + 11 * np + 4 * cp2) + 11) + (4 * d571))) (by show ((3 + 2 * np) + 1) + 1 ≤ (((3 + 2 * np) + 1) + 1); omega) (by show ((120 + 11 * np + 4 * cp2) + 11) + (4 * d571) ≤ (((120 + 11 * np + 4 * cp2) + 11) + (4 * d571)); omega) ?_
                    refine W.eq (g2 := F0 m 184 ls [.int 1]) rfl ?_
                    have hg577 : g554 3 f2 = 3 := (h555.2.1.2 f2 (by rw [ht2]; decide) 3).trans hr2
                    have hwp578 : WPr G K570 g554 := WPr.add hwp561 h573 h574 hf559 (by rw [hg577]; exact h572) (by rw [hg577]; show _ ≤ 5000 ∧ _; omega)
                    have hps579 : PgS G K570 g554 (a 1) pq dr ml nd nm cp it s2 := by have z9 := PgS.add hps562 hwp561 h573 h574 hf559 (fun z => by have z2 := hg577; rw [z, hps562.1.2.2.2.2.2.2.1] at z2; exact absurd z2 (by decide)) (by rw [szL_of h572, szL_of hlc564]) (by rw [hg577]; decide) (by rw [hg577]; decide) (fun z => by rw [hg577] at z; exact absurd z (by decide)); rw [hg577] at z9; exact z9
                    have hf580 : K570.1 q2 = 3 := (h573.1 q2 (by rw [hf557]; decide)).1.trans hf557
                    have hf581 : K570.1 d0 = 4 := (h573.1 d0 (by rw [hf558]; decide)).1.trans hf558
                    have hf582 : K570.1 f2 = 5 := (h573.1 f2 (by rw [hf559]; decide)).1.trans hf559
                    have hf583 : K570.1 r552 = 1 := (h573.1 r552 (by rw [hf563]; decide)).1.trans hf563
                    have hon9 : Onc K570 dr nd q2 := Onc.add (Onc.ext hon2 hps2.2.1 hwp2 hps2.1.2.2.2.1 h555.2.1.1) hps562.2.1 hwp561 hps562.1.2.2.2.1 h573 hf559 (by rw [hg577]; decide)
                    refine lv_pop hx hb dX8_head_184 rfl ?_
                    refine lv_aload_n hx hb dX8_head_185 rfl (lv_at hl 8 rfl) ?_
                    refine lv_bipush (v := 39) hx hb dX8_head_186 (by decide) ?_
                    have hO : OKW G h0 a (upd (upd (upd (upd F 2 (nI sz)) 9 (nI (at538 + 1))) 2 (nI sz)) 9 (nI (at538 + 1))) (updR R 1 (.ref pq)) Z (updA B 10 f539) J K570.1 (fun q99 x99 => x99 = rep G a K570 q99) w := hO.to rfl
                    obtain ⟨_, qr587, hqr588⟩ := hO.2.1 23 _ (sg_23 G h0 a _ _ _ _ _)
                    refine pc_V0 (G := G) (As := [.int 39]) (rest := []) hx hb hml hown hq hE hX pX0_al hP hD hS hA hl.1 (P_takeIf l G h0 a (upd (upd F 2 (nI sz)) 9 (nI (at538 + 1))) (updR R 1 (.ref pq)) Z (updA B 10 f539) J K570.1 (fun q99 x99 => x99 = rep G a K570 q99) w 39 (at538 + 1) sz (by omega) (by omega) (by decide) hO) (gV pw_797 pw_798 pw_799 pw_796 pw_789) hV_X8_takeIf qr587 5 hqr588 rfl rfl rfl (Nat.le_of_ble_eq_true rfl) dX8_head_188 ⟨(by show (((3 + 2 * np) + 1) + 1) + 0 ≤ (2 * (sz - at9) + 10); omega), (by show (((120 + 11 * np + 4 * cp2) + 11) + (4 * d571)) + 0 ≤ (60 * (sz - at9) + 400); omega)⟩ ⟨Nat.le_of_ble_eq_true rfl, Nat.le_of_ble_eq_true rfl⟩ (fun v586 u584 H locs hw585 hP hD hS => ?_)
                    obtain ⟨w, r589⟩ := u584
                    obtain ⟨hw585, h590, h591, hO⟩ := hw585
                    have h590 : r589 ≤ 1 := h590
                    have h591 : (at538 + 1) + r589 ≤ sz := h591
                    obtain rfl : v586 = some (.int (nI r589)) := hw585
                    have hO : OKP G h0 a (upd (upd F 2 (nI sz)) 9 (nI ((at538 + 1) + r589))) (updR R 1 (.ref pq)) Z (updA B 10 f539) J K570 w := hO.to rfl
                    refine W.widen (k := (((3 + 2 * np) + 1) + 1)) (n := (((120 + 11 * np + 4 * cp2) + 11) + (4 * d571))) (by show (((3 + 2 * np) + 1) + 1) + 0 ≤ (((3 + 2 * np) + 1) + 1); omega) (by show (((120 + 11 * np + 4 * cp2) + 11) + (4 * d571)) + 0 ≤ (((120 + 11 * np + 4 * cp2) + 11) + (4 * d571)); omega) ?_
                    refine W.eq (g2 := F0 m 191 ls [.int (nI r589)]) rfl ?_
                    refine lv_istore (lv' := [(5, .int (nI r589)), (8, .int (nI at2)), (7, .int 1), (6, .int (nI i2)), (4, .ref q2), (3, .int (nI tk)), (2, .int x1), (1, .ref d0), (0, .ref (a 3))]) hx hb dX8_head_191 hl (by decide) rfl (fun ls hl => ?_)
                    refine lv_iinc (v := (nI (i2 + 1))) (lv' := [(6, .int (nI (i2 + 1))), (5, .int (nI r589)), (8, .int (nI at2)), (7, .int 1), (4, .ref q2), (3, .int (nI tk)), (2, .int x1), (1, .ref d0), (0, .ref (a 3))]) hx hb dX8_head_193 hl (k := 3) rfl (nI_1 i2) (by decide) rfl (fun ls hl => ?_)
                    refine lv_goto (tgt := 77) hx hb dX8_head_196 (by decide) ?_
                    refine W.widen (k := (3 + 2 * (np + 1))) (n := (120 + 11 * (np + 1) + 4 * (cp2 + d571))) (by show (((3 + 2 * np) + 1) + 1) ≤ _; omega) (by show (((120 + 11 * np + 4 * cp2) + 11) + (4 * d571)) ≤ _; omega) ?_
                    have hO : OKP G h0 a (upd (upd F 2 (nI sz)) 9 (nI ((at538 + 1) + r589))) (updR R 1 (.ref pq)) Z (updA B 10 f539) J K570 w := hO.to rfl
                    exact ih_i (i2 + 1) ((at538 + 1) + r589) f539 (nI r589) K570 g554 q2 f2 (np + 1) (cp2 + d571) (upQ it2 np r552) s2 _ _ _ _ (by omega) (by omega) (by omega) hwp578 hps579 (by omega) hf580 hf581 (((AdQ.sm h573 (by rw [hf557]; decide) (fun z => by have z2 := hf557; rw [z, hf559] at z2; exact absurd z2 (by decide)) (by rw [hf557]; decide)).2.2.1 6).trans ((h555.2.1.1 q2 (by rw [hq2]; decide)).2.2.1 6 |>.trans hc62)) hg577 h572 (by omega) hon9 hP hD hS hO (lv_sub hl [0, 1, 4, 5, 6, 7, 8] rfl)
                  · have n592 : ¬ (np < 8) := fun h9 => c531 ((nI_ltI (a := np) (b := 8) (by omega) (by omega)).mpr h9)
                    refine lv_aload_n hx hb dX8_head_145 rfl (lv_at hl 7 rfl) ?_
                    refine c_get (v := .ref (a 1)) (C := RX8) (Tc := TX8) (N := 5) (ci := 5) hx hb hq pin_wsX80 hown hE hP hO 23 (sg_23 G h0 a _ _ _ _ _) rfl 0 (by decide) (hq _ pw_774) (fun _ h9 => h9) rfl dX8_head_146 ?_
                    refine lv_iconst (v := 2) hx hb dX8_head_149 (by decide) ?_
                    refine lv_aload_n hx hb dX8_head_150 rfl (lv_at hl 7 rfl) ?_
                    refine c_get (v := .int (nI at2)) (C := RX8) (Tc := TX8) (N := 5) (ci := 5) hx hb hq pin_wsX80 hown hE hP hO 23 (sg_23 G h0 a _ _ _ _ _) rfl 2 (by decide) (hq _ pw_776) (fun _ h9 => h9) rfl dX8_head_151 ?_
                    have hO : OKW G h0 a (upd (upd (upd (upd F 2 (nI sz)) 9 (nI at9)) 9 (nI at2)) 2 (nI sz)) (updR R 1 (.ref pq)) Z (updA B 10 f9) J K2.1 (fun q99 x99 => x99 = rep G a K2 q99) w := hO.to rfl
                    obtain ⟨_, qr596, hqr597⟩ := hO.2.1 2 _ (sg_2 G h0 a _ _ _ _ _)
                    refine pn_V0 (G := G) (As := [.int 2, .int (nI at2)]) (rest := []) hx hb hml hown hq hE hX pX0_al hP hD hS hA hl.1 (K_fail l G h0 a (upd (upd (upd F 2 (nI sz)) 9 (nI at9)) 9 (nI at2)) (updR R 1 (.ref pq)) Z (updA B 10 f9) J K2.1 (fun q99 x99 => x99 = rep G a K2 q99) w 2 (nI at2) sz (by omega) hO hl0) (gV pw_779 pw_65 pw_66 pw_59 pw_43) hV_X10_fail qr596 7 hqr597 rfl rfl rfl (Nat.le_of_ble_eq_true rfl) dX8_head_154 ⟨(by show (3 + 2 * np) + 1 ≤ (2 * (sz - at9) + 10); omega), (by show (120 + 11 * np + 4 * cp2) + 6 ≤ (60 * (sz - at9) + 400); omega)⟩ ⟨Nat.le_of_ble_eq_true rfl, Nat.le_of_ble_eq_true rfl⟩ (fun v595 u593 H locs hw594 hP hD hS => hw594.elim) (fun ux ce9 q9 H9 locs9 hux hP9 hD9 hS9 hce hcv hcl => pb_out ux (ThQ.up (Thx.same (Thx.b (Thx.f Thx.rfl (by omega)) (by omega) (by decide)) rfl) RhX.rfl hux) hnt hlocks hce hcv hcl hP9 hD9 hS9 (by show (3 + 2 * np) + 1 ≤ (2 * (sz - at9) + 10); omega) (by show (120 + 11 * np + 4 * cp2) + 6 ≤ (60 * (sz - at9) + 400); omega))
                · have n598 : r521 = 0 := (nI_eq (a := r521) (b := 0) (by omega) (by omega)).mp c523
                  refine lv_aload_n hx hb dX8_head_111 rfl (lv_at hl 6 rfl) ?_
                  refine lv_bipush (v := 65) hx hb dX8_head_112 (by decide) ?_
                  have hO : OKW G h0 a (upd (upd (upd (upd F 2 (nI sz)) 9 (nI at2)) 2 (nI sz)) 9 (nI at2)) (updR R 1 (.ref pq)) Z (updA B 10 f9) J K2.1 (fun q99 x99 => x99 = rep G a K2 q99) w := hO.to rfl
                  obtain ⟨_, qr602, hqr603⟩ := hO.2.1 23 _ (sg_23 G h0 a _ _ _ _ _)
                  refine pc_V0 (G := G) (As := [.int 65]) (rest := []) hx hb hml hown hq hE hX pX0_al hP hD hS hA hl.1 (P_sees l G h0 a (upd (upd F 2 (nI sz)) 9 (nI at2)) (updR R 1 (.ref pq)) Z (updA B 10 f9) J K2.1 (fun q99 x99 => x99 = rep G a K2 q99) w 65 at2 sz (by omega) (by omega) hO) (gV pw_803 pw_804 pw_805 pw_796 pw_775) hV_X8_sees qr602 5 hqr603 rfl rfl rfl (Nat.le_of_ble_eq_true rfl) dX8_head_114 ⟨(by show (3 + 2 * np) + 0 ≤ (2 * (sz - at9) + 10); omega), (by show (120 + 11 * np + 4 * cp2) + 0 ≤ (60 * (sz - at9) + 400); omega)⟩ ⟨Nat.le_of_ble_eq_true rfl, Nat.le_of_ble_eq_true rfl⟩ (fun v601 u599 H locs hw600 hP hD hS => ?_)
                  obtain ⟨w, r604⟩ := u599
                  obtain ⟨hw600, h605, hO⟩ := hw600
                  have h605 : r604 ≤ 1 := h605
                  obtain rfl : v601 = some (.int (nI r604)) := hw600
                  have hO : OKP G h0 a (upd (upd F 2 (nI sz)) 9 (nI at2)) (updR R 1 (.ref pq)) Z (updA B 10 f9) J K2 w := hO.to rfl
                  refine W.widen (k := (3 + 2 * np)) (n := (120 + 11 * np + 4 * cp2)) (by show (3 + 2 * np) + 0 ≤ (3 + 2 * np); omega) (by show (120 + 11 * np + 4 * cp2) + 0 ≤ (120 + 11 * np + 4 * cp2); omega) ?_
                  refine W.eq (g2 := F0 m 117 ls [.int (nI r604)]) rfl ?_
                  refine lv_if_eq (tgt := 124) hx hb dX8_head_117 (by decide) (fun c606 => ?_) (fun c606 => ?_)
                  · have n607 : r604 = 0 := (nI_eq (a := r604) (b := 0) (by omega) (by omega)).mp c606
                    refine lv_iconst (v := 0) hx hb dX8_head_124 (by decide) ?_
                    refine lv_istore (lv' := [(7, .int 0), (6, .int (nI i2)), (5, .int mo2), (4, .ref q2), (3, .int (nI tk)), (2, .int x1), (1, .ref d0), (0, .ref (a 3))]) hx hb dX8_head_125 hl (by decide) rfl (fun ls hl => ?_)
                    refine lv_iload hx hb dX8_head_127 (lv_at hl 0 rfl) ?_
                    refine lv_if_eq (tgt := 157) hx hb dX8_head_129 (by decide) (fun c608 => ?_) (fun c608 => absurd c608 (by decide))
                    refine lv_aload_n hx hb dX8_head_157 rfl (lv_at hl 7 rfl) ?_
                    refine lv_iconst (v := 1) hx hb dX8_head_158 (by decide) ?_
                    have hO : OKW G h0 a (upd (upd (upd (upd (upd F 2 (nI sz)) 9 (nI at9)) 9 (nI at2)) 2 (nI sz)) 9 (nI at2)) (updR R 1 (.ref pq)) Z (updA B 10 f9) J K2.1 (fun q99 x99 => x99 = rep G a K2 q99) w := hO.to rfl
                    obtain ⟨_, qr612, hqr613⟩ := hO.2.1 23 _ (sg_23 G h0 a _ _ _ _ _)
                    refine pn_V0 (G := G) (As := [.int 1]) (rest := []) hx hb hml hown hq hE hX pX0_al hP hD hS hA hl.1 (P_takeType l G h0 a (upd (upd (upd F 2 (nI sz)) 9 (nI at9)) 9 (nI at2)) (updR R 1 (.ref pq)) Z (updA B 10 f9) J K2.1 (fun q99 x99 => x99 = rep G a K2 q99) w 1 at2 sz (by omega) (by omega) hO hl0) (gV pw_825 pw_826 pw_827 pw_796 pw_821) hV_X8_takeType qr612 5 hqr613 rfl rfl rfl (Nat.le_of_ble_eq_true rfl) dX8_head_159 ⟨(by show (3 + 2 * np) + 1 ≤ (2 * (sz - at9) + 10); omega), (by show (120 + 11 * np + 4 * cp2) + 6 ≤ (60 * (sz - at9) + 400); omega)⟩ ⟨Nat.le_of_ble_eq_true rfl, Nat.le_of_ble_eq_true rfl⟩ (fun v611 u609 H locs hw610 hP hD hS => ?_) (fun ux ce9 q9 H9 locs9 hux hP9 hD9 hS9 hce hcv hcl => pb_out ux (ThQ.up (Thx.same (Thx.same (Thx.b (Thx.f Thx.rfl (by omega)) (by omega) (by decide)) rfl) rfl) RhX.rfl hux) hnt hlocks hce hcv hcl hP9 hD9 hS9 (by show (3 + 2 * np) + 1 ≤ (2 * (sz - at9) + 10); omega) (by show (120 + 11 * np + 4 * cp2) + 6 ≤ (60 * (sz - at9) + 400); omega))
                    obtain ⟨w, at614, f615⟩ := u609
                    obtain ⟨hw610, h616, hO⟩ := hw610
                    have h616 : at2 + 1 ≤ at614 ∧ at614 ≤ sz := h616
                    obtain rfl : v611 = some (.int (nI at2)) := hw610
                    have hO : OKP G h0 a (upd (upd F 2 (nI sz)) 9 (nI at614)) (updR R 1 (.ref pq)) Z (updA B 10 f615) J K2 w := hO.to rfl
                    refine W.widen (k := (3 + 2 * np)) (n := (120 + 11 * np + 4 * cp2)) (by show (3 + 2 * np) + 0 ≤ (3 + 2 * np); omega) (by show (120 + 11 * np + 4 * cp2) + 0 ≤ (120 + 11 * np + 4 * cp2); omega) ?_
                    refine W.eq (g2 := F0 m 162 ls [.int (nI at2)]) rfl ?_
                    refine lv_istore (lv' := [(8, .int (nI at2)), (7, .int 0), (6, .int (nI i2)), (5, .int mo2), (4, .ref q2), (3, .int (nI tk)), (2, .int x1), (1, .ref d0), (0, .ref (a 3))]) hx hb dX8_head_162 hl (by decide) rfl (fun ls hl => ?_)
                    refine lv_aload hx hb dX8_head_164 (lv_at hl 4 rfl) ?_
                    refine p_get (v := .ref f2) (C := RX6) (Tc := TX6) (N := 12) (ci := 12) hx hb hq pin_wsX60 hown hE hP hO (by rw [hq2]; decide) (rep_3 hq2) rfl 4 (by decide) (hq _ pw_881) (fun _ h9 => h9) (congrArg (fun z => some (va_rf z)) hc62) dX8_head_166 ?_
                    refine lv_aload_n hx hb dX8_head_169 rfl (lv_at hl 8 rfl) ?_
                    refine lv_iload hx hb dX8_head_170 (lv_at hl 0 rfl) ?_
                    refine lv_aload_n hx hb dX8_head_172 rfl (lv_at hl 8 rfl) ?_
                    refine lv_bipush (v := 65) hx hb dX8_head_173 (by decide) ?_
                    have hO : OKW G h0 a (upd (upd (upd (upd (upd F 2 (nI sz)) 9 (nI at9)) 9 (nI at614)) 2 (nI sz)) 9 (nI at614)) (updR R 1 (.ref pq)) Z (updA B 10 f615) J K2.1 (fun q99 x99 => x99 = rep G a K2 q99) w := hO.to rfl
                    obtain ⟨_, qr620, hqr621⟩ := hO.2.1 23 _ (sg_23 G h0 a _ _ _ _ _)
                    refine pn_V0 (G := G) (As := [.int 65]) (rest := [.int (nI at2), .ref (a 3), .ref f2]) hx hb hml hown hq hE hX pX0_al hP hD hS hA hl.1 (P_take l G h0 a (upd (upd (upd F 2 (nI sz)) 9 (nI at9)) 9 (nI at614)) (updR R 1 (.ref pq)) Z (updA B 10 f615) J K2.1 (fun q99 x99 => x99 = rep G a K2 q99) w 65 at614 sz (by omega) (by omega) (by decide) hO hl0) (gV pw_793 pw_794 pw_795 pw_796 pw_781) hV_X8_take qr620 5 hqr621 rfl rfl rfl (Nat.le_of_ble_eq_true rfl) dX8_head_175 ⟨(by show (3 + 2 * np) + 1 ≤ (2 * (sz - at9) + 10); omega), (by show (120 + 11 * np + 4 * cp2) + 6 ≤ (60 * (sz - at9) + 400); omega)⟩ ⟨Nat.le_of_ble_eq_true rfl, Nat.le_of_ble_eq_true rfl⟩ (fun v619 u617 H locs hw618 hP hD hS => ?_) (fun ux ce9 q9 H9 locs9 hux hP9 hD9 hS9 hce hcv hcl => pb_out ux (ThQ.up (Thx.same (Thx.same (Thx.b (Thx.f Thx.rfl (by omega)) (by omega) (by decide)) rfl) rfl) RhX.rfl hux) hnt hlocks hce hcv hcl hP9 hD9 hS9 (by show (3 + 2 * np) + 1 ≤ (2 * (sz - at9) + 10); omega) (by show (120 + 11 * np + 4 * cp2) + 6 ≤ (60 * (sz - at9) + 400); omega))
                    obtain ⟨w, _⟩ := u617
                    obtain ⟨hw618, h622, hO⟩ := hw618
                    have h622 : at614 + 1 ≤ sz := h622
                    obtain rfl : v619 = some (.int (nI at614)) := hw618
                    have hO : OKP G h0 a (upd (upd F 2 (nI sz)) 9 (nI (at614 + 1))) (updR R 1 (.ref pq)) Z (updA B 10 f615) J K2 w := hO.to rfl
                    refine W.widen (k := (3 + 2 * np)) (n := (120 + 11 * np + 4 * cp2)) (by show (3 + 2 * np) + 0 ≤ (3 + 2 * np); omega) (by show (120 + 11 * np + 4 * cp2) + 0 ≤ (120 + 11 * np + 4 * cp2); omega) ?_
                    refine W.eq (g2 := F0 m 178 ls [.int (nI at614), .int (nI at2), .ref (a 3), .ref f2]) rfl ?_
                    have hO : OKP G h0 a (upd (upd (upd F 2 (nI sz)) 9 (nI (at614 + 1))) 2 (nI sz)) (updR R 1 (.ref pq)) Z (updA B 10 f615) J K2 w := hO.to rfl
                    obtain ⟨_, qr626, hqr627⟩ := hO.2.1 23 _ (sg_23 G h0 a _ _ _ _ _)
                    refine pc_V0 (G := G) (As := [.int (nI at2), .int (nI at614)]) (rest := [.ref f2]) hx hb hml hown hq hE hX pX0_al hP hD hS hA hl.1 (P_variable l G h0 a (upd (upd F 2 (nI sz)) 9 (nI (at614 + 1))) (updR R 1 (.ref pq)) Z (updA B 10 f615) J K2 w (nI at2) (nI at614) sz 0 0 g2 (by omega) hwp2.1 (fun o9 h9 => absurd h9 (by omega)) (by omega) hO) (gV pw_888 pw_889 pw_890 pw_796 pw_869) hV_X8_variable qr626 5 hqr627 rfl rfl rfl (Nat.le_of_ble_eq_true rfl) dX8_head_178 ⟨(by show (3 + 2 * np) + 1 ≤ (2 * (sz - at9) + 10); omega), (by show (120 + 11 * np + 4 * cp2) + 11 ≤ (60 * (sz - at9) + 400); omega)⟩ ⟨Nat.le_of_ble_eq_true rfl, Nat.le_of_ble_eq_true rfl⟩ (fun v625 u623 H locs hw624 hP hD hS => ?_)
                    obtain ⟨w, r628, K629, g630⟩ := u623
                    obtain ⟨hw624, h631, h632, hO⟩ := hw624
                    have h631 : NwR K2 K629 g2 g630 r628 0 0 1 := h631
                    have h632 : K629.2.1 0 r628 = 36 := h632
                    obtain rfl : v625 = some (.ref r628) := hw624
                    have hf633 : K629.1 q2 = 3 := (((h631).2.1.1 q2 (by rw [hq2]; decide)).1).trans hq2
                    have hf634 : K629.1 d0 = 4 := (((h631).2.1.1 d0 (by rw [hd2]; decide)).1).trans hd2
                    have hf635 : K629.1 f2 = 5 := (((h631).2.1.1 f2 (by rw [ht2]; decide)).1).trans ht2
                    have hf636 : K629.2.2.1 6 q2 = some f2 := (((h631).2.1.1 q2 (by rw [hq2]; decide)).2.2.1 6).trans hc62
                    have hO : OKP G h0 a (upd (upd F 2 (nI sz)) 9 (nI (at614 + 1))) (updR R 1 (.ref pq)) Z (updA B 10 f615) J K629 w := hO.to rfl
                    refine W.widen (k := ((3 + 2 * np) + 1)) (n := ((120 + 11 * np + 4 * cp2) + 11)) (by show (3 + 2 * np) + 1 ≤ ((3 + 2 * np) + 1); omega) (by show (120 + 11 * np + 4 * cp2) + 11 ≤ ((120 + 11 * np + 4 * cp2) + 11); omega) ?_
                    refine W.eq (g2 := F0 m 181 ls [.ref r628, .ref f2]) rfl ?_
                    have hwp637 := WPr.nd hwp2 h631
                    have hps638 := PgS.nd hps2 hwp2 h631
                    have hf639 : K629.1 r628 = 1 := h631.2.2.1.2.1
                    have hlc640 : LsC G K629 f2 1 np it2 cp2 := (LsC.wx (fun p hp => (h631.2.1.1 p hp).1) (by decide) (h631.2.1.1 f2 (by rw [ht2]; decide)) (fun e he _ => h631.2.1.1 e (by rw [he]; decide)) hlc2)
                    have hO : OKP G h0 a (upd (upd (upd F 2 (nI sz)) 9 (nI at9)) 9 (nI (at614 + 1))) (updR R 1 (.ref pq)) Z (updA B 10 f615) J K629 w := hO.to rfl
                    obtain ⟨qr644, hqr645⟩ := p_recv hO (by rw [hf635]; decide) (rep_5 hf635)
                    refine pn_V0 (G := G) (As := [.ref r628]) (rest := []) hx hb hml hown hq hE hX pX0_al hP hD hS hA hl.1 (L_addC l G h0 a (upd (upd (upd F 2 (nI sz)) 9 (nI at9)) 9 (nI (at614 + 1))) (updR R 1 (.ref pq)) Z (updA B 10 f615) J K629 w f2 1 np it2 cp2 r628 hlc640 (by decide) hf639 (by omega) (by omega) hO hl0) (gV pw_885 pw_886 pw_887 pw_32 pw_868) hV_Jx4a65c_add_9ea2d qr644 10 hqr645 rfl rfl rfl (Nat.le_of_ble_eq_true rfl) dX8_head_181 ⟨(by show ((3 + 2 * np) + 1) + 1 ≤ (2 * (sz - at9) + 10); omega), (by show ((120 + 11 * np + 4 * cp2) + 11) + (10 + np + np / 2) ≤ (60 * (sz - at9) + 400); omega)⟩ ⟨Nat.le_of_ble_eq_true rfl, Nat.le_of_ble_eq_true rfl⟩ (fun v643 u641 H locs hw642 hP hD hS => ?_) (fun ux ce9 q9 H9 locs9 hux hP9 hD9 hS9 hce hcv hcl => pb_out ux (ThQ.up (Thx.b (Thx.f Thx.rfl (by omega)) (by omega) (by decide)) RhX.rfl hux) hnt hlocks hce hcv hcl hP9 hD9 hS9 (by show ((3 + 2 * np) + 1) + 1 ≤ (2 * (sz - at9) + 10); omega) (by show ((120 + 11 * np + 4 * cp2) + 11) + (10 + np + np / 2) ≤ (60 * (sz - at9) + 400); omega))
                    obtain ⟨w, K646, d647⟩ := u641
                    obtain ⟨hw642, h648, h649, h650, h651, h652, hO⟩ := hw642
                    have h648 : LsC G K646 f2 1 (np + 1) (upQ it2 np r628) (cp2 + d647) := h648
                    have h649 : AdQ K629 K646 f2 := h649
                    have h650 : N6 K629 K646 := h650
                    have h651 : cp2 + d647 ≤ 10 + 2 * (np + 1) := h651
                    have h652 : d647 ≤ 10 + np / 2 := h652
                    obtain rfl : v643 = some (.int 1) := hw642
                    have hO : OKP G h0 a (upd (upd F 2 (nI sz)) 9 (nI (at614 + 1))) (updR R 1 (.ref pq)) Z (updA B 10 f615) J K646 w := hO.to rfl
                    refine W.widen (k := (((3 + 2 * np) + 1) + 1)) (n := (((120 + 11 * np + 4 * cp2) + 11) + (4 * d647))) (by show ((3 + 2 * np) + 1) + 1 ≤ (((3 + 2 * np) + 1) + 1); omega) (by show ((120 + 11 * np + 4 * cp2) + 11) + (4 * d647) ≤ (((120 + 11 * np + 4 * cp2) + 11) + (4 * d647)); omega) ?_
                    refine W.eq (g2 := F0 m 184 ls [.int 1]) rfl ?_
                    have hg653 : g630 3 f2 = 3 := (h631.2.1.2 f2 (by rw [ht2]; decide) 3).trans hr2
                    have hwp654 : WPr G K646 g630 := WPr.add hwp637 h649 h650 hf635 (by rw [hg653]; exact h648) (by rw [hg653]; show _ ≤ 5000 ∧ _; omega)
                    have hps655 : PgS G K646 g630 (a 1) pq dr ml nd nm cp it s2 := by have z9 := PgS.add hps638 hwp637 h649 h650 hf635 (fun z => by have z2 := hg653; rw [z, hps638.1.2.2.2.2.2.2.1] at z2; exact absurd z2 (by decide)) (by rw [szL_of h648, szL_of hlc640]) (by rw [hg653]; decide) (by rw [hg653]; decide) (fun z => by rw [hg653] at z; exact absurd z (by decide)); rw [hg653] at z9; exact z9
                    have hf656 : K646.1 q2 = 3 := (h649.1 q2 (by rw [hf633]; decide)).1.trans hf633
                    have hf657 : K646.1 d0 = 4 := (h649.1 d0 (by rw [hf634]; decide)).1.trans hf634
                    have hf658 : K646.1 f2 = 5 := (h649.1 f2 (by rw [hf635]; decide)).1.trans hf635
                    have hf659 : K646.1 r628 = 1 := (h649.1 r628 (by rw [hf639]; decide)).1.trans hf639
                    have hon9 : Onc K646 dr nd q2 := Onc.add (Onc.ext hon2 hps2.2.1 hwp2 hps2.1.2.2.2.1 h631.2.1.1) hps638.2.1 hwp637 hps638.1.2.2.2.1 h649 hf635 (by rw [hg653]; decide)
                    refine lv_pop hx hb dX8_head_184 rfl ?_
                    refine lv_aload_n hx hb dX8_head_185 rfl (lv_at hl 8 rfl) ?_
                    refine lv_bipush (v := 39) hx hb dX8_head_186 (by decide) ?_
                    have hO : OKW G h0 a (upd (upd (upd (upd F 2 (nI sz)) 9 (nI (at614 + 1))) 2 (nI sz)) 9 (nI (at614 + 1))) (updR R 1 (.ref pq)) Z (updA B 10 f615) J K646.1 (fun q99 x99 => x99 = rep G a K646 q99) w := hO.to rfl
                    obtain ⟨_, qr663, hqr664⟩ := hO.2.1 23 _ (sg_23 G h0 a _ _ _ _ _)
                    refine pc_V0 (G := G) (As := [.int 39]) (rest := []) hx hb hml hown hq hE hX pX0_al hP hD hS hA hl.1 (P_takeIf l G h0 a (upd (upd F 2 (nI sz)) 9 (nI (at614 + 1))) (updR R 1 (.ref pq)) Z (updA B 10 f615) J K646.1 (fun q99 x99 => x99 = rep G a K646 q99) w 39 (at614 + 1) sz (by omega) (by omega) (by decide) hO) (gV pw_797 pw_798 pw_799 pw_796 pw_789) hV_X8_takeIf qr663 5 hqr664 rfl rfl rfl (Nat.le_of_ble_eq_true rfl) dX8_head_188 ⟨(by show (((3 + 2 * np) + 1) + 1) + 0 ≤ (2 * (sz - at9) + 10); omega), (by show (((120 + 11 * np + 4 * cp2) + 11) + (4 * d647)) + 0 ≤ (60 * (sz - at9) + 400); omega)⟩ ⟨Nat.le_of_ble_eq_true rfl, Nat.le_of_ble_eq_true rfl⟩ (fun v662 u660 H locs hw661 hP hD hS => ?_)
                    obtain ⟨w, r665⟩ := u660
                    obtain ⟨hw661, h666, h667, hO⟩ := hw661
                    have h666 : r665 ≤ 1 := h666
                    have h667 : (at614 + 1) + r665 ≤ sz := h667
                    obtain rfl : v662 = some (.int (nI r665)) := hw661
                    have hO : OKP G h0 a (upd (upd F 2 (nI sz)) 9 (nI ((at614 + 1) + r665))) (updR R 1 (.ref pq)) Z (updA B 10 f615) J K646 w := hO.to rfl
                    refine W.widen (k := (((3 + 2 * np) + 1) + 1)) (n := (((120 + 11 * np + 4 * cp2) + 11) + (4 * d647))) (by show (((3 + 2 * np) + 1) + 1) + 0 ≤ (((3 + 2 * np) + 1) + 1); omega) (by show (((120 + 11 * np + 4 * cp2) + 11) + (4 * d647)) + 0 ≤ (((120 + 11 * np + 4 * cp2) + 11) + (4 * d647)); omega) ?_
                    refine W.eq (g2 := F0 m 191 ls [.int (nI r665)]) rfl ?_
                    refine lv_istore (lv' := [(5, .int (nI r665)), (8, .int (nI at2)), (7, .int 0), (6, .int (nI i2)), (4, .ref q2), (3, .int (nI tk)), (2, .int x1), (1, .ref d0), (0, .ref (a 3))]) hx hb dX8_head_191 hl (by decide) rfl (fun ls hl => ?_)
                    refine lv_iinc (v := (nI (i2 + 1))) (lv' := [(6, .int (nI (i2 + 1))), (5, .int (nI r665)), (8, .int (nI at2)), (7, .int 0), (4, .ref q2), (3, .int (nI tk)), (2, .int x1), (1, .ref d0), (0, .ref (a 3))]) hx hb dX8_head_193 hl (k := 3) rfl (nI_1 i2) (by decide) rfl (fun ls hl => ?_)
                    refine lv_goto (tgt := 77) hx hb dX8_head_196 (by decide) ?_
                    refine W.widen (k := (3 + 2 * (np + 1))) (n := (120 + 11 * (np + 1) + 4 * (cp2 + d647))) (by show (((3 + 2 * np) + 1) + 1) ≤ _; omega) (by show (((120 + 11 * np + 4 * cp2) + 11) + (4 * d647)) ≤ _; omega) ?_
                    have hO : OKP G h0 a (upd (upd F 2 (nI sz)) 9 (nI ((at614 + 1) + r665))) (updR R 1 (.ref pq)) Z (updA B 10 f615) J K646 w := hO.to rfl
                    exact ih_i (i2 + 1) ((at614 + 1) + r665) f615 (nI r665) K646 g630 q2 f2 (np + 1) (cp2 + d647) (upQ it2 np r628) s2 _ _ _ _ (by omega) (by omega) (by omega) hwp654 hps655 (by omega) hf656 hf657 (((AdQ.sm h649 (by rw [hf633]; decide) (fun z => by have z2 := hf633; rw [z, hf635] at z2; exact absurd z2 (by decide)) (by rw [hf633]; decide)).2.2.1 6).trans ((h631.2.1.1 q2 (by rw [hq2]; decide)).2.2.1 6 |>.trans hc62)) hg653 h648 (by omega) hon9 hP hD hS hO (lv_sub hl [0, 1, 4, 5, 6, 7, 8] rfl)
                  · have n668 : ¬ (r604 = 0) := fun h9 => c606 ((nI_eq (a := r604) (b := 0) (by omega) (by omega)).mpr h9)
                    refine lv_iconst (v := 1) hx hb dX8_head_120 (by decide) ?_
                    refine lv_goto (tgt := 125) hx hb dX8_head_121 (by decide) ?_
                    refine lv_istore (lv' := [(7, .int 1), (6, .int (nI i2)), (5, .int mo2), (4, .ref q2), (3, .int (nI tk)), (2, .int x1), (1, .ref d0), (0, .ref (a 3))]) hx hb dX8_head_125 hl (by decide) rfl (fun ls hl => ?_)
                    refine lv_iload hx hb dX8_head_127 (lv_at hl 0 rfl) ?_
                    refine lv_if_eq (tgt := 157) hx hb dX8_head_129 (by decide) (fun c669 => absurd c669 (by decide)) (fun c669 => ?_)
                    refine lv_aload hx hb dX8_head_132 (lv_at hl 3 rfl) ?_
                    refine p_get (v := .ref f2) (C := RX6) (Tc := TX6) (N := 12) (ci := 12) hx hb hq pin_wsX60 hown hE hP hO (by rw [hq2]; decide) (rep_3 hq2) rfl 4 (by decide) (hq _ pw_881) (fun _ h9 => h9) (congrArg (fun z => some (va_rf z)) hc62) dX8_head_134 ?_
                    have hO : OKP G h0 a (upd (upd F 2 (nI sz)) 9 (nI at2)) (updR R 1 (.ref pq)) Z (updA B 10 f9) J K2 w := hO.to rfl
                    obtain ⟨qr673, hqr674⟩ := p_recv hO (by rw [ht2]; decide) (rep_5 ht2)
                    refine pc_V0 (G := G) (As := []) (rest := []) hx hb hml hown hq hE hX pX0_al hP hD hS hA hl.1 (L_size l G h0 a (upd (upd F 2 (nI sz)) 9 (nI at2)) (updR R 1 (.ref pq)) Z (updA B 10 f9) J K2 w f2 1 np it2 hlc2.ls hO) (gV pw_882 pw_87 pw_88 pw_32 pw_16) hV_Jx4a65c_size_8abf5 qr673 10 hqr674 rfl rfl rfl (Nat.le_of_ble_eq_true rfl) dX8_head_137 ⟨(by show (3 + 2 * np) + 0 ≤ (2 * (sz - at9) + 10); omega), (by show (120 + 11 * np + 4 * cp2) + 0 ≤ (60 * (sz - at9) + 400); omega)⟩ ⟨Nat.le_of_ble_eq_true rfl, Nat.le_of_ble_eq_true rfl⟩ (fun v672 u670 H locs hw671 hP hD hS => ?_)
                    obtain ⟨w, _⟩ := u670
                    obtain ⟨hw671, hO⟩ := hw671
                    obtain rfl : v672 = some (.int (nI np)) := hw671
                    have hO : OKP G h0 a (upd (upd F 2 (nI sz)) 9 (nI at2)) (updR R 1 (.ref pq)) Z (updA B 10 f9) J K2 w := hO.to rfl
                    refine W.widen (k := (3 + 2 * np)) (n := (120 + 11 * np + 4 * cp2)) (by show (3 + 2 * np) + 0 ≤ (3 + 2 * np); omega) (by show (120 + 11 * np + 4 * cp2) + 0 ≤ (120 + 11 * np + 4 * cp2); omega) ?_
                    refine W.eq (g2 := F0 m 140 ls [.int (nI np)]) rfl ?_
                    refine lv_bipush (v := 8) hx hb dX8_head_140 (by decide) ?_
                    refine lv_icmp_lt (tgt := 157) hx hb dX8_head_142 (by decide) (fun c675 => ?_) (fun c675 => ?_)
                    · have n676 : np < 8 := (nI_ltI (a := np) (b := 8) (by omega) (by omega)).mp c675
                      refine lv_aload_n hx hb dX8_head_157 rfl (lv_at hl 7 rfl) ?_
                      refine lv_iconst (v := 1) hx hb dX8_head_158 (by decide) ?_
                      have hO : OKW G h0 a (upd (upd (upd (upd (upd F 2 (nI sz)) 9 (nI at9)) 9 (nI at2)) 2 (nI sz)) 9 (nI at2)) (updR R 1 (.ref pq)) Z (updA B 10 f9) J K2.1 (fun q99 x99 => x99 = rep G a K2 q99) w := hO.to rfl
                      obtain ⟨_, qr680, hqr681⟩ := hO.2.1 23 _ (sg_23 G h0 a _ _ _ _ _)
                      refine pn_V0 (G := G) (As := [.int 1]) (rest := []) hx hb hml hown hq hE hX pX0_al hP hD hS hA hl.1 (P_takeType l G h0 a (upd (upd (upd F 2 (nI sz)) 9 (nI at9)) 9 (nI at2)) (updR R 1 (.ref pq)) Z (updA B 10 f9) J K2.1 (fun q99 x99 => x99 = rep G a K2 q99) w 1 at2 sz (by omega) (by omega) hO hl0) (gV pw_825 pw_826 pw_827 pw_796 pw_821) hV_X8_takeType qr680 5 hqr681 rfl rfl rfl (Nat.le_of_ble_eq_true rfl) dX8_head_159 ⟨(by show (3 + 2 * np) + 1 ≤ (2 * (sz - at9) + 10); omega), (by show (120 + 11 * np + 4 * cp2) + 6 ≤ (60 * (sz - at9) + 400); omega)⟩ ⟨Nat.le_of_ble_eq_true rfl, Nat.le_of_ble_eq_true rfl⟩ (fun v679 u677 H locs hw678 hP hD hS => ?_) (fun ux ce9 q9 H9 locs9 hux hP9 hD9 hS9 hce hcv hcl => pb_out ux (ThQ.up (Thx.same (Thx.same (Thx.b (Thx.f Thx.rfl (by omega)) (by omega) (by decide)) rfl) rfl) RhX.rfl hux) hnt hlocks hce hcv hcl hP9 hD9 hS9 (by show (3 + 2 * np) + 1 ≤ (2 * (sz - at9) + 10); omega) (by show (120 + 11 * np + 4 * cp2) + 6 ≤ (60 * (sz - at9) + 400); omega))
                      obtain ⟨w, at682, f683⟩ := u677
                      obtain ⟨hw678, h684, hO⟩ := hw678
                      have h684 : at2 + 1 ≤ at682 ∧ at682 ≤ sz := h684
                      obtain rfl : v679 = some (.int (nI at2)) := hw678
                      have hO : OKP G h0 a (upd (upd F 2 (nI sz)) 9 (nI at682)) (updR R 1 (.ref pq)) Z (updA B 10 f683) J K2 w := hO.to rfl
                      refine W.widen (k := (3 + 2 * np)) (n := (120 + 11 * np + 4 * cp2)) (by show (3 + 2 * np) + 0 ≤ (3 + 2 * np); omega) (by show (120 + 11 * np + 4 * cp2) + 0 ≤ (120 + 11 * np + 4 * cp2); omega) ?_
                      refine W.eq (g2 := F0 m 162 ls [.int (nI at2)]) rfl ?_
                      refine lv_istore (lv' := [(8, .int (nI at2)), (7, .int 1), (6, .int (nI i2)), (5, .int mo2), (4, .ref q2), (3, .int (nI tk)), (2, .int x1), (1, .ref d0), (0, .ref (a 3))]) hx hb dX8_head_162 hl (by decide) rfl (fun ls hl => ?_)
                      refine lv_aload hx hb dX8_head_164 (lv_at hl 4 rfl) ?_
                      refine p_get (v := .ref f2) (C := RX6) (Tc := TX6) (N := 12) (ci := 12) hx hb hq pin_wsX60 hown hE hP hO (by rw [hq2]; decide) (rep_3 hq2) rfl 4 (by decide) (hq _ pw_881) (fun _ h9 => h9) (congrArg (fun z => some (va_rf z)) hc62) dX8_head_166 ?_
                      refine lv_aload_n hx hb dX8_head_169 rfl (lv_at hl 8 rfl) ?_
                      refine lv_iload hx hb dX8_head_170 (lv_at hl 0 rfl) ?_
                      refine lv_aload_n hx hb dX8_head_172 rfl (lv_at hl 8 rfl) ?_
                      refine lv_bipush (v := 65) hx hb dX8_head_173 (by decide) ?_
                      have hO : OKW G h0 a (upd (upd (upd (upd (upd F 2 (nI sz)) 9 (nI at9)) 9 (nI at682)) 2 (nI sz)) 9 (nI at682)) (updR R 1 (.ref pq)) Z (updA B 10 f683) J K2.1 (fun q99 x99 => x99 = rep G a K2 q99) w := hO.to rfl
                      obtain ⟨_, qr688, hqr689⟩ := hO.2.1 23 _ (sg_23 G h0 a _ _ _ _ _)
                      refine pn_V0 (G := G) (As := [.int 65]) (rest := [.int (nI at2), .ref (a 3), .ref f2]) hx hb hml hown hq hE hX pX0_al hP hD hS hA hl.1 (P_take l G h0 a (upd (upd (upd F 2 (nI sz)) 9 (nI at9)) 9 (nI at682)) (updR R 1 (.ref pq)) Z (updA B 10 f683) J K2.1 (fun q99 x99 => x99 = rep G a K2 q99) w 65 at682 sz (by omega) (by omega) (by decide) hO hl0) (gV pw_793 pw_794 pw_795 pw_796 pw_781) hV_X8_take qr688 5 hqr689 rfl rfl rfl (Nat.le_of_ble_eq_true rfl) dX8_head_175 ⟨(by show (3 + 2 * np) + 1 ≤ (2 * (sz - at9) + 10); omega), (by show (120 + 11 * np + 4 * cp2) + 6 ≤ (60 * (sz - at9) + 400); omega)⟩ ⟨Nat.le_of_ble_eq_true rfl, Nat.le_of_ble_eq_true rfl⟩ (fun v687 u685 H locs hw686 hP hD hS => ?_) (fun ux ce9 q9 H9 locs9 hux hP9 hD9 hS9 hce hcv hcl => pb_out ux (ThQ.up (Thx.same (Thx.same (Thx.b (Thx.f Thx.rfl (by omega)) (by omega) (by decide)) rfl) rfl) RhX.rfl hux) hnt hlocks hce hcv hcl hP9 hD9 hS9 (by show (3 + 2 * np) + 1 ≤ (2 * (sz - at9) + 10); omega) (by show (120 + 11 * np + 4 * cp2) + 6 ≤ (60 * (sz - at9) + 400); omega))
                      obtain ⟨w, _⟩ := u685
                      obtain ⟨hw686, h690, hO⟩ := hw686
                      have h690 : at682 + 1 ≤ sz := h690
                      obtain rfl : v687 = some (.int (nI at682)) := hw686
                      have hO : OKP G h0 a (upd (upd F 2 (nI sz)) 9 (nI (at682 + 1))) (updR R 1 (.ref pq)) Z (updA B 10 f683) J K2 w := hO.to rfl
                      refine W.widen (k := (3 + 2 * np)) (n := (120 + 11 * np + 4 * cp2)) (by show (3 + 2 * np) + 0 ≤ (3 + 2 * np); omega) (by show (120 + 11 * np + 4 * cp2) + 0 ≤ (120 + 11 * np + 4 * cp2); omega) ?_
                      refine W.eq (g2 := F0 m 178 ls [.int (nI at682), .int (nI at2), .ref (a 3), .ref f2]) rfl ?_
                      have hO : OKP G h0 a (upd (upd (upd F 2 (nI sz)) 9 (nI (at682 + 1))) 2 (nI sz)) (updR R 1 (.ref pq)) Z (updA B 10 f683) J K2 w := hO.to rfl
                      obtain ⟨_, qr694, hqr695⟩ := hO.2.1 23 _ (sg_23 G h0 a _ _ _ _ _)
                      refine pc_V0 (G := G) (As := [.int (nI at2), .int (nI at682)]) (rest := [.ref f2]) hx hb hml hown hq hE hX pX0_al hP hD hS hA hl.1 (P_variable l G h0 a (upd (upd F 2 (nI sz)) 9 (nI (at682 + 1))) (updR R 1 (.ref pq)) Z (updA B 10 f683) J K2 w (nI at2) (nI at682) sz 0 0 g2 (by omega) hwp2.1 (fun o9 h9 => absurd h9 (by omega)) (by omega) hO) (gV pw_888 pw_889 pw_890 pw_796 pw_869) hV_X8_variable qr694 5 hqr695 rfl rfl rfl (Nat.le_of_ble_eq_true rfl) dX8_head_178 ⟨(by show (3 + 2 * np) + 1 ≤ (2 * (sz - at9) + 10); omega), (by show (120 + 11 * np + 4 * cp2) + 11 ≤ (60 * (sz - at9) + 400); omega)⟩ ⟨Nat.le_of_ble_eq_true rfl, Nat.le_of_ble_eq_true rfl⟩ (fun v693 u691 H locs hw692 hP hD hS => ?_)
                      obtain ⟨w, r696, K697, g698⟩ := u691
                      obtain ⟨hw692, h699, h700, hO⟩ := hw692
                      have h699 : NwR K2 K697 g2 g698 r696 0 0 1 := h699
                      have h700 : K697.2.1 0 r696 = 36 := h700
                      obtain rfl : v693 = some (.ref r696) := hw692
                      have hf701 : K697.1 q2 = 3 := (((h699).2.1.1 q2 (by rw [hq2]; decide)).1).trans hq2
                      have hf702 : K697.1 d0 = 4 := (((h699).2.1.1 d0 (by rw [hd2]; decide)).1).trans hd2
                      have hf703 : K697.1 f2 = 5 := (((h699).2.1.1 f2 (by rw [ht2]; decide)).1).trans ht2
                      have hf704 : K697.2.2.1 6 q2 = some f2 := (((h699).2.1.1 q2 (by rw [hq2]; decide)).2.2.1 6).trans hc62
                      have hO : OKP G h0 a (upd (upd F 2 (nI sz)) 9 (nI (at682 + 1))) (updR R 1 (.ref pq)) Z (updA B 10 f683) J K697 w := hO.to rfl
                      refine W.widen (k := ((3 + 2 * np) + 1)) (n := ((120 + 11 * np + 4 * cp2) + 11)) (by show (3 + 2 * np) + 1 ≤ ((3 + 2 * np) + 1); omega) (by show (120 + 11 * np + 4 * cp2) + 11 ≤ ((120 + 11 * np + 4 * cp2) + 11); omega) ?_
                      refine W.eq (g2 := F0 m 181 ls [.ref r696, .ref f2]) rfl ?_
                      have hwp705 := WPr.nd hwp2 h699
                      have hps706 := PgS.nd hps2 hwp2 h699
                      have hf707 : K697.1 r696 = 1 := h699.2.2.1.2.1
                      have hlc708 : LsC G K697 f2 1 np it2 cp2 := (LsC.wx (fun p hp => (h699.2.1.1 p hp).1) (by decide) (h699.2.1.1 f2 (by rw [ht2]; decide)) (fun e he _ => h699.2.1.1 e (by rw [he]; decide)) hlc2)
                      have hO : OKP G h0 a (upd (upd (upd F 2 (nI sz)) 9 (nI at9)) 9 (nI (at682 + 1))) (updR R 1 (.ref pq)) Z (updA B 10 f683) J K697 w := hO.to rfl
                      obtain ⟨qr712, hqr713⟩ := p_recv hO (by rw [hf703]; decide) (rep_5 hf703)
                      refine pn_V0 (G := G) (As := [.ref r696]) (rest := []) hx hb hml hown hq hE hX pX0_al hP hD hS hA hl.1 (L_addC l G h0 a (upd (upd (upd F 2 (nI sz)) 9 (nI at9)) 9 (nI (at682 + 1))) (updR R 1 (.ref pq)) Z (updA B 10 f683) J K697 w f2 1 np it2 cp2 r696 hlc708 (by decide) hf707 (by omega) (by omega) hO hl0) (gV pw_885 pw_886 pw_887 pw_32 pw_868) hV_Jx4a65c_add_9ea2d qr712 10 hqr713 rfl rfl rfl (Nat.le_of_ble_eq_true rfl) dX8_head_181 ⟨(by show ((3 + 2 * np) + 1) + 1 ≤ (2 * (sz - at9) + 10); omega), (by show ((120 + 11 * np + 4 * cp2) + 11) + (10 + np + np / 2) ≤ (60 * (sz - at9) + 400); omega)⟩ ⟨Nat.le_of_ble_eq_true rfl, Nat.le_of_ble_eq_true rfl⟩ (fun v711 u709 H locs hw710 hP hD hS => ?_) (fun ux ce9 q9 H9 locs9 hux hP9 hD9 hS9 hce hcv hcl => pb_out ux (ThQ.up (Thx.b (Thx.f Thx.rfl (by omega)) (by omega) (by decide)) RhX.rfl hux) hnt hlocks hce hcv hcl hP9 hD9 hS9 (by show ((3 + 2 * np) + 1) + 1 ≤ (2 * (sz - at9) + 10); omega) (by show ((120 + 11 * np + 4 * cp2) + 11) + (10 + np + np / 2) ≤ (60 * (sz - at9) + 400); omega))
                      obtain ⟨w, K714, d715⟩ := u709
                      obtain ⟨hw710, h716, h717, h718, h719, h720, hO⟩ := hw710
                      have h716 : LsC G K714 f2 1 (np + 1) (upQ it2 np r696) (cp2 + d715) := h716
                      have h717 : AdQ K697 K714 f2 := h717
                      have h718 : N6 K697 K714 := h718
                      have h719 : cp2 + d715 ≤ 10 + 2 * (np + 1) := h719
                      have h720 : d715 ≤ 10 + np / 2 := h720
                      obtain rfl : v711 = some (.int 1) := hw710
                      have hO : OKP G h0 a (upd (upd F 2 (nI sz)) 9 (nI (at682 + 1))) (updR R 1 (.ref pq)) Z (updA B 10 f683) J K714 w := hO.to rfl
                      refine W.widen (k := (((3 + 2 * np) + 1) + 1)) (n := (((120 + 11 * np + 4 * cp2) + 11) + (4 * d715))) (by show ((3 + 2 * np) + 1) + 1 ≤ (((3 + 2 * np) + 1) + 1); omega) (by show ((120 + 11 * np + 4 * cp2) + 11) + (4 * d715) ≤ (((120 + 11 * np + 4 * cp2) + 11) + (4 * d715)); omega) ?_
                      refine W.eq (g2 := F0 m 184 ls [.int 1]) rfl ?_
                      have hg721 : g698 3 f2 = 3 := (h699.2.1.2 f2 (by rw [ht2]; decide) 3).trans hr2
                      have hwp722 : WPr G K714 g698 := WPr.add hwp705 h717 h718 hf703 (by rw [hg721]; exact h716) (by rw [hg721]; show _ ≤ 5000 ∧ _; omega)
                      have hps723 : PgS G K714 g698 (a 1) pq dr ml nd nm cp it s2 := by have z9 := PgS.add hps706 hwp705 h717 h718 hf703 (fun z => by have z2 := hg721; rw [z, hps706.1.2.2.2.2.2.2.1] at z2; exact absurd z2 (by decide)) (by rw [szL_of h716, szL_of hlc708]) (by rw [hg721]; decide) (by rw [hg721]; decide) (fun z => by rw [hg721] at z; exact absurd z (by decide)); rw [hg721] at z9; exact z9
                      have hf724 : K714.1 q2 = 3 := (h717.1 q2 (by rw [hf701]; decide)).1.trans hf701
                      have hf725 : K714.1 d0 = 4 := (h717.1 d0 (by rw [hf702]; decide)).1.trans hf702
                      have hf726 : K714.1 f2 = 5 := (h717.1 f2 (by rw [hf703]; decide)).1.trans hf703
                      have hf727 : K714.1 r696 = 1 := (h717.1 r696 (by rw [hf707]; decide)).1.trans hf707
                      have hon9 : Onc K714 dr nd q2 := Onc.add (Onc.ext hon2 hps2.2.1 hwp2 hps2.1.2.2.2.1 h699.2.1.1) hps706.2.1 hwp705 hps706.1.2.2.2.1 h717 hf703 (by rw [hg721]; decide)
                      refine lv_pop hx hb dX8_head_184 rfl ?_
                      refine lv_aload_n hx hb dX8_head_185 rfl (lv_at hl 8 rfl) ?_
                      refine lv_bipush (v := 39) hx hb dX8_head_186 (by decide) ?_
                      have hO : OKW G h0 a (upd (upd (upd (upd F 2 (nI sz)) 9 (nI (at682 + 1))) 2 (nI sz)) 9 (nI (at682 + 1))) (updR R 1 (.ref pq)) Z (updA B 10 f683) J K714.1 (fun q99 x99 => x99 = rep G a K714 q99) w := hO.to rfl
                      obtain ⟨_, qr731, hqr732⟩ := hO.2.1 23 _ (sg_23 G h0 a _ _ _ _ _)
                      refine pc_V0 (G := G) (As := [.int 39]) (rest := []) hx hb hml hown hq hE hX pX0_al hP hD hS hA hl.1 (P_takeIf l G h0 a (upd (upd F 2 (nI sz)) 9 (nI (at682 + 1))) (updR R 1 (.ref pq)) Z (updA B 10 f683) J K714.1 (fun q99 x99 => x99 = rep G a K714 q99) w 39 (at682 + 1) sz (by omega) (by omega) (by decide) hO) (gV pw_797 pw_798 pw_799 pw_796 pw_789) hV_X8_takeIf qr731 5 hqr732 rfl rfl rfl (Nat.le_of_ble_eq_true rfl) dX8_head_188 ⟨(by show (((3 + 2 * np) + 1) + 1) + 0 ≤ (2 * (sz - at9) + 10); omega), (by show (((120 + 11 * np + 4 * cp2) + 11) + (4 * d715)) + 0 ≤ (60 * (sz - at9) + 400); omega)⟩ ⟨Nat.le_of_ble_eq_true rfl, Nat.le_of_ble_eq_true rfl⟩ (fun v730 u728 H locs hw729 hP hD hS => ?_)
                      obtain ⟨w, r733⟩ := u728
                      obtain ⟨hw729, h734, h735, hO⟩ := hw729
                      have h734 : r733 ≤ 1 := h734
                      have h735 : (at682 + 1) + r733 ≤ sz := h735
                      obtain rfl : v730 = some (.int (nI r733)) := hw729
                      have hO : OKP G h0 a (upd (upd F 2 (nI sz)) 9 (nI ((at682 + 1) + r733))) (updR R 1 (.ref pq)) Z (updA B 10 f683) J K714 w := hO.to rfl
                      refine W.widen (k := (((3 + 2 * np) + 1) + 1)) (n := (((120 + 11 * np + 4 * cp2) + 11) + (4 * d715))) (by show (((3 + 2 * np) + 1) + 1) + 0 ≤ (((3 + 2 * np) + 1) + 1); omega) (by show (((120 + 11 * np + 4 * cp2) + 11) + (4 * d715)) + 0 ≤ (((120 + 11 * np + 4 * cp2) + 11) + (4 * d715)); omega) ?_
                      refine W.eq (g2 := F0 m 191 ls [.int (nI r733)]) rfl ?_
                      refine lv_istore (lv' := [(5, .int (nI r733)), (8, .int (nI at2)), (7, .int 1), (6, .int (nI i2)), (4, .ref q2), (3, .int (nI tk)), (2, .int x1), (1, .ref d0), (0, .ref (a 3))]) hx hb dX8_head_191 hl (by decide) rfl (fun ls hl => ?_)
                      refine lv_iinc (v := (nI (i2 + 1))) (lv' := [(6, .int (nI (i2 + 1))), (5, .int (nI r733)), (8, .int (nI at2)), (7, .int 1), (4, .ref q2), (3, .int (nI tk)), (2, .int x1), (1, .ref d0), (0, .ref (a 3))]) hx hb dX8_head_193 hl (k := 3) rfl (nI_1 i2) (by decide) rfl (fun ls hl => ?_)
                      refine lv_goto (tgt := 77) hx hb dX8_head_196 (by decide) ?_
                      refine W.widen (k := (3 + 2 * (np + 1))) (n := (120 + 11 * (np + 1) + 4 * (cp2 + d715))) (by show (((3 + 2 * np) + 1) + 1) ≤ _; omega) (by show (((120 + 11 * np + 4 * cp2) + 11) + (4 * d715)) ≤ _; omega) ?_
                      have hO : OKP G h0 a (upd (upd F 2 (nI sz)) 9 (nI ((at682 + 1) + r733))) (updR R 1 (.ref pq)) Z (updA B 10 f683) J K714 w := hO.to rfl
                      exact ih_i (i2 + 1) ((at682 + 1) + r733) f683 (nI r733) K714 g698 q2 f2 (np + 1) (cp2 + d715) (upQ it2 np r696) s2 _ _ _ _ (by omega) (by omega) (by omega) hwp722 hps723 (by omega) hf724 hf725 (((AdQ.sm h717 (by rw [hf701]; decide) (fun z => by have z2 := hf701; rw [z, hf703] at z2; exact absurd z2 (by decide)) (by rw [hf701]; decide)).2.2.1 6).trans ((h699.2.1.1 q2 (by rw [hq2]; decide)).2.2.1 6 |>.trans hc62)) hg721 h716 (by omega) hon9 hP hD hS hO (lv_sub hl [0, 1, 4, 5, 6, 7, 8] rfl)
                    · have n736 : ¬ (np < 8) := fun h9 => c675 ((nI_ltI (a := np) (b := 8) (by omega) (by omega)).mpr h9)
                      refine lv_aload_n hx hb dX8_head_145 rfl (lv_at hl 7 rfl) ?_
                      refine c_get (v := .ref (a 1)) (C := RX8) (Tc := TX8) (N := 5) (ci := 5) hx hb hq pin_wsX80 hown hE hP hO 23 (sg_23 G h0 a _ _ _ _ _) rfl 0 (by decide) (hq _ pw_774) (fun _ h9 => h9) rfl dX8_head_146 ?_
                      refine lv_iconst (v := 2) hx hb dX8_head_149 (by decide) ?_
                      refine lv_aload_n hx hb dX8_head_150 rfl (lv_at hl 7 rfl) ?_
                      refine c_get (v := .int (nI at2)) (C := RX8) (Tc := TX8) (N := 5) (ci := 5) hx hb hq pin_wsX80 hown hE hP hO 23 (sg_23 G h0 a _ _ _ _ _) rfl 2 (by decide) (hq _ pw_776) (fun _ h9 => h9) rfl dX8_head_151 ?_
                      have hO : OKW G h0 a (upd (upd (upd (upd F 2 (nI sz)) 9 (nI at9)) 9 (nI at2)) 2 (nI sz)) (updR R 1 (.ref pq)) Z (updA B 10 f9) J K2.1 (fun q99 x99 => x99 = rep G a K2 q99) w := hO.to rfl
                      obtain ⟨_, qr740, hqr741⟩ := hO.2.1 2 _ (sg_2 G h0 a _ _ _ _ _)
                      refine pn_V0 (G := G) (As := [.int 2, .int (nI at2)]) (rest := []) hx hb hml hown hq hE hX pX0_al hP hD hS hA hl.1 (K_fail l G h0 a (upd (upd (upd F 2 (nI sz)) 9 (nI at9)) 9 (nI at2)) (updR R 1 (.ref pq)) Z (updA B 10 f9) J K2.1 (fun q99 x99 => x99 = rep G a K2 q99) w 2 (nI at2) sz (by omega) hO hl0) (gV pw_779 pw_65 pw_66 pw_59 pw_43) hV_X10_fail qr740 7 hqr741 rfl rfl rfl (Nat.le_of_ble_eq_true rfl) dX8_head_154 ⟨(by show (3 + 2 * np) + 1 ≤ (2 * (sz - at9) + 10); omega), (by show (120 + 11 * np + 4 * cp2) + 6 ≤ (60 * (sz - at9) + 400); omega)⟩ ⟨Nat.le_of_ble_eq_true rfl, Nat.le_of_ble_eq_true rfl⟩ (fun v739 u737 H locs hw738 hP hD hS => hw738.elim) (fun ux ce9 q9 H9 locs9 hux hP9 hD9 hS9 hce hcv hcl => pb_out ux (ThQ.up (Thx.same (Thx.b (Thx.f Thx.rfl (by omega)) (by omega) (by decide)) rfl) RhX.rfl hux) hnt hlocks hce hcv hcl hP9 hD9 hS9 (by show (3 + 2 * np) + 1 ≤ (2 * (sz - at9) + 10); omega) (by show (120 + 11 * np + 4 * cp2) + 6 ≤ (60 * (sz - at9) + 400); omega))
      refine W.widen (k := (3 + 2 * 0)) (n := (120 + 11 * 0 + 4 * 0)) (by show 3 ≤ _; omega) (by show ((12 + 3) + (4 * d39)) ≤ _; omega) ?_
      have hO : OKP G h0 a (upd (upd F 2 (nI sz)) 9 (nI (at9 + 1))) (updR R 1 (.ref pq)) Z (updA B 10 (B 10)) J K38 w := hO.to rfl
      exact loop_i (sz + 1) 0 (at9 + 1) (B 10) (1 : Int32) K38 (gM g q8 f25) q8 f25 0 0 (fun _ => 0) (s9 + 5) _ _ _ _ (by omega) (by omega) (by omega) hwp46 hps47 (by omega) hf48 hf50 hc6 hm7 hl6 (by omega) hon0 hP hD hS hO (lv_sub hl [0, 1, 2, 6, 5, 4, 3] rfl)
  · have n742 : ¬ (nlm < 30) := fun h9 => c6 ((nI_ltI (a := nlm) (b := 30) (by omega) (by omega)).mpr h9)
    refine lv_aload_n hx hb dX8_head_12 rfl (lv_at hl 0 rfl) ?_
    refine c_get (v := .ref (a 1)) (C := RX8) (Tc := TX8) (N := 5) (ci := 5) hx hb hq pin_wsX80 hown hE hP hO 23 (sg_23 G h0 a _ _ _ _ _) rfl 0 (by decide) (hq _ pw_774) (fun _ h9 => h9) rfl dX8_head_13 ?_
    refine lv_iconst (v := 2) hx hb dX8_head_16 (by decide) ?_
    refine lv_iload_n hx hb dX8_head_17 rfl (lv_at hl 3 rfl) ?_
    have hO : OKW G h0 a (upd (upd (upd F 2 (nI sz)) 9 (nI at9)) 2 (nI sz)) (updR R 1 (.ref pq)) Z B J K.1 (fun q99 x99 => x99 = rep G a K q99) w := hO.to rfl
    obtain ⟨_, qr746, hqr747⟩ := hO.2.1 2 _ (sg_2 G h0 a _ _ _ _ _)
    refine pn_V0 (G := G) (As := [.int 2, .int (nI tk)]) (rest := []) hx hb hml hown hq hE hX pX0_al hP hD hS hA hl.1 (K_fail l G h0 a (upd (upd F 2 (nI sz)) 9 (nI at9)) (updR R 1 (.ref pq)) Z B J K.1 (fun q99 x99 => x99 = rep G a K q99) w 2 (nI tk) sz (by omega) hO hl0) (gV pw_779 pw_65 pw_66 pw_59 pw_43) hV_X10_fail qr746 7 hqr747 rfl rfl rfl (Nat.le_of_ble_eq_true rfl) dX8_head_18 ⟨(by show 0 + 1 ≤ (2 * (sz - at9) + 10); omega), (by show 0 + 6 ≤ (60 * (sz - at9) + 400); omega)⟩ ⟨Nat.le_of_ble_eq_true rfl, Nat.le_of_ble_eq_true rfl⟩ (fun v745 u743 H locs hw744 hP hD hS => hw744.elim) (fun ux ce9 q9 H9 locs9 hux hP9 hD9 hS9 hce hcv hcl => pb_out ux (ThQ.up (Thx.same Thx.rfl rfl) RhX.rfl hux) hnt hlocks hce hcv hcl hP9 hD9 hS9 (by show 0 + 1 ≤ (2 * (sz - at9) + 10); omega) (by show 0 + 6 ≤ (60 * (sz - at9) + 400); omega))
