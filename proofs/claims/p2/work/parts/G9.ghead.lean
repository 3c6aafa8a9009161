theorem dX8_head_0 : decode cX8_head 0 = .ok (.aload_n 1, 1) := by decide +kernel
theorem dX8_head_1 : decode cX8_head 1 = .ok (.getfield 154, 3) := by decide +kernel
theorem dX8_head_4 : decode cX8_head 4 = .ok (.invokevirtual 107, 3) := by decide +kernel
theorem dX8_head_7 : decode cX8_head 7 = .ok (.bipush 30, 2) := by decide +kernel
theorem dX8_head_9 : decode cX8_head 9 = .ok (.if_icmp .lt 12, 3) := by decide +kernel
theorem dX8_head_21 : decode cX8_head 21 = .ok (.new 112, 3) := by decide +kernel
theorem dX8_head_24 : decode cX8_head 24 = .ok (.dup, 1) := by decide +kernel
theorem dX8_head_25 : decode cX8_head 25 = .ok (.aload_n 1, 1) := by decide +kernel
theorem dX8_head_26 : decode cX8_head 26 = .ok (.aload_n 0, 1) := by decide +kernel
theorem dX8_head_27 : decode cX8_head 27 = .ok (.getfield 7, 3) := by decide +kernel
theorem dX8_head_30 : decode cX8_head 30 = .ok (.iload_n 3, 1) := by decide +kernel
theorem dX8_head_31 : decode cX8_head 31 = .ok (.invokevirtual 148, 3) := by decide +kernel
theorem dX8_head_34 : decode cX8_head 34 = .ok (.iload_n 3, 1) := by decide +kernel
theorem dX8_head_35 : decode cX8_head 35 = .ok (.iload_n 2, 1) := by decide +kernel
theorem dX8_head_36 : decode cX8_head 36 = .ok (.invokespecial 155, 3) := by decide +kernel
theorem dX8_head_39 : decode cX8_head 39 = .ok (.astore 4, 2) := by decide +kernel
theorem dX8_head_41 : decode cX8_head 41 = .ok (.aload_n 1, 1) := by decide +kernel
theorem dX8_head_42 : decode cX8_head 42 = .ok (.getfield 154, 3) := by decide +kernel
theorem dX8_head_45 : decode cX8_head 45 = .ok (.aload 4, 2) := by decide +kernel
theorem dX8_head_47 : decode cX8_head 47 = .ok (.invokevirtual 116, 3) := by decide +kernel
theorem dX8_head_50 : decode cX8_head 50 = .ok (.pop, 1) := by decide +kernel
theorem dX8_head_51 : decode cX8_head 51 = .ok (.aload_n 0, 1) := by decide +kernel
theorem dX8_head_52 : decode cX8_head 52 = .ok (.bipush 34, 2) := by decide +kernel
theorem dX8_head_54 : decode cX8_head 54 = .ok (.invokevirtual 53, 3) := by decide +kernel
theorem dX8_head_57 : decode cX8_head 57 = .ok (.pop, 1) := by decide +kernel
theorem dX8_head_58 : decode cX8_head 58 = .ok (.aload_n 0, 1) := by decide +kernel
theorem dX8_head_59 : decode cX8_head 59 = .ok (.bipush 35, 2) := by decide +kernel
theorem dX8_head_61 : decode cX8_head 61 = .ok (.invokevirtual 36, 3) := by decide +kernel
theorem dX8_head_64 : decode cX8_head 64 = .ok (.ifCond .ne 7, 3) := by decide +kernel
theorem dX8_head_71 : decode cX8_head 71 = .ok (.iconst 0, 1) := by decide +kernel
theorem dX8_head_72 : decode cX8_head 72 = .ok (.istore 5, 2) := by decide +kernel
theorem dX8_head_74 : decode cX8_head 74 = .ok (.iconst 0, 1) := by decide +kernel
theorem dX8_head_75 : decode cX8_head 75 = .ok (.istore 6, 2) := by decide +kernel
theorem dX8_head_77 : decode cX8_head 77 = .ok (.iload 6, 2) := by decide +kernel
theorem dX8_head_79 : decode cX8_head 79 = .ok (.aload_n 0, 1) := by decide +kernel
theorem dX8_head_80 : decode cX8_head 80 = .ok (.getfield 7, 3) := by decide +kernel
theorem dX8_head_83 : decode cX8_head 83 = .ok (.getfield 27, 3) := by decide +kernel
theorem dX8_head_86 : decode cX8_head 86 = .ok (.if_icmp .ge 113, 3) := by decide +kernel
theorem dX8_head_199 : decode cX8_head 199 = .ok (.aload_n 0, 1) := by decide +kernel
theorem dX8_head_200 : decode cX8_head 200 = .ok (.bipush 35, 2) := by decide +kernel
theorem dX8_head_202 : decode cX8_head 202 = .ok (.invokevirtual 53, 3) := by decide +kernel
theorem dX8_head_205 : decode cX8_head 205 = .ok (.pop, 1) := by decide +kernel
theorem dX8_head_206 : decode cX8_head 206 = .ok (.aload 4, 2) := by decide +kernel
theorem dX8_head_208 : decode cX8_head 208 = .ok (.areturn, 1) := by decide +kernel
theorem dX8_head_89 : decode cX8_head 89 = .ok (.iload 5, 2) := by decide +kernel
theorem dX8_head_91 : decode cX8_head 91 = .ok (.ifCond .eq 108, 3) := by decide +kernel
theorem dX8_head_94 : decode cX8_head 94 = .ok (.aload_n 0, 1) := by decide +kernel
theorem dX8_head_95 : decode cX8_head 95 = .ok (.bipush 13, 2) := by decide +kernel
theorem dX8_head_97 : decode cX8_head 97 = .ok (.invokevirtual 36, 3) := by decide +kernel
theorem dX8_head_100 : decode cX8_head 100 = .ok (.ifCond .ne 20, 3) := by decide +kernel
theorem dX8_head_120 : decode cX8_head 120 = .ok (.iconst 1, 1) := by decide +kernel
theorem dX8_head_121 : decode cX8_head 121 = .ok (.goto 4, 3) := by decide +kernel
theorem dX8_head_125 : decode cX8_head 125 = .ok (.istore 7, 2) := by decide +kernel
theorem dX8_head_127 : decode cX8_head 127 = .ok (.iload 7, 2) := by decide +kernel
theorem dX8_head_129 : decode cX8_head 129 = .ok (.ifCond .eq 28, 3) := by decide +kernel
theorem dX8_head_132 : decode cX8_head 132 = .ok (.aload 4, 2) := by decide +kernel
theorem dX8_head_134 : decode cX8_head 134 = .ok (.getfield 158, 3) := by decide +kernel
theorem dX8_head_137 : decode cX8_head 137 = .ok (.invokevirtual 107, 3) := by decide +kernel
theorem dX8_head_140 : decode cX8_head 140 = .ok (.bipush 8, 2) := by decide +kernel
theorem dX8_head_142 : decode cX8_head 142 = .ok (.if_icmp .lt 15, 3) := by decide +kernel
theorem dX8_head_157 : decode cX8_head 157 = .ok (.aload_n 0, 1) := by decide +kernel
theorem dX8_head_158 : decode cX8_head 158 = .ok (.iconst 1, 1) := by decide +kernel
theorem dX8_head_159 : decode cX8_head 159 = .ok (.invokevirtual 132, 3) := by decide +kernel
theorem dX8_head_162 : decode cX8_head 162 = .ok (.istore 8, 2) := by decide +kernel
theorem dX8_head_164 : decode cX8_head 164 = .ok (.aload 4, 2) := by decide +kernel
theorem dX8_head_166 : decode cX8_head 166 = .ok (.getfield 158, 3) := by decide +kernel
theorem dX8_head_169 : decode cX8_head 169 = .ok (.aload_n 0, 1) := by decide +kernel
theorem dX8_head_170 : decode cX8_head 170 = .ok (.iload 8, 2) := by decide +kernel
theorem dX8_head_172 : decode cX8_head 172 = .ok (.aload_n 0, 1) := by decide +kernel
theorem dX8_head_173 : decode cX8_head 173 = .ok (.bipush 65, 2) := by decide +kernel
theorem dX8_head_175 : decode cX8_head 175 = .ok (.invokevirtual 53, 3) := by decide +kernel
theorem dX8_head_178 : decode cX8_head 178 = .ok (.invokevirtual 139, 3) := by decide +kernel
theorem dX8_head_181 : decode cX8_head 181 = .ok (.invokevirtual 116, 3) := by decide +kernel
theorem dX8_head_184 : decode cX8_head 184 = .ok (.pop, 1) := by decide +kernel
theorem dX8_head_185 : decode cX8_head 185 = .ok (.aload_n 0, 1) := by decide +kernel
theorem dX8_head_186 : decode cX8_head 186 = .ok (.bipush 39, 2) := by decide +kernel
theorem dX8_head_188 : decode cX8_head 188 = .ok (.invokevirtual 80, 3) := by decide +kernel
theorem dX8_head_191 : decode cX8_head 191 = .ok (.istore 5, 2) := by decide +kernel
theorem dX8_head_193 : decode cX8_head 193 = .ok (.iinc 6 1, 3) := by decide +kernel
theorem dX8_head_196 : decode cX8_head 196 = .ok (.goto (-119), 3) := by decide +kernel
theorem dX8_head_145 : decode cX8_head 145 = .ok (.aload_n 0, 1) := by decide +kernel
theorem dX8_head_146 : decode cX8_head 146 = .ok (.getfield 7, 3) := by decide +kernel
theorem dX8_head_149 : decode cX8_head 149 = .ok (.iconst 2, 1) := by decide +kernel
theorem dX8_head_150 : decode cX8_head 150 = .ok (.aload_n 0, 1) := by decide +kernel
theorem dX8_head_151 : decode cX8_head 151 = .ok (.getfield 17, 3) := by decide +kernel
theorem dX8_head_154 : decode cX8_head 154 = .ok (.invokevirtual 60, 3) := by decide +kernel
theorem dX8_head_103 : decode cX8_head 103 = .ok (.aload_n 0, 1) := by decide +kernel
theorem dX8_head_104 : decode cX8_head 104 = .ok (.iconst 1, 1) := by decide +kernel
theorem dX8_head_105 : decode cX8_head 105 = .ok (.invokevirtual 36, 3) := by decide +kernel
theorem dX8_head_108 : decode cX8_head 108 = .ok (.ifCond .ne 12, 3) := by decide +kernel
theorem dX8_head_111 : decode cX8_head 111 = .ok (.aload_n 0, 1) := by decide +kernel
theorem dX8_head_112 : decode cX8_head 112 = .ok (.bipush 65, 2) := by decide +kernel
theorem dX8_head_114 : decode cX8_head 114 = .ok (.invokevirtual 36, 3) := by decide +kernel
theorem dX8_head_117 : decode cX8_head 117 = .ok (.ifCond .eq 7, 3) := by decide +kernel
theorem dX8_head_124 : decode cX8_head 124 = .ok (.iconst 0, 1) := by decide +kernel
theorem dX8_head_67 : decode cX8_head 67 = .ok (.iconst 1, 1) := by decide +kernel
theorem dX8_head_68 : decode cX8_head 68 = .ok (.goto 4, 3) := by decide +kernel
theorem dX8_head_12 : decode cX8_head 12 = .ok (.aload_n 0, 1) := by decide +kernel
theorem dX8_head_13 : decode cX8_head 13 = .ok (.getfield 7, 3) := by decide +kernel
theorem dX8_head_16 : decode cX8_head 16 = .ok (.iconst 2, 1) := by decide +kernel
theorem dX8_head_17 : decode cX8_head 17 = .ok (.iload_n 3, 1) := by decide +kernel
theorem dX8_head_18 : decode cX8_head 18 = .ok (.invokevirtual 60, 3) := by decide +kernel
theorem hS_X6_init : yX6_init.cls ≠ "java/lang/invoke/MethodHandle" ∧ yX6_init.cls ≠ "java/lang/invoke/VarHandle" ∧ (parseMethodDescriptor yX6_init.desc).map (fun d => d.parameters.length) = some 4 := by decide +kernel
set_option maxHeartbeats 40000000 in
set_option maxRecDepth 100000 in
theorem P_head (l : Launch) (G : pT) (h0 : Nat) (a : Nat → Nat) (F : Nat → Int32) (R : Nat → Value) (Z : Int64) (B : Nat → Nat → Int32) (J : Nat → Nat → Int64) (K : PK) (w : va_W) (pq : Nat) (dr : Nat) (ml : Nat) (nd : Nat) (nm : Nat) (cp : Nat) (it : Nat → Nat) (s9 : Nat) (d0 : Nat) (tk : Nat) (x1 : Int32) (at9 : Nat) (sz : Nat) (g : Nat → Nat → Nat) (hsz : sz ≤ 5000) (hat : at9 ≤ sz) (hwp : WPr G K g) (hps : PgS G K g (a 1) pq dr ml nd nm cp it s9) (hd0 : K.1 d0 = 4) (htk : tk ≤ sz) (hO : OKP G h0 a (upd (upd F 2 (nI sz)) 9 (nI at9)) (updR R 1 (.ref pq)) Z B J K w) (hl0 : l.stackTraces = false) : PBn l G pX0 yX8_head cX8_head 9 (some (.object "JinjaTongue$Method")) ({ frames := 8, cells := (2 * (sz - at9) + 10), slots := (60 * (sz - at9) + 400), locals := 191 }) [.ref (a 3), .ref d0, .int x1, .int (nI tk)] w (fun (v : Option Value) (u : va_W × (PK × (Nat → Nat → Nat) × Nat × Nat × (Nat → Int32))) => v = some (.ref u.2.2.2.1) ∧ (WPr G u.2.1 u.2.2.1) ∧ (PgS G u.2.1 u.2.2.1 (a 1) pq dr ml nd nm cp it (s9 + 3 + (u.2.2.2.2.1 - at9))) ∧ (u.2.1.1 u.2.2.2.1 = 3) ∧ (u.2.1.1 d0 = 4) ∧ (at9 + 2 ≤ u.2.2.2.2.1 ∧ u.2.2.2.2.1 ≤ sz) ∧ (OKP G h0 a (upd (upd F 2 (nI sz)) 9 (nI u.2.2.2.2.1)) (updR R 1 (.ref pq)) Z (updA B 10 u.2.2.2.2.2) J u.2.1 u.1)) (fun u => u.1) (fun (u : va_W × (PK × (Nat → Nat → Nat) × Nat × Nat × (Nat → Int32))) => (u.2.2.2.2.1 - at9 + 3)) (fun (u : va_W × (PK × (Nat → Nat → Nat) × Nat × Nat × (Nat → Int32))) => (60 * (u.2.2.2.2.1 - at9) + 60)) (fun (u : va_W × (Nat → Int32) × (Nat → Value) × (Nat → Nat → Int32)) => ThQ G h0 a (upd (upd F 2 (nI sz)) 9 (nI at9)) Z B J u) (fun u => u.1) := by
  intro sz
  refine vx_ofW (cc := cX8_head) (maxL := 9) (ret := (some (.object "JinjaTongue$Method"))) (by decide) rfl ?_
  intro p e s m args below meth c s₁ B9 hml hnt hv
  obtain ⟨rfl, hsz, hP, hD0, hE, hX⟩ := hv
  have hx := B9.exec
  have hb := B9.bytes
  have hr := B9.returns
  have hts := atoms_spec (ws := Cond.code yX8_head cX8_head 9 (some (.object "JinjaTongue$Method")) :: pw) B9.pre
  have hq : ∀ w ∈ pw, w.before _ s = true := fun w h => hts w (List.mem_cons_of_mem _ h)
  have hown : s.vm.findClass RX8 = some m.cls := findClass_of_methodNamed B9.named
  have hlocks := B9.notSynchronized
  subst hsz
  have hD := hD0.self (sz := s.heap.size)
  have hA : ∀ q : Nat, s.heap.size ≤ q → va_A w s.heap.size q := fun q h => Or.inr h
  generalize va_A w s.heap.size = A at hD hE hA ⊢
  have hS : va_S A s.heap s.heap [] := va_S.rf
  have hl := lv_entry ([.ref (a 3), .ref d0, .int x1, .int (nI tk)]) (n := 9) (Nat.le_of_ble_eq_true rfl)
  rw [lg_entry_eq]
  generalize (lg_sl ([.ref (a 3), .ref d0, .int x1, .int (nI tk)]) ++ List.replicate (9 - (lg_sl ([.ref (a 3), .ref d0, .int x1, .int (nI tk)])).length) Slot.unset).toArray = ls at hl ⊢
  have hl : lv_has ls 9 [(0, .ref (a 3)), (1, .ref d0), (2, .int x1), (3, .int (nI tk))] := hl
  obtain ⟨lm, hflm, htlm, hrlm, holm⟩ := (hwp.2.2.1 d0 hd0).2.1
  obtain ⟨nlm, itlm, cplm, hlclm, hnblm, hcblm⟩ := hwp.2.1 lm htlm
  rw [hrlm] at hlclm hnblm
  have hnclm := hlclm.2.2.1
  have hnblm : nlm ≤ 30 := hnblm
  have hlclm : LsC G K lm 3 nlm itlm cplm := hlclm
  refine lv_aload_n hx hb dX8_head_0 rfl (lv_at hl 1 rfl) ?_
  refine p_get (v := .ref lm) (C := RX2) (Tc := TX2) (N := 13) (ci := 2) hx hb hq pin_wsX20 hown hE hP hO (by rw [hd0]; decide) (rep_4 hd0) rfl 8 (by decide) (hq _ pw_877) (fun _ h9 => h9) (congrArg (fun z => some (va_rf z)) hflm) dX8_head_1 ?_
  have hO : OKP G h0 a (upd (upd F 2 (nI sz)) 9 (nI at9)) (updR R 1 (.ref pq)) Z B J K w := hO.to rfl
  obtain ⟨qr4, hqr5⟩ := p_recv hO (by rw [htlm]; decide) (rep_5 htlm)
  refine pc_V0 (G := G) (As := []) (rest := []) hx hb hml hown hq hE hX pX0_al hP hD hS hA hl.1 (L_size l G h0 a (upd (upd F 2 (nI sz)) 9 (nI at9)) (updR R 1 (.ref pq)) Z B J K w lm 3 nlm itlm hlclm.ls hO) (gV pw_882 pw_87 pw_88 pw_32 pw_16) hV_Jx4a65c_size_8abf5 qr4 10 hqr5 rfl rfl rfl (Nat.le_of_ble_eq_true rfl) dX8_head_4 ⟨(by show 0 + 0 ≤ (2 * (sz - at9) + 10); omega), (by show 0 + 0 ≤ (60 * (sz - at9) + 400); omega)⟩ ⟨Nat.le_of_ble_eq_true rfl, Nat.le_of_ble_eq_true rfl⟩ (fun v3 u1 H locs hw2 hP hD hS => ?_)
  obtain ⟨w, _⟩ := u1
  obtain ⟨hw2, hO⟩ := hw2
  obtain rfl : v3 = some (.int (nI nlm)) := hw2
  have hO : OKP G h0 a (upd (upd F 2 (nI sz)) 9 (nI at9)) (updR R 1 (.ref pq)) Z B J K w := hO.to rfl
  refine W.widen (k := 0) (n := 0) (Nat.le_of_ble_eq_true rfl) (Nat.le_of_ble_eq_true rfl) ?_
  refine W.eq (g2 := F0 m 7 ls [.int (nI nlm)]) rfl ?_
  refine lv_bipush (v := 30) hx hb dX8_head_7 (by decide) ?_
  refine lv_icmp_lt (tgt := 21) hx hb dX8_head_9 (by decide) (fun c6 => ?_) (fun c6 => ?_)
  · have n7 : nlm < 30 := (nI_ltI (a := nlm) (b := 30) (by omega) (by omega)).mp c6
    refine p_new (s9 := 3) (C := RX6) (T := TX6) (N := 12) (ci := 12) (fs := [.null, .int 0, .int 0, .int 0, .null, .null, .int 0, .int 0, .int 0, .int 0, .int 0, .int 0]) hx hb hq pin_wsX60 tyX6 tyX6_ok hown (hq _ pw_878) (hq _ pw_879) (hq _ pw_880) hE hP hD hS hA hO rfl nw_X6 (by decide) (fun q => by rw [rep_3 (show (kN K q 3 0).1 q = 3 from if_pos rfl)]; unfold fsMethod kN; simp only [if_true]; rfl) (by show 0 + 1 ≤ (2 * (sz - at9) + 10); omega) (by show 0 + 12 ≤ (60 * (sz - at9) + 400); omega) dX8_head_21 (fun q8 H w hq9 hP hD hS hO => ?_)
    have hf10 : (kN K q8 3 0).1 d0 = 4 := (if_neg (fun z => by have z2 := hd0; rw [z, hq9] at z2; exact absurd z2 (by decide))).trans hd0
    have hf11 : (kN K q8 3 0).2.2.1 9 d0 = some lm := (if_neg (fun z => by have z2 := hd0; rw [z, hq9] at z2; exact absurd z2 (by decide))).trans hflm
    have hf12 : (kN K q8 3 0).1 lm = 5 := (if_neg (fun z => by have z2 := htlm; rw [z, hq9] at z2; exact absurd z2 (by decide))).trans htlm
    have hf13 : (kN K q8 3 0).1 q8 = 3 := if_pos rfl
    refine W.widen (k := 1) (n := 12) (by show 0 + 1 ≤ 1; omega) (by show 0 + 12 ≤ 12; omega) ?_
    refine lv_dup hx hb dX8_head_24 rfl ?_
    refine lv_aload_n hx hb dX8_head_25 rfl (lv_at hl 1 rfl) ?_
    refine lv_aload_n hx hb dX8_head_26 rfl (lv_at hl 0 rfl) ?_
    refine c_get (v := .ref (a 1)) (C := RX8) (Tc := TX8) (N := 5) (ci := 5) hx hb hq pin_wsX80 hown hE hP hO 23 (sg_23 G h0 a _ _ _ _ _) rfl 0 (by decide) (hq _ pw_774) (fun _ h9 => h9) rfl dX8_head_27 ?_
    refine lv_iload_n hx hb dX8_head_30 rfl (lv_at hl 3 rfl) ?_
    have hO : OKW G h0 a (upd (upd (upd F 2 (nI sz)) 9 (nI at9)) 2 (nI sz)) (updR R 1 (.ref pq)) Z B J ((kN K q8 3 0).1) (fun q99 x99 => x99 = rep G a (kN K q8 3 0) q99) w := hO.to rfl
    obtain ⟨_, qr17, hqr18⟩ := hO.2.1 2 _ (sg_2 G h0 a _ _ _ _ _)
    refine pc_V0 (G := G) (As := [.int (nI tk)]) (rest := [.ref d0, .ref q8, .ref q8]) hx hb hml hown hq hE hX pX0_al hP hD hS hA hl.1 (K_valueAt l G h0 a (upd (upd F 2 (nI sz)) 9 (nI at9)) (updR R 1 (.ref pq)) Z B J ((kN K q8 3 0).1) (fun q99 x99 => x99 = rep G a (kN K q8 3 0) q99) w (nI tk) sz (by omega) hO) (gV pw_876 pw_57 pw_58 pw_59 pw_39) hV_X10_valueAt qr17 7 hqr18 rfl rfl rfl (Nat.le_of_ble_eq_true rfl) dX8_head_31 ⟨(by show 1 + 0 ≤ (2 * (sz - at9) + 10); omega), (by show 12 + 0 ≤ (60 * (sz - at9) + 400); omega)⟩ ⟨Nat.le_of_ble_eq_true rfl, Nat.le_of_ble_eq_true rfl⟩ (fun v16 u14 H locs hw15 hP hD hS => ?_)
    obtain ⟨w, r19⟩ := u14
    obtain ⟨hw15, hO⟩ := hw15
    obtain rfl : v16 = some (.int r19) := hw15
    have hO : OKP G h0 a (upd (upd F 2 (nI sz)) 9 (nI at9)) (updR R 1 (.ref pq)) Z B J (kN K q8 3 0) w := hO.to rfl
    refine W.widen (k := 1) (n := 12) (by show 1 + 0 ≤ 1; omega) (by show 12 + 0 ≤ 12; omega) ?_
    refine W.eq (g2 := F0 m 34 ls [.int r19, .ref d0, .ref q8, .ref q8]) rfl ?_
    refine lv_iload_n hx hb dX8_head_34 rfl (lv_at hl 3 rfl) ?_
    refine lv_iload_n hx hb dX8_head_35 rfl (lv_at hl 2 rfl) ?_
    have hO : OKP G h0 a (upd (upd F 2 (nI sz)) 9 (nI at9)) (updR R 1 (.ref pq)) Z B J (kN K q8 3 0) w := hO.to rfl
    obtain ⟨qr23, hqr24⟩ := p_recv hO (by rw [hf13]; decide) (rep_3 hf13)
    refine pc_I0 (G := G) (As := [.ref d0, .int r19, .int (nI tk), .int x1]) (rest := [.ref q8]) hx hb hml hown hq hE hX pX0_al hP hD hS hA hl.1 (M_init l G h0 a (upd (upd F 2 (nI sz)) 9 (nI at9)) (updR R 1 (.ref pq)) Z B J (kN K q8 3 0) w q8 d0 r19 (nI tk) x1 hf13 hO) pw_883 pw_884 pw_880 pw_764 rfl hS_X6_init rfl (Nat.le_of_ble_eq_true rfl) dX8_head_36 ⟨(by show 1 + 1 ≤ (2 * (sz - at9) + 10); omega), (by show 12 + 3 ≤ (60 * (sz - at9) + 400); omega)⟩ ⟨Nat.le_of_ble_eq_true rfl, Nat.le_of_ble_eq_true rfl⟩ (fun v22 u20 H locs hw21 hP hD hS => ?_)
    obtain ⟨w, f25⟩ := u20
    obtain ⟨hw21, h26, hO⟩ := hw21
    have h26 : (kI (kI (kI (kC (kN K q8 3 0) 5 q8 (some d0)) 6 q8 r19) 7 q8 (nI tk)) 8 q8 x1).1 f25 = 0 := h26
    obtain rfl : v22 = none := hw21
    have hO : OKP G h0 a (upd (upd F 2 (nI sz)) 9 (nI at9)) (updR R 1 (.ref pq)) Z B J (kI (addL G (kI (kI (kI (kC (kN K q8 3 0) 5 q8 (some d0)) 6 q8 r19) 7 q8 (nI tk)) 8 q8 x1) q8 6 f25) 9 q8 (-1)) w := hO.to rfl
    refine W.widen (k := 2) (n := (12 + 3)) (by show 1 + 1 ≤ 2; omega) (by show 12 + 3 ≤ (12 + 3); omega) ?_
    refine W.eq (g2 := F0 m 39 ls [.ref q8]) rfl ?_
    change OKP G h0 a (upd (upd F 2 (nI sz)) 9 (nI at9)) (updR R 1 (.ref pq)) Z B J (mkM G K q8 d0 r19 (nI tk) x1 f25) w at hO
    have hmm := WPr.meth (x1 := r19) (x2 := (nI tk)) (x3 := x1) hwp hq9 hd0 h26
    obtain ⟨K27, hK28⟩ : ∃ z : PK, z = (mkM G K q8 d0 r19 (nI tk) x1 f25) := ⟨_, rfl⟩
    rw [← hK28] at hO
    rw [← hK28] at hmm
    obtain ⟨hm1, hm2, hm3, hm4, hm5, hm6, hm7, hm8, hm9⟩ := hmm
    have hps1 := PgS.ext hps hwp.2.2.1 hm2 (fun p hp h0 => by rcases hm9 p h0 with z | z | z; (· rw [hp] at z; exact absurd z (by decide)); (· rw [z]; exact hm4); (· rw [z, hm6] at hp; exact absurd hp (by decide))) (fun p hp h0 => by rcases hm9 p h0 with z | z | z; (· rw [hp] at z; exact absurd z (by decide)); (· rw [z, hm3] at hp; exact absurd hp (by decide)); (· rw [z, hm6] at hp; exact absurd hp (by decide)))
    have hf29 : K27.1 d0 = 4 := (hm2 d0 (by rw [hd0]; decide)).1.1.trans hd0
    have hf30 : K27.1 lm = 5 := (hm2 lm (by rw [htlm]; decide)).1.1.trans htlm
    have hf31 : K27.2.2.1 9 d0 = some lm := ((hm2 d0 (by rw [hd0]; decide)).1.2.2.1 9).trans hflm
    refine lv_astore (lv' := [(4, .ref q8), (0, .ref (a 3)), (1, .ref d0), (2, .int x1), (3, .int (nI tk))]) hx hb dX8_head_39 hl (by decide) rfl (fun ls hl => ?_)
    refine lv_aload_n hx hb dX8_head_41 rfl (lv_at hl 2 rfl) ?_
    refine p_get (v := .ref lm) (C := RX2) (Tc := TX2) (N := 13) (ci := 2) hx hb hq pin_wsX20 hown hE hP hO (by rw [hf29]; decide) (rep_4 hf29) rfl 8 (by decide) (hq _ pw_877) (fun _ h9 => h9) (congrArg (fun z => some (va_rf z)) hf31) dX8_head_42 ?_
    refine lv_aload hx hb dX8_head_45 (lv_at hl 0 rfl) ?_
    have hlc32 : LsC G K27 lm 3 nlm itlm cplm := (LsC.wx (fun p hp => (hm2 p hp).1.1) (by decide) (hm2 lm (by rw [htlm]; decide)).1 (fun e he _ => (hm2 e (by rw [he]; decide)).1) hlclm)
    have hO : OKP G h0 a (upd (upd F 2 (nI sz)) 9 (nI at9)) (updR R 1 (.ref pq)) Z B J K27 w := hO.to rfl
    obtain ⟨qr36, hqr37⟩ := p_recv hO (by rw [hf30]; decide) (rep_5 hf30)
    refine pn_V0 (G := G) (As := [.ref q8]) (rest := []) hx hb hml hown hq hE hX pX0_al hP hD hS hA hl.1 (L_addC l G h0 a (upd (upd F 2 (nI sz)) 9 (nI at9)) (updR R 1 (.ref pq)) Z B J K27 w lm 3 nlm itlm cplm q8 hlc32 (by decide) hm3 (by omega) (by omega) hO hl0) (gV pw_885 pw_886 pw_887 pw_32 pw_868) hV_Jx4a65c_add_9ea2d qr36 10 hqr37 rfl rfl rfl (Nat.le_of_ble_eq_true rfl) dX8_head_47 ⟨(by show 2 + 1 ≤ (2 * (sz - at9) + 10); omega), (by show (12 + 3) + (10 + nlm + nlm / 2) ≤ (60 * (sz - at9) + 400); omega)⟩ ⟨Nat.le_of_ble_eq_true rfl, Nat.le_of_ble_eq_true rfl⟩ (fun v35 u33 H locs hw34 hP hD hS => ?_) (fun ux ce9 q9 H9 locs9 hux hP9 hD9 hS9 hce hcv hcl => pb_out ux (ThQ.up Thx.rfl hux) hnt hlocks hce hcv hcl hP9 hD9 hS9 (by show 2 + 1 ≤ (2 * (sz - at9) + 10); omega) (by show (12 + 3) + (10 + nlm + nlm / 2) ≤ (60 * (sz - at9) + 400); omega))
    obtain ⟨w, K38, d39⟩ := u33
    obtain ⟨hw34, h40, h41, h42, h43, h44, hO⟩ := hw34
    have h40 : LsC G K38 lm 3 (nlm + 1) (upQ itlm nlm q8) (cplm + d39) := h40
    have h41 : AdQ K27 K38 lm := h41
    have h42 : N6 K27 K38 := h42
    have h43 : cplm + d39 ≤ 10 + 2 * (nlm + 1) := h43
    have h44 : d39 ≤ 10 + nlm / 2 := h44
    obtain rfl : v35 = some (.int 1) := hw34
    have hO : OKP G h0 a (upd (upd F 2 (nI sz)) 9 (nI at9)) (updR R 1 (.ref pq)) Z B J K38 w := hO.to rfl
    refine W.widen (k := 3) (n := ((12 + 3) + (4 * d39))) (by show 2 + 1 ≤ 3; omega) (by show (12 + 3) + (4 * d39) ≤ ((12 + 3) + (4 * d39)); omega) ?_
    refine W.eq (g2 := F0 m 50 ls [.int 1]) rfl ?_
    have hg45 : (gM g q8 f25) 3 lm = 2 := ((hm2 lm (by rw [htlm]; decide)).2 3).trans hrlm
    have hwp46 : WPr G K38 (gM g q8 f25) := WPr.add hm1 h41 h42 hf30 (by rw [hg45]; exact h40) (by rw [hg45]; show _ ≤ 30 ∧ _; omega)
    have hps47 : PgS G K38 (gM g q8 f25) (a 1) pq dr ml nd nm cp it (s9 + 5) := by have z9 := PgS.add hps1 hm1.2.2.1 h41 h42 hf30 (fun z => by have z2 := hg45; rw [z, hps1.1.2.2.2.2.2.2.1] at z2; exact absurd z2 (by decide)) (by rw [szL_of h40, szL_of hlc32]) (by rw [hg45]; decide) (by rw [hg45]; decide); rw [hg45] at z9; exact z9
    have hf48 : K38.1 q8 = 3 := (h41.1 q8 (by rw [hm3]; decide)).1.trans hm3
    have hf49 : K38.1 f25 = 5 := (h41.1 f25 (by rw [hm6]; decide)).1.trans hm6
    have hf50 : K38.1 d0 = 4 := (h41.1 d0 (by rw [hf29]; decide)).1.trans hf29
    have hf51 : K38.1 lm = 5 := (h41.1 lm (by rw [hf30]; decide)).1.trans hf30
    have hc6 : K38.2.2.1 6 q8 = some f25 := ((AdQ.sm h41 (p := q8) (by rw [hm3]; decide) (fun z => by have z2 := hm3; rw [z, (hm2 lm (by rw [htlm]; decide)).1.1, htlm] at z2; exact absurd z2 (by decide)) (by rw [hm3]; decide)).2.2.1 6).trans hm5
    have hne6 : ¬ f25 = lm := fun z => by have z2 := hm7; rw [z] at z2; have z3 := hg45; rw [z, z2] at z3; exact absurd z3 (by decide)
    have hl6 : LsC G K38 f25 1 0 (fun _ => 0) 0 := LsC.wx (fun p hp => (h41.1 p hp).1) (by decide) (AdQ.sm h41 (by rw [hm6]; decide) hne6 (by rw [hm6]; decide)) (fun e he h17 => h41.2 e (by rw [he]; decide) (fun z => by rw [z, (hm2 lm (by rw [htlm]; decide)).1.1, htlm] at he; exact absurd he (by decide)) (fun z => hne6 (Option.some.inj (h17.symm.trans z.2)))) hm8
    refine lv_pop hx hb dX8_head_50 rfl ?_
    refine lv_aload_n hx hb dX8_head_51 rfl (lv_at hl 1 rfl) ?_
    refine lv_bipush (v := 34) hx hb dX8_head_52 (by decide) ?_
    have hO : OKW G h0 a (upd (upd (upd (upd F 2 (nI sz)) 9 (nI at9)) 2 (nI sz)) 9 (nI at9)) (updR R 1 (.ref pq)) Z B J K38.1 (fun q99 x99 => x99 = rep G a K38 q99) w := hO.to rfl
    obtain ⟨_, qr55, hqr56⟩ := hO.2.1 23 _ (sg_23 G h0 a _ _ _ _ _)
    refine pn_V0 (G := G) (As := [.int 34]) (rest := []) hx hb hml hown hq hE hX pX0_al hP hD hS hA hl.1 (P_take l G h0 a (upd (upd F 2 (nI sz)) 9 (nI at9)) (updR R 1 (.ref pq)) Z B J K38.1 (fun q99 x99 => x99 = rep G a K38 q99) w 34 at9 sz (by omega) (by omega) (by decide) hO hl0) (gV pw_793 pw_794 pw_795 pw_796 pw_781) hV_X8_take qr55 5 hqr56 rfl rfl rfl (Nat.le_of_ble_eq_true rfl) dX8_head_54 ⟨(by show 3 + 1 ≤ (2 * (sz - at9) + 10); omega), (by show ((12 + 3) + (4 * d39)) + 6 ≤ (60 * (sz - at9) + 400); omega)⟩ ⟨Nat.le_of_ble_eq_true rfl, Nat.le_of_ble_eq_true rfl⟩ (fun v54 u52 H locs hw53 hP hD hS => ?_) (fun ux ce9 q9 H9 locs9 hux hP9 hD9 hS9 hce hcv hcl => pb_out ux (ThQ.up (Thx.same (Thx.same Thx.rfl rfl) rfl) hux) hnt hlocks hce hcv hcl hP9 hD9 hS9 (by show 3 + 1 ≤ (2 * (sz - at9) + 10); omega) (by show ((12 + 3) + (4 * d39)) + 6 ≤ (60 * (sz - at9) + 400); omega))
    obtain ⟨w, _⟩ := u52
    obtain ⟨hw53, h57, hO⟩ := hw53
    have h57 : at9 + 1 ≤ sz := h57
    obtain rfl : v54 = some (.int (nI at9)) := hw53
    have hO : OKP G h0 a (upd (upd F 2 (nI sz)) 9 (nI (at9 + 1))) (updR R 1 (.ref pq)) Z B J K38 w := hO.to rfl
    refine W.widen (k := 3) (n := ((12 + 3) + (4 * d39))) (by show 3 + 0 ≤ 3; omega) (by show ((12 + 3) + (4 * d39)) + 0 ≤ ((12 + 3) + (4 * d39)); omega) ?_
    refine W.eq (g2 := F0 m 57 ls [.int (nI at9)]) rfl ?_
    refine lv_pop hx hb dX8_head_57 rfl ?_
    refine lv_aload_n hx hb dX8_head_58 rfl (lv_at hl 1 rfl) ?_
    refine lv_bipush (v := 35) hx hb dX8_head_59 (by decide) ?_
    have hO : OKW G h0 a (upd (upd (upd (upd F 2 (nI sz)) 9 (nI (at9 + 1))) 2 (nI sz)) 9 (nI (at9 + 1))) (updR R 1 (.ref pq)) Z B J K38.1 (fun q99 x99 => x99 = rep G a K38 q99) w := hO.to rfl
    obtain ⟨_, qr61, hqr62⟩ := hO.2.1 23 _ (sg_23 G h0 a _ _ _ _ _)
    refine pc_V0 (G := G) (As := [.int 35]) (rest := []) hx hb hml hown hq hE hX pX0_al hP hD hS hA hl.1 (P_sees l G h0 a (upd (upd F 2 (nI sz)) 9 (nI (at9 + 1))) (updR R 1 (.ref pq)) Z B J K38.1 (fun q99 x99 => x99 = rep G a K38 q99) w 35 (at9 + 1) sz (by omega) (by omega) hO) (gV pw_803 pw_804 pw_805 pw_796 pw_775) hV_X8_sees qr61 5 hqr62 rfl rfl rfl (Nat.le_of_ble_eq_true rfl) dX8_head_61 ⟨(by show 3 + 0 ≤ (2 * (sz - at9) + 10); omega), (by show ((12 + 3) + (4 * d39)) + 0 ≤ (60 * (sz - at9) + 400); omega)⟩ ⟨Nat.le_of_ble_eq_true rfl, Nat.le_of_ble_eq_true rfl⟩ (fun v60 u58 H locs hw59 hP hD hS => ?_)
    obtain ⟨w, r63⟩ := u58
    obtain ⟨hw59, h64, hO⟩ := hw59
    have h64 : r63 ≤ 1 := h64
    obtain rfl : v60 = some (.int (nI r63)) := hw59
    have hO : OKP G h0 a (upd (upd F 2 (nI sz)) 9 (nI (at9 + 1))) (updR R 1 (.ref pq)) Z B J K38 w := hO.to rfl
    refine W.widen (k := 3) (n := ((12 + 3) + (4 * d39))) (by show 3 + 0 ≤ 3; omega) (by show ((12 + 3) + (4 * d39)) + 0 ≤ ((12 + 3) + (4 * d39)); omega) ?_
    refine W.eq (g2 := F0 m 64 ls [.int (nI r63)]) rfl ?_
    refine lv_if_ne (tgt := 71) hx hb dX8_head_64 (by decide) (fun c65 => ?_) (fun c65 => ?_)
    · have n66 : ¬ (r63 = 0) := fun h9 => c65 ((nI_eq (a := r63) (b := 0) (by omega) (by omega)).mpr h9)
      refine lv_iconst (v := 0) hx hb dX8_head_71 (by decide) ?_
      refine lv_istore (lv' := [(5, .int 0), (4, .ref q8), (0, .ref (a 3)), (1, .ref d0), (2, .int x1), (3, .int (nI tk))]) hx hb dX8_head_72 hl (by decide) rfl (fun ls hl => ?_)
      refine lv_iconst (v := 0) hx hb dX8_head_74 (by decide) ?_
      refine lv_istore (lv' := [(6, .int 0), (5, .int 0), (4, .ref q8), (0, .ref (a 3)), (1, .ref d0), (2, .int x1), (3, .int (nI tk))]) hx hb dX8_head_75 hl (by decide) rfl (fun ls hl => ?_)
      have loop_i : ∀ (n_i : Nat) (i2 : Nat) (at2 : Nat) (f9 : Nat → Int32) (mo2 : Int32) (K2 : PK) (g2 : Nat → Nat → Nat) (q2 : Nat) (f2 : Nat) (np : Nat) (cp2 : Nat) (it2 : Nat → Nat) (s2 : Nat) (H : Heap) (locs : List Loc) (ls : Array Slot) (w : va_W), i2 ≤ sz → sz + 1 ≤ i2 + n_i → (at9 + 1 + 2 * np ≤ at2 ∧ at2 ≤ sz) → (WPr G K2 g2) → (PgS G K2 g2 (a 1) pq dr ml nd nm cp it s2) → (s2 ≤ s9 + 5) → (K2.1 q2 = 3) → (K2.1 d0 = 4) → (K2.2.2.1 6 q2 = some f2) → (g2 3 f2 = 3) → (LsC G K2 f2 1 np it2 cp2) → (cp2 ≤ 10 + 2 * np) → va_P G.1 pCl w H → va_D A w → va_S A s.heap H locs → OKP G h0 a (upd (upd F 2 (nI sz)) 9 (nI at2)) (updR R 1 (.ref pq)) Z (updA B 10 f9) J K2 w → lv_has ls 9 [(6, .int (nI i2)), (5, .int mo2), (4, .ref q2), (3, .int (nI tk)), (2, .int x1), (1, .ref d0), (0, .ref (a 3))] → W p l e (headSpec (Cond.code yX8_head cX8_head 9 (some (.object "JinjaTongue$Method")) :: pw) ({ frames := 8, cells := (2 * (sz - at9) + 10), slots := (60 * (sz - at9) + 400), locals := 191 } : Room)).room s m ([.ref (a 3), .ref d0, .int x1, .int (nI tk)] : List Value).toArray below meth c H locs (3 + 2 * np) (120 + 11 * np + 4 * cp2) (vx_MQ below (pQn G A (fun (v : Option Value) (u : va_W × (PK × (Nat → Nat → Nat) × Nat × Nat × (Nat → Int32))) => v = some (.ref u.2.2.2.1) ∧ (WPr G u.2.1 u.2.2.1) ∧ (PgS G u.2.1 u.2.2.1 (a 1) pq dr ml nd nm cp it (s9 + 3 + (u.2.2.2.2.1 - at9))) ∧ (u.2.1.1 u.2.2.2.1 = 3) ∧ (u.2.1.1 d0 = 4) ∧ (at9 + 2 ≤ u.2.2.2.2.1 ∧ u.2.2.2.2.1 ≤ sz) ∧ (OKP G h0 a (upd (upd F 2 (nI sz)) 9 (nI u.2.2.2.2.1)) (updR R 1 (.ref pq)) Z (updA B 10 u.2.2.2.2.2) J u.2.1 u.1)) (fun u => u.1) (fun (u : va_W × (PK × (Nat → Nat → Nat) × Nat × Nat × (Nat → Int32))) => (u.2.2.2.2.1 - at9 + 3)) (fun (u : va_W × (PK × (Nat → Nat → Nat) × Nat × Nat × (Nat → Int32))) => (60 * (u.2.2.2.2.1 - at9) + 60))) (pXX G A (fun (u : va_W × (Nat → Int32) × (Nat → Value) × (Nat → Nat → Int32)) => ThQ G h0 a (upd (upd F 2 (nI sz)) 9 (nI at9)) Z B J u) (fun u => u.1)) ([.ref (a 3), .ref d0, .int x1, .int (nI tk)] : List Value).toArray s ({ frames := 8, cells := (2 * (sz - at9) + 10), slots := (60 * (sz - at9) + 400), locals := 191 } : Room).cells ({ frames := 8, cells := (2 * (sz - at9) + 10), slots := (60 * (sz - at9) + 400), locals := 191 } : Room).slots A) (F0 m 77 ls []) := by
        intro n_i
        induction n_i with
        | zero => intro i2 at2 f9 mo2 K2 g2 q2 f2 np cp2 it2 s2 H locs ls w hk_i hn_i; omega
        | succ n_i ih_i =>
          intro i2 at2 f9 mo2 K2 g2 q2 f2 np cp2 it2 s2 H locs ls w hk_i hn_i hat2 hwp2 hps2 hs2 hq2 hd2 hc62 hr2 hlc2 hcb2 hP hD hS hO hl
          have ht2 := hlc2.1
          refine lv_iload hx hb dX8_head_77 (lv_at hl 0 rfl) ?_
          refine lv_aload_n hx hb dX8_head_79 rfl (lv_at hl 6 rfl) ?_
          refine c_get (v := .ref (a 1)) (C := RX8) (Tc := TX8) (N := 5) (ci := 5) hx hb hq pin_wsX80 hown hE hP hO 23 (sg_23 G h0 a _ _ _ _ _) rfl 0 (by decide) (hq _ pw_774) (fun _ h9 => h9) rfl dX8_head_80 ?_
          refine c_get (v := .int (nI sz)) (C := RX10) (Tc := TX10) (N := 15) (ci := 7) hx hb hq pin_wsX100 hown hE hP hO 2 (sg_2 G h0 a _ _ _ _ _) rfl 8 (by decide) (hq _ pw_792) (fun _ h9 => h9) rfl dX8_head_83 ?_
          refine lv_icmp_ge (tgt := 199) hx hb dX8_head_86 (by decide) (fun c67 => ?_) (fun c67 => ?_)
          · have n68 : sz ≤ i2 := (nI_leI (a := sz) (b := i2) (by omega) (by omega)).mp c67
            refine lv_aload_n hx hb dX8_head_199 rfl (lv_at hl 6 rfl) ?_
            refine lv_bipush (v := 35) hx hb dX8_head_200 (by decide) ?_
            have hO : OKW G h0 a (upd (upd (upd (upd (upd F 2 (nI sz)) 9 (nI at9)) 9 (nI at2)) 2 (nI sz)) 9 (nI at2)) (updR R 1 (.ref pq)) Z (updA B 10 f9) J K2.1 (fun q99 x99 => x99 = rep G a K2 q99) w := hO.to rfl
            obtain ⟨_, qr72, hqr73⟩ := hO.2.1 23 _ (sg_23 G h0 a _ _ _ _ _)
            refine pn_V0 (G := G) (As := [.int 35]) (rest := []) hx hb hml hown hq hE hX pX0_al hP hD hS hA hl.1 (P_take l G h0 a (upd (upd (upd F 2 (nI sz)) 9 (nI at9)) 9 (nI at2)) (updR R 1 (.ref pq)) Z (updA B 10 f9) J K2.1 (fun q99 x99 => x99 = rep G a K2 q99) w 35 at2 sz (by omega) (by omega) (by decide) hO hl0) (gV pw_793 pw_794 pw_795 pw_796 pw_781) hV_X8_take qr72 5 hqr73 rfl rfl rfl (Nat.le_of_ble_eq_true rfl) dX8_head_202 ⟨(by show (3 + 2 * np) + 1 ≤ (2 * (sz - at9) + 10); omega), (by show (120 + 11 * np + 4 * cp2) + 6 ≤ (60 * (sz - at9) + 400); omega)⟩ ⟨Nat.le_of_ble_eq_true rfl, Nat.le_of_ble_eq_true rfl⟩ (fun v71 u69 H locs hw70 hP hD hS => ?_) (fun ux ce9 q9 H9 locs9 hux hP9 hD9 hS9 hce hcv hcl => pb_out ux (ThQ.up (Thx.same (Thx.same (Thx.b (Thx.f Thx.rfl (by omega)) (by omega) (by decide)) rfl) rfl) hux) hnt hlocks hce hcv hcl hP9 hD9 hS9 (by show (3 + 2 * np) + 1 ≤ (2 * (sz - at9) + 10); omega) (by show (120 + 11 * np + 4 * cp2) + 6 ≤ (60 * (sz - at9) + 400); omega))
            obtain ⟨w, _⟩ := u69
            obtain ⟨hw70, h74, hO⟩ := hw70
            have h74 : at2 + 1 ≤ sz := h74
            obtain rfl : v71 = some (.int (nI at2)) := hw70
            have hO : OKP G h0 a (upd (upd F 2 (nI sz)) 9 (nI (at2 + 1))) (updR R 1 (.ref pq)) Z (updA B 10 f9) J K2 w := hO.to rfl
            refine W.widen (k := (3 + 2 * np)) (n := (120 + 11 * np + 4 * cp2)) (by show (3 + 2 * np) + 0 ≤ (3 + 2 * np); omega) (by show (120 + 11 * np + 4 * cp2) + 0 ≤ (120 + 11 * np + 4 * cp2); omega) ?_
            refine W.eq (g2 := F0 m 205 ls [.int (nI at2)]) rfl ?_
            refine lv_pop hx hb dX8_head_205 rfl ?_
            refine lv_aload hx hb dX8_head_206 (lv_at hl 2 rfl) ?_
            refine W_size (fun hz1 hz2 => ?_)
            refine vx_ret ?_
            have hz75 : WPr G K2 g2 := hwp2
            have hz76 : PgS G K2 g2 (a 1) pq dr ml nd nm cp it (s9 + 3 + ((at2 + 1) - at9)) := (PgS.up hps2 (by omega))
            have hz77 : K2.1 q2 = 3 := hq2
            have hz78 : K2.1 d0 = 4 := hd2
            have hz79 : at9 + 2 ≤ (at2 + 1) ∧ (at2 + 1) ≤ sz := (by omega)
            have hO : OKP G h0 a (upd (upd F 2 (nI sz)) 9 (nI (at2 + 1))) (updR R 1 (.ref pq)) Z (updA B 10 f9) J K2 w := hO.to rfl
            refine W.widen (k := (2 * (sz - at9) + 10)) (n := (60 * (sz - at9) + 400)) (by omega) (by omega) ?_
            have hzz1 : H.size ≤ s.heap.size + (((at2 + 1) - at9 + 3)) := (by have z : (3 + 2 * np) ≤ ((at2 + 1) - at9 + 3) := (by omega); omega)
            have hzz2 : hSl H ≤ hSl s.heap + ((60 * ((at2 + 1) - at9) + 60)) := (by have z : (120 + 11 * np + 4 * cp2) ≤ (60 * ((at2 + 1) - at9) + 60) := (by omega); omega)
            exact W.aret (v := .ref q2) hx hb hr (Or.inl ⟨_, rfl⟩) (Or.inr ⟨_, rfl⟩) (fun t99 ht99 hW99 => ⟨⟨_, (w, (K2, g2, q2, (at2 + 1), f9)), rfl, ⟨rfl, hz75, hz76, hz77, hz78, hz79, hO⟩, by rw [ht99]; exact hP, hD, by rw [ht99]; exact hzz1, by rw [ht99]; exact hzz2⟩, hS.F ht99⟩) hS.2.2 dX8_head_208
          · have n80 : ¬ (sz ≤ i2) := fun h9 => c67 ((nI_leI (a := sz) (b := i2) (by omega) (by omega)).mpr h9)
            refine lv_iload hx hb dX8_head_89 (lv_at hl 1 rfl) ?_
            refine lv_if_eq (tgt := 199) hx hb dX8_head_91 (by decide) (fun c81 => ?_) (fun c81 => ?_)
            · refine lv_aload_n hx hb dX8_head_199 rfl (lv_at hl 6 rfl) ?_
              refine lv_bipush (v := 35) hx hb dX8_head_200 (by decide) ?_
              have hO : OKW G h0 a (upd (upd (upd (upd (upd F 2 (nI sz)) 9 (nI at9)) 9 (nI at2)) 2 (nI sz)) 9 (nI at2)) (updR R 1 (.ref pq)) Z (updA B 10 f9) J K2.1 (fun q99 x99 => x99 = rep G a K2 q99) w := hO.to rfl
              obtain ⟨_, qr85, hqr86⟩ := hO.2.1 23 _ (sg_23 G h0 a _ _ _ _ _)
              refine pn_V0 (G := G) (As := [.int 35]) (rest := []) hx hb hml hown hq hE hX pX0_al hP hD hS hA hl.1 (P_take l G h0 a (upd (upd (upd F 2 (nI sz)) 9 (nI at9)) 9 (nI at2)) (updR R 1 (.ref pq)) Z (updA B 10 f9) J K2.1 (fun q99 x99 => x99 = rep G a K2 q99) w 35 at2 sz (by omega) (by omega) (by decide) hO hl0) (gV pw_793 pw_794 pw_795 pw_796 pw_781) hV_X8_take qr85 5 hqr86 rfl rfl rfl (Nat.le_of_ble_eq_true rfl) dX8_head_202 ⟨(by show (3 + 2 * np) + 1 ≤ (2 * (sz - at9) + 10); omega), (by show (120 + 11 * np + 4 * cp2) + 6 ≤ (60 * (sz - at9) + 400); omega)⟩ ⟨Nat.le_of_ble_eq_true rfl, Nat.le_of_ble_eq_true rfl⟩ (fun v84 u82 H locs hw83 hP hD hS => ?_) (fun ux ce9 q9 H9 locs9 hux hP9 hD9 hS9 hce hcv hcl => pb_out ux (ThQ.up (Thx.same (Thx.same (Thx.b (Thx.f Thx.rfl (by omega)) (by omega) (by decide)) rfl) rfl) hux) hnt hlocks hce hcv hcl hP9 hD9 hS9 (by show (3 + 2 * np) + 1 ≤ (2 * (sz - at9) + 10); omega) (by show (120 + 11 * np + 4 * cp2) + 6 ≤ (60 * (sz - at9) + 400); omega))
              obtain ⟨w, _⟩ := u82
              obtain ⟨hw83, h87, hO⟩ := hw83
              have h87 : at2 + 1 ≤ sz := h87
              obtain rfl : v84 = some (.int (nI at2)) := hw83
              have hO : OKP G h0 a (upd (upd F 2 (nI sz)) 9 (nI (at2 + 1))) (updR R 1 (.ref pq)) Z (updA B 10 f9) J K2 w := hO.to rfl
              refine W.widen (k := (3 + 2 * np)) (n := (120 + 11 * np + 4 * cp2)) (by show (3 + 2 * np) + 0 ≤ (3 + 2 * np); omega) (by show (120 + 11 * np + 4 * cp2) + 0 ≤ (120 + 11 * np + 4 * cp2); omega) ?_
              refine W.eq (g2 := F0 m 205 ls [.int (nI at2)]) rfl ?_
              refine lv_pop hx hb dX8_head_205 rfl ?_
              refine lv_aload hx hb dX8_head_206 (lv_at hl 2 rfl) ?_
              refine W_size (fun hz1 hz2 => ?_)
              refine vx_ret ?_
              have hz88 : WPr G K2 g2 := hwp2
              have hz89 : PgS G K2 g2 (a 1) pq dr ml nd nm cp it (s9 + 3 + ((at2 + 1) - at9)) := (PgS.up hps2 (by omega))
              have hz90 : K2.1 q2 = 3 := hq2
              have hz91 : K2.1 d0 = 4 := hd2
              have hz92 : at9 + 2 ≤ (at2 + 1) ∧ (at2 + 1) ≤ sz := (by omega)
              have hO : OKP G h0 a (upd (upd F 2 (nI sz)) 9 (nI (at2 + 1))) (updR R 1 (.ref pq)) Z (updA B 10 f9) J K2 w := hO.to rfl
              refine W.widen (k := (2 * (sz - at9) + 10)) (n := (60 * (sz - at9) + 400)) (by omega) (by omega) ?_
              have hzz1 : H.size ≤ s.heap.size + (((at2 + 1) - at9 + 3)) := (by have z : (3 + 2 * np) ≤ ((at2 + 1) - at9 + 3) := (by omega); omega)
              have hzz2 : hSl H ≤ hSl s.heap + ((60 * ((at2 + 1) - at9) + 60)) := (by have z : (120 + 11 * np + 4 * cp2) ≤ (60 * ((at2 + 1) - at9) + 60) := (by omega); omega)
              exact W.aret (v := .ref q2) hx hb hr (Or.inl ⟨_, rfl⟩) (Or.inr ⟨_, rfl⟩) (fun t99 ht99 hW99 => ⟨⟨_, (w, (K2, g2, q2, (at2 + 1), f9)), rfl, ⟨rfl, hz88, hz89, hz90, hz91, hz92, hO⟩, by rw [ht99]; exact hP, hD, by rw [ht99]; exact hzz1, by rw [ht99]; exact hzz2⟩, hS.F ht99⟩) hS.2.2 dX8_head_208
            · refine lv_aload_n hx hb dX8_head_94 rfl (lv_at hl 6 rfl) ?_
              refine lv_bipush (v := 13) hx hb dX8_head_95 (by decide) ?_
              have hO : OKW G h0 a (upd (upd (upd (upd F 2 (nI sz)) 9 (nI at2)) 2 (nI sz)) 9 (nI at2)) (updR R 1 (.ref pq)) Z (updA B 10 f9) J K2.1 (fun q99 x99 => x99 = rep G a K2 q99) w := hO.to rfl
              obtain ⟨_, qr96, hqr97⟩ := hO.2.1 23 _ (sg_23 G h0 a _ _ _ _ _)
              refine pc_V0 (G := G) (As := [.int 13]) (rest := []) hx hb hml hown hq hE hX pX0_al hP hD hS hA hl.1 (P_sees l G h0 a (upd (upd F 2 (nI sz)) 9 (nI at2)) (updR R 1 (.ref pq)) Z (updA B 10 f9) J K2.1 (fun q99 x99 => x99 = rep G a K2 q99) w 13 at2 sz (by omega) (by omega) hO) (gV pw_803 pw_804 pw_805 pw_796 pw_775) hV_X8_sees qr96 5 hqr97 rfl rfl rfl (Nat.le_of_ble_eq_true rfl) dX8_head_97 ⟨(by show (3 + 2 * np) + 0 ≤ (2 * (sz - at9) + 10); omega), (by show (120 + 11 * np + 4 * cp2) + 0 ≤ (60 * (sz - at9) + 400); omega)⟩ ⟨Nat.le_of_ble_eq_true rfl, Nat.le_of_ble_eq_true rfl⟩ (fun v95 u93 H locs hw94 hP hD hS => ?_)
              obtain ⟨w, r98⟩ := u93
              obtain ⟨hw94, h99, hO⟩ := hw94
              have h99 : r98 ≤ 1 := h99
              obtain rfl : v95 = some (.int (nI r98)) := hw94
              have hO : OKP G h0 a (upd (upd F 2 (nI sz)) 9 (nI at2)) (updR R 1 (.ref pq)) Z (updA B 10 f9) J K2 w := hO.to rfl
              refine W.widen (k := (3 + 2 * np)) (n := (120 + 11 * np + 4 * cp2)) (by show (3 + 2 * np) + 0 ≤ (3 + 2 * np); omega) (by show (120 + 11 * np + 4 * cp2) + 0 ≤ (120 + 11 * np + 4 * cp2); omega) ?_
              refine W.eq (g2 := F0 m 100 ls [.int (nI r98)]) rfl ?_
              refine lv_if_ne (tgt := 120) hx hb dX8_head_100 (by decide) (fun c100 => ?_) (fun c100 => ?_)
              · have n101 : ¬ (r98 = 0) := fun h9 => c100 ((nI_eq (a := r98) (b := 0) (by omega) (by omega)).mpr h9)
                refine lv_iconst (v := 1) hx hb dX8_head_120 (by decide) ?_
                refine lv_goto (tgt := 125) hx hb dX8_head_121 (by decide) ?_
                refine lv_istore (lv' := [(7, .int 1), (6, .int (nI i2)), (5, .int mo2), (4, .ref q2), (3, .int (nI tk)), (2, .int x1), (1, .ref d0), (0, .ref (a 3))]) hx hb dX8_head_125 hl (by decide) rfl (fun ls hl => ?_)
                refine lv_iload hx hb dX8_head_127 (lv_at hl 0 rfl) ?_
                refine lv_if_eq (tgt := 157) hx hb dX8_head_129 (by decide) (fun c102 => absurd c102 (by decide)) (fun c102 => ?_)
                refine lv_aload hx hb dX8_head_132 (lv_at hl 3 rfl) ?_
                refine p_get (v := .ref f2) (C := RX6) (Tc := TX6) (N := 12) (ci := 12) hx hb hq pin_wsX60 hown hE hP hO (by rw [hq2]; decide) (rep_3 hq2) rfl 4 (by decide) (hq _ pw_881) (fun _ h9 => h9) (congrArg (fun z => some (va_rf z)) hc62) dX8_head_134 ?_
                have hO : OKP G h0 a (upd (upd F 2 (nI sz)) 9 (nI at2)) (updR R 1 (.ref pq)) Z (updA B 10 f9) J K2 w := hO.to rfl
                obtain ⟨qr106, hqr107⟩ := p_recv hO (by rw [ht2]; decide) (rep_5 ht2)
                refine pc_V0 (G := G) (As := []) (rest := []) hx hb hml hown hq hE hX pX0_al hP hD hS hA hl.1 (L_size l G h0 a (upd (upd F 2 (nI sz)) 9 (nI at2)) (updR R 1 (.ref pq)) Z (updA B 10 f9) J K2 w f2 1 np it2 hlc2.ls hO) (gV pw_882 pw_87 pw_88 pw_32 pw_16) hV_Jx4a65c_size_8abf5 qr106 10 hqr107 rfl rfl rfl (Nat.le_of_ble_eq_true rfl) dX8_head_137 ⟨(by show (3 + 2 * np) + 0 ≤ (2 * (sz - at9) + 10); omega), (by show (120 + 11 * np + 4 * cp2) + 0 ≤ (60 * (sz - at9) + 400); omega)⟩ ⟨Nat.le_of_ble_eq_true rfl, Nat.le_of_ble_eq_true rfl⟩ (fun v105 u103 H locs hw104 hP hD hS => ?_)
                obtain ⟨w, _⟩ := u103
                obtain ⟨hw104, hO⟩ := hw104
                obtain rfl : v105 = some (.int (nI np)) := hw104
                have hO : OKP G h0 a (upd (upd F 2 (nI sz)) 9 (nI at2)) (updR R 1 (.ref pq)) Z (updA B 10 f9) J K2 w := hO.to rfl
                refine W.widen (k := (3 + 2 * np)) (n := (120 + 11 * np + 4 * cp2)) (by show (3 + 2 * np) + 0 ≤ (3 + 2 * np); omega) (by show (120 + 11 * np + 4 * cp2) + 0 ≤ (120 + 11 * np + 4 * cp2); omega) ?_
                refine W.eq (g2 := F0 m 140 ls [.int (nI np)]) rfl ?_
                refine lv_bipush (v := 8) hx hb dX8_head_140 (by decide) ?_
                refine lv_icmp_lt (tgt := 157) hx hb dX8_head_142 (by decide) (fun c108 => ?_) (fun c108 => ?_)
                · have n109 : np < 8 := (nI_ltI (a := np) (b := 8) (by omega) (by omega)).mp c108
                  refine lv_aload_n hx hb dX8_head_157 rfl (lv_at hl 7 rfl) ?_
                  refine lv_iconst (v := 1) hx hb dX8_head_158 (by decide) ?_
                  have hO : OKW G h0 a (upd (upd (upd (upd (upd F 2 (nI sz)) 9 (nI at9)) 9 (nI at2)) 2 (nI sz)) 9 (nI at2)) (updR R 1 (.ref pq)) Z (updA B 10 f9) J K2.1 (fun q99 x99 => x99 = rep G a K2 q99) w := hO.to rfl
                  obtain ⟨_, qr113, hqr114⟩ := hO.2.1 23 _ (sg_23 G h0 a _ _ _ _ _)
                  refine pn_V0 (G := G) (As := [.int 1]) (rest := []) hx hb hml hown hq hE hX pX0_al hP hD hS hA hl.1 (P_takeType l G h0 a (upd (upd (upd F 2 (nI sz)) 9 (nI at9)) 9 (nI at2)) (updR R 1 (.ref pq)) Z (updA B 10 f9) J K2.1 (fun q99 x99 => x99 = rep G a K2 q99) w 1 at2 sz (by omega) (by omega) hO hl0) (gV pw_825 pw_826 pw_827 pw_796 pw_821) hV_X8_takeType qr113 5 hqr114 rfl rfl rfl (Nat.le_of_ble_eq_true rfl) dX8_head_159 ⟨(by show (3 + 2 * np) + 1 ≤ (2 * (sz - at9) + 10); omega), (by show (120 + 11 * np + 4 * cp2) + 6 ≤ (60 * (sz - at9) + 400); omega)⟩ ⟨Nat.le_of_ble_eq_true rfl, Nat.le_of_ble_eq_true rfl⟩ (fun v112 u110 H locs hw111 hP hD hS => ?_) (fun ux ce9 q9 H9 locs9 hux hP9 hD9 hS9 hce hcv hcl => pb_out ux (ThQ.up (Thx.same (Thx.same (Thx.b (Thx.f Thx.rfl (by omega)) (by omega) (by decide)) rfl) rfl) hux) hnt hlocks hce hcv hcl hP9 hD9 hS9 (by show (3 + 2 * np) + 1 ≤ (2 * (sz - at9) + 10); omega) (by show (120 + 11 * np + 4 * cp2) + 6 ≤ (60 * (sz - at9) + 400); omega))
                  obtain ⟨w, at115, f116⟩ := u110
                  obtain ⟨hw111, h117, hO⟩ := hw111
                  have h117 : at2 + 1 ≤ at115 ∧ at115 ≤ sz := h117
                  obtain rfl : v112 = some (.int (nI at2)) := hw111
                  have hO : OKP G h0 a (upd (upd F 2 (nI sz)) 9 (nI at115)) (updR R 1 (.ref pq)) Z (updA B 10 f116) J K2 w := hO.to rfl
                  refine W.widen (k := (3 + 2 * np)) (n := (120 + 11 * np + 4 * cp2)) (by show (3 + 2 * np) + 0 ≤ (3 + 2 * np); omega) (by show (120 + 11 * np + 4 * cp2) + 0 ≤ (120 + 11 * np + 4 * cp2); omega) ?_
                  refine W.eq (g2 := F0 m 162 ls [.int (nI at2)]) rfl ?_
                  refine lv_istore (lv' := [(8, .int (nI at2)), (7, .int 1), (6, .int (nI i2)), (5, .int mo2), (4, .ref q2), (3, .int (nI tk)), (2, .int x1), (1, .ref d0), (0, .ref (a 3))]) hx hb dX8_head_162 hl (by decide) rfl (fun ls hl => ?_)
                  refine lv_aload hx hb dX8_head_164 (lv_at hl 4 rfl) ?_
                  refine p_get (v := .ref f2) (C := RX6) (Tc := TX6) (N := 12) (ci := 12) hx hb hq pin_wsX60 hown hE hP hO (by rw [hq2]; decide) (rep_3 hq2) rfl 4 (by decide) (hq _ pw_881) (fun _ h9 => h9) (congrArg (fun z => some (va_rf z)) hc62) dX8_head_166 ?_
                  refine lv_aload_n hx hb dX8_head_169 rfl (lv_at hl 8 rfl) ?_
                  refine lv_iload hx hb dX8_head_170 (lv_at hl 0 rfl) ?_
                  refine lv_aload_n hx hb dX8_head_172 rfl (lv_at hl 8 rfl) ?_
                  refine lv_bipush (v := 65) hx hb dX8_head_173 (by decide) ?_
                  have hO : OKW G h0 a (upd (upd (upd (upd (upd F 2 (nI sz)) 9 (nI at9)) 9 (nI at115)) 2 (nI sz)) 9 (nI at115)) (updR R 1 (.ref pq)) Z (updA B 10 f116) J K2.1 (fun q99 x99 => x99 = rep G a K2 q99) w := hO.to rfl
                  obtain ⟨_, qr121, hqr122⟩ := hO.2.1 23 _ (sg_23 G h0 a _ _ _ _ _)
                  refine pn_V0 (G := G) (As := [.int 65]) (rest := [.int (nI at2), .ref (a 3), .ref f2]) hx hb hml hown hq hE hX pX0_al hP hD hS hA hl.1 (P_take l G h0 a (upd (upd (upd F 2 (nI sz)) 9 (nI at9)) 9 (nI at115)) (updR R 1 (.ref pq)) Z (updA B 10 f116) J K2.1 (fun q99 x99 => x99 = rep G a K2 q99) w 65 at115 sz (by omega) (by omega) (by decide) hO hl0) (gV pw_793 pw_794 pw_795 pw_796 pw_781) hV_X8_take qr121 5 hqr122 rfl rfl rfl (Nat.le_of_ble_eq_true rfl) dX8_head_175 ⟨(by show (3 + 2 * np) + 1 ≤ (2 * (sz - at9) + 10); omega), (by show (120 + 11 * np + 4 * cp2) + 6 ≤ (60 * (sz - at9) + 400); omega)⟩ ⟨Nat.le_of_ble_eq_true rfl, Nat.le_of_ble_eq_true rfl⟩ (fun v120 u118 H locs hw119 hP hD hS => ?_) (fun ux ce9 q9 H9 locs9 hux hP9 hD9 hS9 hce hcv hcl => pb_out ux (ThQ.up (Thx.same (Thx.same (Thx.b (Thx.f Thx.rfl (by omega)) (by omega) (by decide)) rfl) rfl) hux) hnt hlocks hce hcv hcl hP9 hD9 hS9 (by show (3 + 2 * np) + 1 ≤ (2 * (sz - at9) + 10); omega) (by show (120 + 11 * np + 4 * cp2) + 6 ≤ (60 * (sz - at9) + 400); omega))
                  obtain ⟨w, _⟩ := u118
                  obtain ⟨hw119, h123, hO⟩ := hw119
                  have h123 : at115 + 1 ≤ sz := h123
                  obtain rfl : v120 = some (.int (nI at115)) := hw119
                  have hO : OKP G h0 a (upd (upd F 2 (nI sz)) 9 (nI (at115 + 1))) (updR R 1 (.ref pq)) Z (updA B 10 f116) J K2 w := hO.to rfl
                  refine W.widen (k := (3 + 2 * np)) (n := (120 + 11 * np + 4 * cp2)) (by show (3 + 2 * np) + 0 ≤ (3 + 2 * np); omega) (by show (120 + 11 * np + 4 * cp2) + 0 ≤ (120 + 11 * np + 4 * cp2); omega) ?_
                  refine W.eq (g2 := F0 m 178 ls [.int (nI at115), .int (nI at2), .ref (a 3), .ref f2]) rfl ?_
                  have hO : OKP G h0 a (upd (upd (upd F 2 (nI sz)) 9 (nI (at115 + 1))) 2 (nI sz)) (updR R 1 (.ref pq)) Z (updA B 10 f116) J K2 w := hO.to rfl
                  obtain ⟨_, qr127, hqr128⟩ := hO.2.1 23 _ (sg_23 G h0 a _ _ _ _ _)
                  refine pc_V0 (G := G) (As := [.int (nI at2), .int (nI at115)]) (rest := [.ref f2]) hx hb hml hown hq hE hX pX0_al hP hD hS hA hl.1 (P_variable l G h0 a (upd (upd F 2 (nI sz)) 9 (nI (at115 + 1))) (updR R 1 (.ref pq)) Z (updA B 10 f116) J K2 w (nI at2) (nI at115) sz 0 0 g2 (by omega) hwp2.1 (fun o9 h9 => absurd h9 (by omega)) (by omega) hO) (gV pw_888 pw_889 pw_890 pw_796 pw_869) hV_X8_variable qr127 5 hqr128 rfl rfl rfl (Nat.le_of_ble_eq_true rfl) dX8_head_178 ⟨(by show (3 + 2 * np) + 1 ≤ (2 * (sz - at9) + 10); omega), (by show (120 + 11 * np + 4 * cp2) + 11 ≤ (60 * (sz - at9) + 400); omega)⟩ ⟨Nat.le_of_ble_eq_true rfl, Nat.le_of_ble_eq_true rfl⟩ (fun v126 u124 H locs hw125 hP hD hS => ?_)
                  obtain ⟨w, r129, K130, g131⟩ := u124
                  obtain ⟨hw125, h132, h133, hO⟩ := hw125
                  have h132 : NwR K2 K130 g2 g131 r129 0 0 1 := h132
                  have h133 : K130.2.1 0 r129 = 36 := h133
                  obtain rfl : v126 = some (.ref r129) := hw125
                  have hf134 : K130.1 q2 = 3 := (((h132).2.1.1 q2 (by rw [hq2]; decide)).1).trans hq2
                  have hf135 : K130.1 d0 = 4 := (((h132).2.1.1 d0 (by rw [hd2]; decide)).1).trans hd2
                  have hf136 : K130.1 f2 = 5 := (((h132).2.1.1 f2 (by rw [ht2]; decide)).1).trans ht2
                  have hf137 : K130.2.2.1 6 q2 = some f2 := (((h132).2.1.1 q2 (by rw [hq2]; decide)).2.2.1 6).trans hc62
                  have hO : OKP G h0 a (upd (upd F 2 (nI sz)) 9 (nI (at115 + 1))) (updR R 1 (.ref pq)) Z (updA B 10 f116) J K130 w := hO.to rfl
                  refine W.widen (k := ((3 + 2 * np) + 1)) (n := ((120 + 11 * np + 4 * cp2) + 11)) (by show (3 + 2 * np) + 1 ≤ ((3 + 2 * np) + 1); omega) (by show (120 + 11 * np + 4 * cp2) + 11 ≤ ((120 + 11 * np + 4 * cp2) + 11); omega) ?_
                  refine W.eq (g2 := F0 m 181 ls [.ref r129, .ref f2]) rfl ?_
                  have hwp138 := WPr.nd hwp2 h132
                  have hps139 := PgS.nd hps2 hwp2 h132
                  have hf140 : K130.1 r129 = 1 := h132.2.2.1.2.1
                  have hlc141 : LsC G K130 f2 1 np it2 cp2 := (LsC.wx (fun p hp => (h132.2.1.1 p hp).1) (by decide) (h132.2.1.1 f2 (by rw [ht2]; decide)) (fun e he _ => h132.2.1.1 e (by rw [he]; decide)) hlc2)
                  have hO : OKP G h0 a (upd (upd (upd F 2 (nI sz)) 9 (nI at9)) 9 (nI (at115 + 1))) (updR R 1 (.ref pq)) Z (updA B 10 f116) J K130 w := hO.to rfl
                  obtain ⟨qr145, hqr146⟩ := p_recv hO (by rw [hf136]; decide) (rep_5 hf136)
                  refine pn_V0 (G := G) (As := [.ref r129]) (rest := []) hx hb hml hown hq hE hX pX0_al hP hD hS hA hl.1 (L_addC l G h0 a (upd (upd (upd F 2 (nI sz)) 9 (nI at9)) 9 (nI (at115 + 1))) (updR R 1 (.ref pq)) Z (updA B 10 f116) J K130 w f2 1 np it2 cp2 r129 hlc141 (by decide) hf140 (by omega) (by omega) hO hl0) (gV pw_885 pw_886 pw_887 pw_32 pw_868) hV_Jx4a65c_add_9ea2d qr145 10 hqr146 rfl rfl rfl (Nat.le_of_ble_eq_true rfl) dX8_head_181 ⟨(by show ((3 + 2 * np) + 1) + 1 ≤ (2 * (sz - at9) + 10); omega), (by show ((120 + 11 * np + 4 * cp2) + 11) + (10 + np + np / 2) ≤ (60 * (sz - at9) + 400); omega)⟩ ⟨Nat.le_of_ble_eq_true rfl, Nat.le_of_ble_eq_true rfl⟩ (fun v144 u142 H locs hw143 hP hD hS => ?_) (fun ux ce9 q9 H9 locs9 hux hP9 hD9 hS9 hce hcv hcl => pb_out ux (ThQ.up (Thx.b (Thx.f Thx.rfl (by omega)) (by omega) (by decide)) hux) hnt hlocks hce hcv hcl hP9 hD9 hS9 (by show ((3 + 2 * np) + 1) + 1 ≤ (2 * (sz - at9) + 10); omega) (by show ((120 + 11 * np + 4 * cp2) + 11) + (10 + np + np / 2) ≤ (60 * (sz - at9) + 400); omega))
                  obtain ⟨w, K147, d148⟩ := u142
                  obtain ⟨hw143, h149, h150, h151, h152, h153, hO⟩ := hw143
                  have h149 : LsC G K147 f2 1 (np + 1) (upQ it2 np r129) (cp2 + d148) := h149
                  have h150 : AdQ K130 K147 f2 := h150
                  have h151 : N6 K130 K147 := h151
                  have h152 : cp2 + d148 ≤ 10 + 2 * (np + 1) := h152
                  have h153 : d148 ≤ 10 + np / 2 := h153
                  obtain rfl : v144 = some (.int 1) := hw143
                  have hO : OKP G h0 a (upd (upd F 2 (nI sz)) 9 (nI (at115 + 1))) (updR R 1 (.ref pq)) Z (updA B 10 f116) J K147 w := hO.to rfl
                  refine W.widen (k := (((3 + 2 * np) + 1) + 1)) (n := (((120 + 11 * np + 4 * cp2) + 11) + (4 * d148))) (by show ((3 + 2 * np) + 1) + 1 ≤ (((3 + 2 * np) + 1) + 1); omega) (by show ((120 + 11 * np + 4 * cp2) + 11) + (4 * d148) ≤ (((120 + 11 * np + 4 * cp2) + 11) + (4 * d148)); omega) ?_
                  refine W.eq (g2 := F0 m 184 ls [.int 1]) rfl ?_
                  have hg154 : g131 3 f2 = 3 := (h132.2.1.2 f2 (by rw [ht2]; decide) 3).trans hr2
                  have hwp155 : WPr G K147 g131 := WPr.add hwp138 h150 h151 hf136 (by rw [hg154]; exact h149) (by rw [hg154]; show _ ≤ 5000 ∧ _; omega)
                  have hps156 : PgS G K147 g131 (a 1) pq dr ml nd nm cp it s2 := by have z9 := PgS.add hps139 hwp138.2.2.1 h150 h151 hf136 (fun z => by have z2 := hg154; rw [z, hps139.1.2.2.2.2.2.2.1] at z2; exact absurd z2 (by decide)) (by rw [szL_of h149, szL_of hlc141]) (by rw [hg154]; decide) (by rw [hg154]; decide); rw [hg154] at z9; exact z9
                  have hf157 : K147.1 q2 = 3 := (h150.1 q2 (by rw [hf134]; decide)).1.trans hf134
                  have hf158 : K147.1 d0 = 4 := (h150.1 d0 (by rw [hf135]; decide)).1.trans hf135
                  have hf159 : K147.1 f2 = 5 := (h150.1 f2 (by rw [hf136]; decide)).1.trans hf136
                  have hf160 : K147.1 r129 = 1 := (h150.1 r129 (by rw [hf140]; decide)).1.trans hf140
                  refine lv_pop hx hb dX8_head_184 rfl ?_
                  refine lv_aload_n hx hb dX8_head_185 rfl (lv_at hl 8 rfl) ?_
                  refine lv_bipush (v := 39) hx hb dX8_head_186 (by decide) ?_
                  have hO : OKW G h0 a (upd (upd (upd (upd F 2 (nI sz)) 9 (nI (at115 + 1))) 2 (nI sz)) 9 (nI (at115 + 1))) (updR R 1 (.ref pq)) Z (updA B 10 f116) J K147.1 (fun q99 x99 => x99 = rep G a K147 q99) w := hO.to rfl
                  obtain ⟨_, qr164, hqr165⟩ := hO.2.1 23 _ (sg_23 G h0 a _ _ _ _ _)
                  refine pc_V0 (G := G) (As := [.int 39]) (rest := []) hx hb hml hown hq hE hX pX0_al hP hD hS hA hl.1 (P_takeIf l G h0 a (upd (upd F 2 (nI sz)) 9 (nI (at115 + 1))) (updR R 1 (.ref pq)) Z (updA B 10 f116) J K147.1 (fun q99 x99 => x99 = rep G a K147 q99) w 39 (at115 + 1) sz (by omega) (by omega) (by decide) hO) (gV pw_797 pw_798 pw_799 pw_796 pw_789) hV_X8_takeIf qr164 5 hqr165 rfl rfl rfl (Nat.le_of_ble_eq_true rfl) dX8_head_188 ⟨(by show (((3 + 2 * np) + 1) + 1) + 0 ≤ (2 * (sz - at9) + 10); omega), (by show (((120 + 11 * np + 4 * cp2) + 11) + (4 * d148)) + 0 ≤ (60 * (sz - at9) + 400); omega)⟩ ⟨Nat.le_of_ble_eq_true rfl, Nat.le_of_ble_eq_true rfl⟩ (fun v163 u161 H locs hw162 hP hD hS => ?_)
                  obtain ⟨w, r166⟩ := u161
                  obtain ⟨hw162, h167, h168, hO⟩ := hw162
                  have h167 : r166 ≤ 1 := h167
                  have h168 : (at115 + 1) + r166 ≤ sz := h168
                  obtain rfl : v163 = some (.int (nI r166)) := hw162
                  have hO : OKP G h0 a (upd (upd F 2 (nI sz)) 9 (nI ((at115 + 1) + r166))) (updR R 1 (.ref pq)) Z (updA B 10 f116) J K147 w := hO.to rfl
                  refine W.widen (k := (((3 + 2 * np) + 1) + 1)) (n := (((120 + 11 * np + 4 * cp2) + 11) + (4 * d148))) (by show (((3 + 2 * np) + 1) + 1) + 0 ≤ (((3 + 2 * np) + 1) + 1); omega) (by show (((120 + 11 * np + 4 * cp2) + 11) + (4 * d148)) + 0 ≤ (((120 + 11 * np + 4 * cp2) + 11) + (4 * d148)); omega) ?_
                  refine W.eq (g2 := F0 m 191 ls [.int (nI r166)]) rfl ?_
                  refine lv_istore (lv' := [(5, .int (nI r166)), (8, .int (nI at2)), (7, .int 1), (6, .int (nI i2)), (4, .ref q2), (3, .int (nI tk)), (2, .int x1), (1, .ref d0), (0, .ref (a 3))]) hx hb dX8_head_191 hl (by decide) rfl (fun ls hl => ?_)
                  refine lv_iinc (v := (nI (i2 + 1))) (lv' := [(6, .int (nI (i2 + 1))), (5, .int (nI r166)), (8, .int (nI at2)), (7, .int 1), (4, .ref q2), (3, .int (nI tk)), (2, .int x1), (1, .ref d0), (0, .ref (a 3))]) hx hb dX8_head_193 hl (k := 3) rfl (nI_1 i2) (by decide) rfl (fun ls hl => ?_)
                  refine lv_goto (tgt := 77) hx hb dX8_head_196 (by decide) ?_
                  refine W.widen (k := (3 + 2 * (np + 1))) (n := (120 + 11 * (np + 1) + 4 * (cp2 + d148))) (by show (((3 + 2 * np) + 1) + 1) ≤ _; omega) (by show (((120 + 11 * np + 4 * cp2) + 11) + (4 * d148)) ≤ _; omega) ?_
                  have hO : OKP G h0 a (upd (upd F 2 (nI sz)) 9 (nI ((at115 + 1) + r166))) (updR R 1 (.ref pq)) Z (updA B 10 f116) J K147 w := hO.to rfl
                  exact ih_i (i2 + 1) ((at115 + 1) + r166) f116 (nI r166) K147 g131 q2 f2 (np + 1) (cp2 + d148) (upQ it2 np r129) s2 _ _ _ _ (by omega) (by omega) (by omega) hwp155 hps156 (by omega) hf157 hf158 (((AdQ.sm h150 (by rw [hf134]; decide) (fun z => by have z2 := hf134; rw [z, hf136] at z2; exact absurd z2 (by decide)) (by rw [hf134]; decide)).2.2.1 6).trans ((h132.2.1.1 q2 (by rw [hq2]; decide)).2.2.1 6 |>.trans hc62)) hg154 h149 (by omega) hP hD hS hO (lv_sub hl [0, 1, 4, 5, 6, 7, 8] rfl)
                · have n169 : ¬ (np < 8) := fun h9 => c108 ((nI_ltI (a := np) (b := 8) (by omega) (by omega)).mpr h9)
                  refine lv_aload_n hx hb dX8_head_145 rfl (lv_at hl 7 rfl) ?_
                  refine c_get (v := .ref (a 1)) (C := RX8) (Tc := TX8) (N := 5) (ci := 5) hx hb hq pin_wsX80 hown hE hP hO 23 (sg_23 G h0 a _ _ _ _ _) rfl 0 (by decide) (hq _ pw_774) (fun _ h9 => h9) rfl dX8_head_146 ?_
                  refine lv_iconst (v := 2) hx hb dX8_head_149 (by decide) ?_
                  refine lv_aload_n hx hb dX8_head_150 rfl (lv_at hl 7 rfl) ?_
                  refine c_get (v := .int (nI at2)) (C := RX8) (Tc := TX8) (N := 5) (ci := 5) hx hb hq pin_wsX80 hown hE hP hO 23 (sg_23 G h0 a _ _ _ _ _) rfl 2 (by decide) (hq _ pw_776) (fun _ h9 => h9) rfl dX8_head_151 ?_
                  have hO : OKW G h0 a (upd (upd (upd (upd F 2 (nI sz)) 9 (nI at9)) 9 (nI at2)) 2 (nI sz)) (updR R 1 (.ref pq)) Z (updA B 10 f9) J K2.1 (fun q99 x99 => x99 = rep G a K2 q99) w := hO.to rfl
                  obtain ⟨_, qr173, hqr174⟩ := hO.2.1 2 _ (sg_2 G h0 a _ _ _ _ _)
                  refine pn_V0 (G := G) (As := [.int 2, .int (nI at2)]) (rest := []) hx hb hml hown hq hE hX pX0_al hP hD hS hA hl.1 (K_fail l G h0 a (upd (upd (upd F 2 (nI sz)) 9 (nI at9)) 9 (nI at2)) (updR R 1 (.ref pq)) Z (updA B 10 f9) J K2.1 (fun q99 x99 => x99 = rep G a K2 q99) w 2 (nI at2) sz (by omega) hO hl0) (gV pw_779 pw_65 pw_66 pw_59 pw_43) hV_X10_fail qr173 7 hqr174 rfl rfl rfl (Nat.le_of_ble_eq_true rfl) dX8_head_154 ⟨(by show (3 + 2 * np) + 1 ≤ (2 * (sz - at9) + 10); omega), (by show (120 + 11 * np + 4 * cp2) + 6 ≤ (60 * (sz - at9) + 400); omega)⟩ ⟨Nat.le_of_ble_eq_true rfl, Nat.le_of_ble_eq_true rfl⟩ (fun v172 u170 H locs hw171 hP hD hS => hw171.elim) (fun ux ce9 q9 H9 locs9 hux hP9 hD9 hS9 hce hcv hcl => pb_out ux (ThQ.up (Thx.same (Thx.b (Thx.f Thx.rfl (by omega)) (by omega) (by decide)) rfl) hux) hnt hlocks hce hcv hcl hP9 hD9 hS9 (by show (3 + 2 * np) + 1 ≤ (2 * (sz - at9) + 10); omega) (by show (120 + 11 * np + 4 * cp2) + 6 ≤ (60 * (sz - at9) + 400); omega))
              · have n175 : r98 = 0 := (nI_eq (a := r98) (b := 0) (by omega) (by omega)).mp c100
                refine lv_aload_n hx hb dX8_head_103 rfl (lv_at hl 6 rfl) ?_
                refine lv_iconst (v := 1) hx hb dX8_head_104 (by decide) ?_
                have hO : OKW G h0 a (upd (upd (upd (upd F 2 (nI sz)) 9 (nI at2)) 2 (nI sz)) 9 (nI at2)) (updR R 1 (.ref pq)) Z (updA B 10 f9) J K2.1 (fun q99 x99 => x99 = rep G a K2 q99) w := hO.to rfl
                obtain ⟨_, qr179, hqr180⟩ := hO.2.1 23 _ (sg_23 G h0 a _ _ _ _ _)
                refine pc_V0 (G := G) (As := [.int 1]) (rest := []) hx hb hml hown hq hE hX pX0_al hP hD hS hA hl.1 (P_sees l G h0 a (upd (upd F 2 (nI sz)) 9 (nI at2)) (updR R 1 (.ref pq)) Z (updA B 10 f9) J K2.1 (fun q99 x99 => x99 = rep G a K2 q99) w 1 at2 sz (by omega) (by omega) hO) (gV pw_803 pw_804 pw_805 pw_796 pw_775) hV_X8_sees qr179 5 hqr180 rfl rfl rfl (Nat.le_of_ble_eq_true rfl) dX8_head_105 ⟨(by show (3 + 2 * np) + 0 ≤ (2 * (sz - at9) + 10); omega), (by show (120 + 11 * np + 4 * cp2) + 0 ≤ (60 * (sz - at9) + 400); omega)⟩ ⟨Nat.le_of_ble_eq_true rfl, Nat.le_of_ble_eq_true rfl⟩ (fun v178 u176 H locs hw177 hP hD hS => ?_)
                obtain ⟨w, r181⟩ := u176
                obtain ⟨hw177, h182, hO⟩ := hw177
                have h182 : r181 ≤ 1 := h182
                obtain rfl : v178 = some (.int (nI r181)) := hw177
                have hO : OKP G h0 a (upd (upd F 2 (nI sz)) 9 (nI at2)) (updR R 1 (.ref pq)) Z (updA B 10 f9) J K2 w := hO.to rfl
                refine W.widen (k := (3 + 2 * np)) (n := (120 + 11 * np + 4 * cp2)) (by show (3 + 2 * np) + 0 ≤ (3 + 2 * np); omega) (by show (120 + 11 * np + 4 * cp2) + 0 ≤ (120 + 11 * np + 4 * cp2); omega) ?_
                refine W.eq (g2 := F0 m 108 ls [.int (nI r181)]) rfl ?_
                refine lv_if_ne (tgt := 120) hx hb dX8_head_108 (by decide) (fun c183 => ?_) (fun c183 => ?_)
                · have n184 : ¬ (r181 = 0) := fun h9 => c183 ((nI_eq (a := r181) (b := 0) (by omega) (by omega)).mpr h9)
                  refine lv_iconst (v := 1) hx hb dX8_head_120 (by decide) ?_
                  refine lv_goto (tgt := 125) hx hb dX8_head_121 (by decide) ?_
                  refine lv_istore (lv' := [(7, .int 1), (6, .int (nI i2)), (5, .int mo2), (4, .ref q2), (3, .int (nI tk)), (2, .int x1), (1, .ref d0), (0, .ref (a 3))]) hx hb dX8_head_125 hl (by decide) rfl (fun ls hl => ?_)
                  refine lv_iload hx hb dX8_head_127 (lv_at hl 0 rfl) ?_
                  refine lv_if_eq (tgt := 157) hx hb dX8_head_129 (by decide) (fun c185 => absurd c185 (by decide)) (fun c185 => ?_)
                  refine lv_aload hx hb dX8_head_132 (lv_at hl 3 rfl) ?_
                  refine p_get (v := .ref f2) (C := RX6) (Tc := TX6) (N := 12) (ci := 12) hx hb hq pin_wsX60 hown hE hP hO (by rw [hq2]; decide) (rep_3 hq2) rfl 4 (by decide) (hq _ pw_881) (fun _ h9 => h9) (congrArg (fun z => some (va_rf z)) hc62) dX8_head_134 ?_
                  have hO : OKP G h0 a (upd (upd F 2 (nI sz)) 9 (nI at2)) (updR R 1 (.ref pq)) Z (updA B 10 f9) J K2 w := hO.to rfl
                  obtain ⟨qr189, hqr190⟩ := p_recv hO (by rw [ht2]; decide) (rep_5 ht2)
                  refine pc_V0 (G := G) (As := []) (rest := []) hx hb hml hown hq hE hX pX0_al hP hD hS hA hl.1 (L_size l G h0 a (upd (upd F 2 (nI sz)) 9 (nI at2)) (updR R 1 (.ref pq)) Z (updA B 10 f9) J K2 w f2 1 np it2 hlc2.ls hO) (gV pw_882 pw_87 pw_88 pw_32 pw_16) hV_Jx4a65c_size_8abf5 qr189 10 hqr190 rfl rfl rfl (Nat.le_of_ble_eq_true rfl) dX8_head_137 ⟨(by show (3 + 2 * np) + 0 ≤ (2 * (sz - at9) + 10); omega), (by show (120 + 11 * np + 4 * cp2) + 0 ≤ (60 * (sz - at9) + 400); omega)⟩ ⟨Nat.le_of_ble_eq_true rfl, Nat.le_of_ble_eq_true rfl⟩ (fun v188 u186 H locs hw187 hP hD hS => ?_)
                  obtain ⟨w, _⟩ := u186
                  obtain ⟨hw187, hO⟩ := hw187
                  obtain rfl : v188 = some (.int (nI np)) := hw187
                  have hO : OKP G h0 a (upd (upd F 2 (nI sz)) 9 (nI at2)) (updR R 1 (.ref pq)) Z (updA B 10 f9) J K2 w := hO.to rfl
                  refine W.widen (k := (3 + 2 * np)) (n := (120 + 11 * np + 4 * cp2)) (by show (3 + 2 * np) + 0 ≤ (3 + 2 * np); omega) (by show (120 + 11 * np + 4 * cp2) + 0 ≤ (120 + 11 * np + 4 * cp2); omega) ?_
                  refine W.eq (g2 := F0 m 140 ls [.int (nI np)]) rfl ?_
                  refine lv_bipush (v := 8) hx hb dX8_head_140 (by decide) ?_
                  refine lv_icmp_lt (tgt := 157) hx hb dX8_head_142 (by decide) (fun c191 => ?_) (fun c191 => ?_)
                  · have n192 : np < 8 := (nI_ltI (a := np) (b := 8) (by omega) (by omega)).mp c191
                    refine lv_aload_n hx hb dX8_head_157 rfl (lv_at hl 7 rfl) ?_
                    refine lv_iconst (v := 1) hx hb dX8_head_158 (by decide) ?_
                    have hO : OKW G h0 a (upd (upd (upd (upd (upd F 2 (nI sz)) 9 (nI at9)) 9 (nI at2)) 2 (nI sz)) 9 (nI at2)) (updR R 1 (.ref pq)) Z (updA B 10 f9) J K2.1 (fun q99 x99 => x99 = rep G a K2 q99) w := hO.to rfl
                    obtain ⟨_, qr196, hqr197⟩ := hO.2.1 23 _ (sg_23 G h0 a _ _ _ _ _)
                    refine pn_V0 (G := G) (As := [.int 1]) (rest := []) hx hb hml hown hq hE hX pX0_al hP hD hS hA hl.1 (P_takeType l G h0 a (upd (upd (upd F 2 (nI sz)) 9 (nI at9)) 9 (nI at2)) (updR R 1 (.ref pq)) Z (updA B 10 f9) J K2.1 (fun q99 x99 => x99 = rep G a K2 q99) w 1 at2 sz (by omega) (by omega) hO hl0) (gV pw_825 pw_826 pw_827 pw_796 pw_821) hV_X8_takeType qr196 5 hqr197 rfl rfl rfl (Nat.le_of_ble_eq_true rfl) dX8_head_159 ⟨(by show (3 + 2 * np) + 1 ≤ (2 * (sz - at9) + 10); omega), (by show (120 + 11 * np + 4 * cp2) + 6 ≤ (60 * (sz - at9) + 400); omega)⟩ ⟨Nat.le_of_ble_eq_true rfl, Nat.le_of_ble_eq_true rfl⟩ (fun v195 u193 H locs hw194 hP hD hS => ?_) (fun ux ce9 q9 H9 locs9 hux hP9 hD9 hS9 hce hcv hcl => pb_out ux (ThQ.up (Thx.same (Thx.same (Thx.b (Thx.f Thx.rfl (by omega)) (by omega) (by decide)) rfl) rfl) hux) hnt hlocks hce hcv hcl hP9 hD9 hS9 (by show (3 + 2 * np) + 1 ≤ (2 * (sz - at9) + 10); omega) (by show (120 + 11 * np + 4 * cp2) + 6 ≤ (60 * (sz - at9) + 400); omega))
                    obtain ⟨w, at198, f199⟩ := u193
                    obtain ⟨hw194, h200, hO⟩ := hw194
                    have h200 : at2 + 1 ≤ at198 ∧ at198 ≤ sz := h200
                    obtain rfl : v195 = some (.int (nI at2)) := hw194
                    have hO : OKP G h0 a (upd (upd F 2 (nI sz)) 9 (nI at198)) (updR R 1 (.ref pq)) Z (updA B 10 f199) J K2 w := hO.to rfl
                    refine W.widen (k := (3 + 2 * np)) (n := (120 + 11 * np + 4 * cp2)) (by show (3 + 2 * np) + 0 ≤ (3 + 2 * np); omega) (by show (120 + 11 * np + 4 * cp2) + 0 ≤ (120 + 11 * np + 4 * cp2); omega) ?_
                    refine W.eq (g2 := F0 m 162 ls [.int (nI at2)]) rfl ?_
                    refine lv_istore (lv' := [(8, .int (nI at2)), (7, .int 1), (6, .int (nI i2)), (5, .int mo2), (4, .ref q2), (3, .int (nI tk)), (2, .int x1), (1, .ref d0), (0, .ref (a 3))]) hx hb dX8_head_162 hl (by decide) rfl (fun ls hl => ?_)
                    refine lv_aload hx hb dX8_head_164 (lv_at hl 4 rfl) ?_
                    refine p_get (v := .ref f2) (C := RX6) (Tc := TX6) (N := 12) (ci := 12) hx hb hq pin_wsX60 hown hE hP hO (by rw [hq2]; decide) (rep_3 hq2) rfl 4 (by decide) (hq _ pw_881) (fun _ h9 => h9) (congrArg (fun z => some (va_rf z)) hc62) dX8_head_166 ?_
                    refine lv_aload_n hx hb dX8_head_169 rfl (lv_at hl 8 rfl) ?_
                    refine lv_iload hx hb dX8_head_170 (lv_at hl 0 rfl) ?_
                    refine lv_aload_n hx hb dX8_head_172 rfl (lv_at hl 8 rfl) ?_
                    refine lv_bipush (v := 65) hx hb dX8_head_173 (by decide) ?_
                    have hO : OKW G h0 a (upd (upd (upd (upd (upd F 2 (nI sz)) 9 (nI at9)) 9 (nI at198)) 2 (nI sz)) 9 (nI at198)) (updR R 1 (.ref pq)) Z (updA B 10 f199) J K2.1 (fun q99 x99 => x99 = rep G a K2 q99) w := hO.to rfl
                    obtain ⟨_, qr204, hqr205⟩ := hO.2.1 23 _ (sg_23 G h0 a _ _ _ _ _)
                    refine pn_V0 (G := G) (As := [.int 65]) (rest := [.int (nI at2), .ref (a 3), .ref f2]) hx hb hml hown hq hE hX pX0_al hP hD hS hA hl.1 (P_take l G h0 a (upd (upd (upd F 2 (nI sz)) 9 (nI at9)) 9 (nI at198)) (updR R 1 (.ref pq)) Z (updA B 10 f199) J K2.1 (fun q99 x99 => x99 = rep G a K2 q99) w 65 at198 sz (by omega) (by omega) (by decide) hO hl0) (gV pw_793 pw_794 pw_795 pw_796 pw_781) hV_X8_take qr204 5 hqr205 rfl rfl rfl (Nat.le_of_ble_eq_true rfl) dX8_head_175 ⟨(by show (3 + 2 * np) + 1 ≤ (2 * (sz - at9) + 10); omega), (by show (120 + 11 * np + 4 * cp2) + 6 ≤ (60 * (sz - at9) + 400); omega)⟩ ⟨Nat.le_of_ble_eq_true rfl, Nat.le_of_ble_eq_true rfl⟩ (fun v203 u201 H locs hw202 hP hD hS => ?_) (fun ux ce9 q9 H9 locs9 hux hP9 hD9 hS9 hce hcv hcl => pb_out ux (ThQ.up (Thx.same (Thx.same (Thx.b (Thx.f Thx.rfl (by omega)) (by omega) (by decide)) rfl) rfl) hux) hnt hlocks hce hcv hcl hP9 hD9 hS9 (by show (3 + 2 * np) + 1 ≤ (2 * (sz - at9) + 10); omega) (by show (120 + 11 * np + 4 * cp2) + 6 ≤ (60 * (sz - at9) + 400); omega))
                    obtain ⟨w, _⟩ := u201
                    obtain ⟨hw202, h206, hO⟩ := hw202
                    have h206 : at198 + 1 ≤ sz := h206
                    obtain rfl : v203 = some (.int (nI at198)) := hw202
                    have hO : OKP G h0 a (upd (upd F 2 (nI sz)) 9 (nI (at198 + 1))) (updR R 1 (.ref pq)) Z (updA B 10 f199) J K2 w := hO.to rfl
                    refine W.widen (k := (3 + 2 * np)) (n := (120 + 11 * np + 4 * cp2)) (by show (3 + 2 * np) + 0 ≤ (3 + 2 * np); omega) (by show (120 + 11 * np + 4 * cp2) + 0 ≤ (120 + 11 * np + 4 * cp2); omega) ?_
                    refine W.eq (g2 := F0 m 178 ls [.int (nI at198), .int (nI at2), .ref (a 3), .ref f2]) rfl ?_
                    have hO : OKP G h0 a (upd (upd (upd F 2 (nI sz)) 9 (nI (at198 + 1))) 2 (nI sz)) (updR R 1 (.ref pq)) Z (updA B 10 f199) J K2 w := hO.to rfl
                    obtain ⟨_, qr210, hqr211⟩ := hO.2.1 23 _ (sg_23 G h0 a _ _ _ _ _)
                    refine pc_V0 (G := G) (As := [.int (nI at2), .int (nI at198)]) (rest := [.ref f2]) hx hb hml hown hq hE hX pX0_al hP hD hS hA hl.1 (P_variable l G h0 a (upd (upd F 2 (nI sz)) 9 (nI (at198 + 1))) (updR R 1 (.ref pq)) Z (updA B 10 f199) J K2 w (nI at2) (nI at198) sz 0 0 g2 (by omega) hwp2.1 (fun o9 h9 => absurd h9 (by omega)) (by omega) hO) (gV pw_888 pw_889 pw_890 pw_796 pw_869) hV_X8_variable qr210 5 hqr211 rfl rfl rfl (Nat.le_of_ble_eq_true rfl) dX8_head_178 ⟨(by show (3 + 2 * np) + 1 ≤ (2 * (sz - at9) + 10); omega), (by show (120 + 11 * np + 4 * cp2) + 11 ≤ (60 * (sz - at9) + 400); omega)⟩ ⟨Nat.le_of_ble_eq_true rfl, Nat.le_of_ble_eq_true rfl⟩ (fun v209 u207 H locs hw208 hP hD hS => ?_)
                    obtain ⟨w, r212, K213, g214⟩ := u207
                    obtain ⟨hw208, h215, h216, hO⟩ := hw208
                    have h215 : NwR K2 K213 g2 g214 r212 0 0 1 := h215
                    have h216 : K213.2.1 0 r212 = 36 := h216
                    obtain rfl : v209 = some (.ref r212) := hw208
                    have hf217 : K213.1 q2 = 3 := (((h215).2.1.1 q2 (by rw [hq2]; decide)).1).trans hq2
                    have hf218 : K213.1 d0 = 4 := (((h215).2.1.1 d0 (by rw [hd2]; decide)).1).trans hd2
                    have hf219 : K213.1 f2 = 5 := (((h215).2.1.1 f2 (by rw [ht2]; decide)).1).trans ht2
                    have hf220 : K213.2.2.1 6 q2 = some f2 := (((h215).2.1.1 q2 (by rw [hq2]; decide)).2.2.1 6).trans hc62
                    have hO : OKP G h0 a (upd (upd F 2 (nI sz)) 9 (nI (at198 + 1))) (updR R 1 (.ref pq)) Z (updA B 10 f199) J K213 w := hO.to rfl
                    refine W.widen (k := ((3 + 2 * np) + 1)) (n := ((120 + 11 * np + 4 * cp2) + 11)) (by show (3 + 2 * np) + 1 ≤ ((3 + 2 * np) + 1); omega) (by show (120 + 11 * np + 4 * cp2) + 11 ≤ ((120 + 11 * np + 4 * cp2) + 11); omega) ?_
                    refine W.eq (g2 := F0 m 181 ls [.ref r212, .ref f2]) rfl ?_
                    have hwp221 := WPr.nd hwp2 h215
                    have hps222 := PgS.nd hps2 hwp2 h215
                    have hf223 : K213.1 r212 = 1 := h215.2.2.1.2.1
                    have hlc224 : LsC G K213 f2 1 np it2 cp2 := (LsC.wx (fun p hp => (h215.2.1.1 p hp).1) (by decide) (h215.2.1.1 f2 (by rw [ht2]; decide)) (fun e he _ => h215.2.1.1 e (by rw [he]; decide)) hlc2)
                    have hO : OKP G h0 a (upd (upd (upd F 2 (nI sz)) 9 (nI at9)) 9 (nI (at198 + 1))) (updR R 1 (.ref pq)) Z (updA B 10 f199) J K213 w := hO.to rfl
                    obtain ⟨qr228, hqr229⟩ := p_recv hO (by rw [hf219]; decide) (rep_5 hf219)
                    refine pn_V0 (G := G) (As := [.ref r212]) (rest := []) hx hb hml hown hq hE hX pX0_al hP hD hS hA hl.1 (L_addC l G h0 a (upd (upd (upd F 2 (nI sz)) 9 (nI at9)) 9 (nI (at198 + 1))) (updR R 1 (.ref pq)) Z (updA B 10 f199) J K213 w f2 1 np it2 cp2 r212 hlc224 (by decide) hf223 (by omega) (by omega) hO hl0) (gV pw_885 pw_886 pw_887 pw_32 pw_868) hV_Jx4a65c_add_9ea2d qr228 10 hqr229 rfl rfl rfl (Nat.le_of_ble_eq_true rfl) dX8_head_181 ⟨(by show ((3 + 2 * np) + 1) + 1 ≤ (2 * (sz - at9) + 10); omega), (by show ((120 + 11 * np + 4 * cp2) + 11) + (10 + np + np / 2) ≤ (60 * (sz - at9) + 400); omega)⟩ ⟨Nat.le_of_ble_eq_true rfl, Nat.le_of_ble_eq_true rfl⟩ (fun v227 u225 H locs hw226 hP hD hS => ?_) (fun ux ce9 q9 H9 locs9 hux hP9 hD9 hS9 hce hcv hcl => pb_out ux (ThQ.up (Thx.b (Thx.f Thx.rfl (by omega)) (by omega) (by decide)) hux) hnt hlocks hce hcv hcl hP9 hD9 hS9 (by show ((3 + 2 * np) + 1) + 1 ≤ (2 * (sz - at9) + 10); omega) (by show ((120 + 11 * np + 4 * cp2) + 11) + (10 + np + np / 2) ≤ (60 * (sz - at9) + 400); omega))
                    obtain ⟨w, K230, d231⟩ := u225
                    obtain ⟨hw226, h232, h233, h234, h235, h236, hO⟩ := hw226
                    have h232 : LsC G K230 f2 1 (np + 1) (upQ it2 np r212) (cp2 + d231) := h232
                    have h233 : AdQ K213 K230 f2 := h233
                    have h234 : N6 K213 K230 := h234
                    have h235 : cp2 + d231 ≤ 10 + 2 * (np + 1) := h235
                    have h236 : d231 ≤ 10 + np / 2 := h236
                    obtain rfl : v227 = some (.int 1) := hw226
                    have hO : OKP G h0 a (upd (upd F 2 (nI sz)) 9 (nI (at198 + 1))) (updR R 1 (.ref pq)) Z (updA B 10 f199) J K230 w := hO.to rfl
                    refine W.widen (k := (((3 + 2 * np) + 1) + 1)) (n := (((120 + 11 * np + 4 * cp2) + 11) + (4 * d231))) (by show ((3 + 2 * np) + 1) + 1 ≤ (((3 + 2 * np) + 1) + 1); omega) (by show ((120 + 11 * np + 4 * cp2) + 11) + (4 * d231) ≤ (((120 + 11 * np + 4 * cp2) + 11) + (4 * d231)); omega) ?_
                    refine W.eq (g2 := F0 m 184 ls [.int 1]) rfl ?_
                    have hg237 : g214 3 f2 = 3 := (h215.2.1.2 f2 (by rw [ht2]; decide) 3).trans hr2
                    have hwp238 : WPr G K230 g214 := WPr.add hwp221 h233 h234 hf219 (by rw [hg237]; exact h232) (by rw [hg237]; show _ ≤ 5000 ∧ _; omega)
                    have hps239 : PgS G K230 g214 (a 1) pq dr ml nd nm cp it s2 := by have z9 := PgS.add hps222 hwp221.2.2.1 h233 h234 hf219 (fun z => by have z2 := hg237; rw [z, hps222.1.2.2.2.2.2.2.1] at z2; exact absurd z2 (by decide)) (by rw [szL_of h232, szL_of hlc224]) (by rw [hg237]; decide) (by rw [hg237]; decide); rw [hg237] at z9; exact z9
                    have hf240 : K230.1 q2 = 3 := (h233.1 q2 (by rw [hf217]; decide)).1.trans hf217
                    have hf241 : K230.1 d0 = 4 := (h233.1 d0 (by rw [hf218]; decide)).1.trans hf218
                    have hf242 : K230.1 f2 = 5 := (h233.1 f2 (by rw [hf219]; decide)).1.trans hf219
                    have hf243 : K230.1 r212 = 1 := (h233.1 r212 (by rw [hf223]; decide)).1.trans hf223
                    refine lv_pop hx hb dX8_head_184 rfl ?_
                    refine lv_aload_n hx hb dX8_head_185 rfl (lv_at hl 8 rfl) ?_
                    refine lv_bipush (v := 39) hx hb dX8_head_186 (by decide) ?_
                    have hO : OKW G h0 a (upd (upd (upd (upd F 2 (nI sz)) 9 (nI (at198 + 1))) 2 (nI sz)) 9 (nI (at198 + 1))) (updR R 1 (.ref pq)) Z (updA B 10 f199) J K230.1 (fun q99 x99 => x99 = rep G a K230 q99) w := hO.to rfl
                    obtain ⟨_, qr247, hqr248⟩ := hO.2.1 23 _ (sg_23 G h0 a _ _ _ _ _)
                    refine pc_V0 (G := G) (As := [.int 39]) (rest := []) hx hb hml hown hq hE hX pX0_al hP hD hS hA hl.1 (P_takeIf l G h0 a (upd (upd F 2 (nI sz)) 9 (nI (at198 + 1))) (updR R 1 (.ref pq)) Z (updA B 10 f199) J K230.1 (fun q99 x99 => x99 = rep G a K230 q99) w 39 (at198 + 1) sz (by omega) (by omega) (by decide) hO) (gV pw_797 pw_798 pw_799 pw_796 pw_789) hV_X8_takeIf qr247 5 hqr248 rfl rfl rfl (Nat.le_of_ble_eq_true rfl) dX8_head_188 ⟨(by show (((3 + 2 * np) + 1) + 1) + 0 ≤ (2 * (sz - at9) + 10); omega), (by show (((120 + 11 * np + 4 * cp2) + 11) + (4 * d231)) + 0 ≤ (60 * (sz - at9) + 400); omega)⟩ ⟨Nat.le_of_ble_eq_true rfl, Nat.le_of_ble_eq_true rfl⟩ (fun v246 u244 H locs hw245 hP hD hS => ?_)
                    obtain ⟨w, r249⟩ := u244
                    obtain ⟨hw245, h250, h251, hO⟩ := hw245
                    have h250 : r249 ≤ 1 := h250
                    have h251 : (at198 + 1) + r249 ≤ sz := h251
                    obtain rfl : v246 = some (.int (nI r249)) := hw245
                    have hO : OKP G h0 a (upd (upd F 2 (nI sz)) 9 (nI ((at198 + 1) + r249))) (updR R 1 (.ref pq)) Z (updA B 10 f199) J K230 w := hO.to rfl
                    refine W.widen (k := (((3 + 2 * np) + 1) + 1)) (n := (((120 + 11 * np + 4 * cp2) + 11) + (4 * d231))) (by show (((3 + 2 * np) + 1) + 1) + 0 ≤ (((3 + 2 * np) + 1) + 1); omega) (by show (((120 + 11 * np + 4 * cp2) + 11) + (4 * d231)) + 0 ≤ (((120 + 11 * np + 4 * cp2) + 11) + (4 * d231)); omega) ?_
                    refine W.eq (g2 := F0 m 191 ls [.int (nI r249)]) rfl ?_
                    refine lv_istore (lv' := [(5, .int (nI r249)), (8, .int (nI at2)), (7, .int 1), (6, .int (nI i2)), (4, .ref q2), (3, .int (nI tk)), (2, .int x1), (1, .ref d0), (0, .ref (a 3))]) hx hb dX8_head_191 hl (by decide) rfl (fun ls hl => ?_)
                    refine lv_iinc (v := (nI (i2 + 1))) (lv' := [(6, .int (nI (i2 + 1))), (5, .int (nI r249)), (8, .int (nI at2)), (7, .int 1), (4, .ref q2), (3, .int (nI tk)), (2, .int x1), (1, .ref d0), (0, .ref (a 3))]) hx hb dX8_head_193 hl (k := 3) rfl (nI_1 i2) (by decide) rfl (fun ls hl => ?_)
                    refine lv_goto (tgt := 77) hx hb dX8_head_196 (by decide) ?_
                    refine W.widen (k := (3 + 2 * (np + 1))) (n := (120 + 11 * (np + 1) + 4 * (cp2 + d231))) (by show (((3 + 2 * np) + 1) + 1) ≤ _; omega) (by show (((120 + 11 * np + 4 * cp2) + 11) + (4 * d231)) ≤ _; omega) ?_
                    have hO : OKP G h0 a (upd (upd F 2 (nI sz)) 9 (nI ((at198 + 1) + r249))) (updR R 1 (.ref pq)) Z (updA B 10 f199) J K230 w := hO.to rfl
                    exact ih_i (i2 + 1) ((at198 + 1) + r249) f199 (nI r249) K230 g214 q2 f2 (np + 1) (cp2 + d231) (upQ it2 np r212) s2 _ _ _ _ (by omega) (by omega) (by omega) hwp238 hps239 (by omega) hf240 hf241 (((AdQ.sm h233 (by rw [hf217]; decide) (fun z => by have z2 := hf217; rw [z, hf219] at z2; exact absurd z2 (by decide)) (by rw [hf217]; decide)).2.2.1 6).trans ((h215.2.1.1 q2 (by rw [hq2]; decide)).2.2.1 6 |>.trans hc62)) hg237 h232 (by omega) hP hD hS hO (lv_sub hl [0, 1, 4, 5, 6, 7, 8] rfl)
                  · have n252 : ¬ (np < 8) := fun h9 => c191 ((nI_ltI (a := np) (b := 8) (by omega) (by omega)).mpr h9)
                    refine lv_aload_n hx hb dX8_head_145 rfl (lv_at hl 7 rfl) ?_
                    refine c_get (v := .ref (a 1)) (C := RX8) (Tc := TX8) (N := 5) (ci := 5) hx hb hq pin_wsX80 hown hE hP hO 23 (sg_23 G h0 a _ _ _ _ _) rfl 0 (by decide) (hq _ pw_774) (fun _ h9 => h9) rfl dX8_head_146 ?_
                    refine lv_iconst (v := 2) hx hb dX8_head_149 (by decide) ?_
                    refine lv_aload_n hx hb dX8_head_150 rfl (lv_at hl 7 rfl) ?_
                    refine c_get (v := .int (nI at2)) (C := RX8) (Tc := TX8) (N := 5) (ci := 5) hx hb hq pin_wsX80 hown hE hP hO 23 (sg_23 G h0 a _ _ _ _ _) rfl 2 (by decide) (hq _ pw_776) (fun _ h9 => h9) rfl dX8_head_151 ?_
                    have hO : OKW G h0 a (upd (upd (upd (upd F 2 (nI sz)) 9 (nI at9)) 9 (nI at2)) 2 (nI sz)) (updR R 1 (.ref pq)) Z (updA B 10 f9) J K2.1 (fun q99 x99 => x99 = rep G a K2 q99) w := hO.to rfl
                    obtain ⟨_, qr256, hqr257⟩ := hO.2.1 2 _ (sg_2 G h0 a _ _ _ _ _)
                    refine pn_V0 (G := G) (As := [.int 2, .int (nI at2)]) (rest := []) hx hb hml hown hq hE hX pX0_al hP hD hS hA hl.1 (K_fail l G h0 a (upd (upd (upd F 2 (nI sz)) 9 (nI at9)) 9 (nI at2)) (updR R 1 (.ref pq)) Z (updA B 10 f9) J K2.1 (fun q99 x99 => x99 = rep G a K2 q99) w 2 (nI at2) sz (by omega) hO hl0) (gV pw_779 pw_65 pw_66 pw_59 pw_43) hV_X10_fail qr256 7 hqr257 rfl rfl rfl (Nat.le_of_ble_eq_true rfl) dX8_head_154 ⟨(by show (3 + 2 * np) + 1 ≤ (2 * (sz - at9) + 10); omega), (by show (120 + 11 * np + 4 * cp2) + 6 ≤ (60 * (sz - at9) + 400); omega)⟩ ⟨Nat.le_of_ble_eq_true rfl, Nat.le_of_ble_eq_true rfl⟩ (fun v255 u253 H locs hw254 hP hD hS => hw254.elim) (fun ux ce9 q9 H9 locs9 hux hP9 hD9 hS9 hce hcv hcl => pb_out ux (ThQ.up (Thx.same (Thx.b (Thx.f Thx.rfl (by omega)) (by omega) (by decide)) rfl) hux) hnt hlocks hce hcv hcl hP9 hD9 hS9 (by show (3 + 2 * np) + 1 ≤ (2 * (sz - at9) + 10); omega) (by show (120 + 11 * np + 4 * cp2) + 6 ≤ (60 * (sz - at9) + 400); omega))
                · have n258 : r181 = 0 := (nI_eq (a := r181) (b := 0) (by omega) (by omega)).mp c183
                  refine lv_aload_n hx hb dX8_head_111 rfl (lv_at hl 6 rfl) ?_
                  refine lv_bipush (v := 65) hx hb dX8_head_112 (by decide) ?_
                  have hO : OKW G h0 a (upd (upd (upd (upd F 2 (nI sz)) 9 (nI at2)) 2 (nI sz)) 9 (nI at2)) (updR R 1 (.ref pq)) Z (updA B 10 f9) J K2.1 (fun q99 x99 => x99 = rep G a K2 q99) w := hO.to rfl
                  obtain ⟨_, qr262, hqr263⟩ := hO.2.1 23 _ (sg_23 G h0 a _ _ _ _ _)
                  refine pc_V0 (G := G) (As := [.int 65]) (rest := []) hx hb hml hown hq hE hX pX0_al hP hD hS hA hl.1 (P_sees l G h0 a (upd (upd F 2 (nI sz)) 9 (nI at2)) (updR R 1 (.ref pq)) Z (updA B 10 f9) J K2.1 (fun q99 x99 => x99 = rep G a K2 q99) w 65 at2 sz (by omega) (by omega) hO) (gV pw_803 pw_804 pw_805 pw_796 pw_775) hV_X8_sees qr262 5 hqr263 rfl rfl rfl (Nat.le_of_ble_eq_true rfl) dX8_head_114 ⟨(by show (3 + 2 * np) + 0 ≤ (2 * (sz - at9) + 10); omega), (by show (120 + 11 * np + 4 * cp2) + 0 ≤ (60 * (sz - at9) + 400); omega)⟩ ⟨Nat.le_of_ble_eq_true rfl, Nat.le_of_ble_eq_true rfl⟩ (fun v261 u259 H locs hw260 hP hD hS => ?_)
                  obtain ⟨w, r264⟩ := u259
                  obtain ⟨hw260, h265, hO⟩ := hw260
                  have h265 : r264 ≤ 1 := h265
                  obtain rfl : v261 = some (.int (nI r264)) := hw260
                  have hO : OKP G h0 a (upd (upd F 2 (nI sz)) 9 (nI at2)) (updR R 1 (.ref pq)) Z (updA B 10 f9) J K2 w := hO.to rfl
                  refine W.widen (k := (3 + 2 * np)) (n := (120 + 11 * np + 4 * cp2)) (by show (3 + 2 * np) + 0 ≤ (3 + 2 * np); omega) (by show (120 + 11 * np + 4 * cp2) + 0 ≤ (120 + 11 * np + 4 * cp2); omega) ?_
                  refine W.eq (g2 := F0 m 117 ls [.int (nI r264)]) rfl ?_
                  refine lv_if_eq (tgt := 124) hx hb dX8_head_117 (by decide) (fun c266 => ?_) (fun c266 => ?_)
                  · have n267 : r264 = 0 := (nI_eq (a := r264) (b := 0) (by omega) (by omega)).mp c266
                    refine lv_iconst (v := 0) hx hb dX8_head_124 (by decide) ?_
                    refine lv_istore (lv' := [(7, .int 0), (6, .int (nI i2)), (5, .int mo2), (4, .ref q2), (3, .int (nI tk)), (2, .int x1), (1, .ref d0), (0, .ref (a 3))]) hx hb dX8_head_125 hl (by decide) rfl (fun ls hl => ?_)
                    refine lv_iload hx hb dX8_head_127 (lv_at hl 0 rfl) ?_
                    refine lv_if_eq (tgt := 157) hx hb dX8_head_129 (by decide) (fun c268 => ?_) (fun c268 => absurd c268 (by decide))
                    refine lv_aload_n hx hb dX8_head_157 rfl (lv_at hl 7 rfl) ?_
                    refine lv_iconst (v := 1) hx hb dX8_head_158 (by decide) ?_
                    have hO : OKW G h0 a (upd (upd (upd (upd (upd F 2 (nI sz)) 9 (nI at9)) 9 (nI at2)) 2 (nI sz)) 9 (nI at2)) (updR R 1 (.ref pq)) Z (updA B 10 f9) J K2.1 (fun q99 x99 => x99 = rep G a K2 q99) w := hO.to rfl
                    obtain ⟨_, qr272, hqr273⟩ := hO.2.1 23 _ (sg_23 G h0 a _ _ _ _ _)
                    refine pn_V0 (G := G) (As := [.int 1]) (rest := []) hx hb hml hown hq hE hX pX0_al hP hD hS hA hl.1 (P_takeType l G h0 a (upd (upd (upd F 2 (nI sz)) 9 (nI at9)) 9 (nI at2)) (updR R 1 (.ref pq)) Z (updA B 10 f9) J K2.1 (fun q99 x99 => x99 = rep G a K2 q99) w 1 at2 sz (by omega) (by omega) hO hl0) (gV pw_825 pw_826 pw_827 pw_796 pw_821) hV_X8_takeType qr272 5 hqr273 rfl rfl rfl (Nat.le_of_ble_eq_true rfl) dX8_head_159 ⟨(by show (3 + 2 * np) + 1 ≤ (2 * (sz - at9) + 10); omega), (by show (120 + 11 * np + 4 * cp2) + 6 ≤ (60 * (sz - at9) + 400); omega)⟩ ⟨Nat.le_of_ble_eq_true rfl, Nat.le_of_ble_eq_true rfl⟩ (fun v271 u269 H locs hw270 hP hD hS => ?_) (fun ux ce9 q9 H9 locs9 hux hP9 hD9 hS9 hce hcv hcl => pb_out ux (ThQ.up (Thx.same (Thx.same (Thx.b (Thx.f Thx.rfl (by omega)) (by omega) (by decide)) rfl) rfl) hux) hnt hlocks hce hcv hcl hP9 hD9 hS9 (by show (3 + 2 * np) + 1 ≤ (2 * (sz - at9) + 10); omega) (by show (120 + 11 * np + 4 * cp2) + 6 ≤ (60 * (sz - at9) + 400); omega))
                    obtain ⟨w, at274, f275⟩ := u269
                    obtain ⟨hw270, h276, hO⟩ := hw270
                    have h276 : at2 + 1 ≤ at274 ∧ at274 ≤ sz := h276
                    obtain rfl : v271 = some (.int (nI at2)) := hw270
                    have hO : OKP G h0 a (upd (upd F 2 (nI sz)) 9 (nI at274)) (updR R 1 (.ref pq)) Z (updA B 10 f275) J K2 w := hO.to rfl
                    refine W.widen (k := (3 + 2 * np)) (n := (120 + 11 * np + 4 * cp2)) (by show (3 + 2 * np) + 0 ≤ (3 + 2 * np); omega) (by show (120 + 11 * np + 4 * cp2) + 0 ≤ (120 + 11 * np + 4 * cp2); omega) ?_
                    refine W.eq (g2 := F0 m 162 ls [.int (nI at2)]) rfl ?_
                    refine lv_istore (lv' := [(8, .int (nI at2)), (7, .int 0), (6, .int (nI i2)), (5, .int mo2), (4, .ref q2), (3, .int (nI tk)), (2, .int x1), (1, .ref d0), (0, .ref (a 3))]) hx hb dX8_head_162 hl (by decide) rfl (fun ls hl => ?_)
                    refine lv_aload hx hb dX8_head_164 (lv_at hl 4 rfl) ?_
                    refine p_get (v := .ref f2) (C := RX6) (Tc := TX6) (N := 12) (ci := 12) hx hb hq pin_wsX60 hown hE hP hO (by rw [hq2]; decide) (rep_3 hq2) rfl 4 (by decide) (hq _ pw_881) (fun _ h9 => h9) (congrArg (fun z => some (va_rf z)) hc62) dX8_head_166 ?_
                    refine lv_aload_n hx hb dX8_head_169 rfl (lv_at hl 8 rfl) ?_
                    refine lv_iload hx hb dX8_head_170 (lv_at hl 0 rfl) ?_
                    refine lv_aload_n hx hb dX8_head_172 rfl (lv_at hl 8 rfl) ?_
                    refine lv_bipush (v := 65) hx hb dX8_head_173 (by decide) ?_
                    have hO : OKW G h0 a (upd (upd (upd (upd (upd F 2 (nI sz)) 9 (nI at9)) 9 (nI at274)) 2 (nI sz)) 9 (nI at274)) (updR R 1 (.ref pq)) Z (updA B 10 f275) J K2.1 (fun q99 x99 => x99 = rep G a K2 q99) w := hO.to rfl
                    obtain ⟨_, qr280, hqr281⟩ := hO.2.1 23 _ (sg_23 G h0 a _ _ _ _ _)
                    refine pn_V0 (G := G) (As := [.int 65]) (rest := [.int (nI at2), .ref (a 3), .ref f2]) hx hb hml hown hq hE hX pX0_al hP hD hS hA hl.1 (P_take l G h0 a (upd (upd (upd F 2 (nI sz)) 9 (nI at9)) 9 (nI at274)) (updR R 1 (.ref pq)) Z (updA B 10 f275) J K2.1 (fun q99 x99 => x99 = rep G a K2 q99) w 65 at274 sz (by omega) (by omega) (by decide) hO hl0) (gV pw_793 pw_794 pw_795 pw_796 pw_781) hV_X8_take qr280 5 hqr281 rfl rfl rfl (Nat.le_of_ble_eq_true rfl) dX8_head_175 ⟨(by show (3 + 2 * np) + 1 ≤ (2 * (sz - at9) + 10); omega), (by show (120 + 11 * np + 4 * cp2) + 6 ≤ (60 * (sz - at9) + 400); omega)⟩ ⟨Nat.le_of_ble_eq_true rfl, Nat.le_of_ble_eq_true rfl⟩ (fun v279 u277 H locs hw278 hP hD hS => ?_) (fun ux ce9 q9 H9 locs9 hux hP9 hD9 hS9 hce hcv hcl => pb_out ux (ThQ.up (Thx.same (Thx.same (Thx.b (Thx.f Thx.rfl (by omega)) (by omega) (by decide)) rfl) rfl) hux) hnt hlocks hce hcv hcl hP9 hD9 hS9 (by show (3 + 2 * np) + 1 ≤ (2 * (sz - at9) + 10); omega) (by show (120 + 11 * np + 4 * cp2) + 6 ≤ (60 * (sz - at9) + 400); omega))
                    obtain ⟨w, _⟩ := u277
                    obtain ⟨hw278, h282, hO⟩ := hw278
                    have h282 : at274 + 1 ≤ sz := h282
                    obtain rfl : v279 = some (.int (nI at274)) := hw278
                    have hO : OKP G h0 a (upd (upd F 2 (nI sz)) 9 (nI (at274 + 1))) (updR R 1 (.ref pq)) Z (updA B 10 f275) J K2 w := hO.to rfl
                    refine W.widen (k := (3 + 2 * np)) (n := (120 + 11 * np + 4 * cp2)) (by show (3 + 2 * np) + 0 ≤ (3 + 2 * np); omega) (by show (120 + 11 * np + 4 * cp2) + 0 ≤ (120 + 11 * np + 4 * cp2); omega) ?_
                    refine W.eq (g2 := F0 m 178 ls [.int (nI at274), .int (nI at2), .ref (a 3), .ref f2]) rfl ?_
                    have hO : OKP G h0 a (upd (upd (upd F 2 (nI sz)) 9 (nI (at274 + 1))) 2 (nI sz)) (updR R 1 (.ref pq)) Z (updA B 10 f275) J K2 w := hO.to rfl
                    obtain ⟨_, qr286, hqr287⟩ := hO.2.1 23 _ (sg_23 G h0 a _ _ _ _ _)
                    refine pc_V0 (G := G) (As := [.int (nI at2), .int (nI at274)]) (rest := [.ref f2]) hx hb hml hown hq hE hX pX0_al hP hD hS hA hl.1 (P_variable l G h0 a (upd (upd F 2 (nI sz)) 9 (nI (at274 + 1))) (updR R 1 (.ref pq)) Z (updA B 10 f275) J K2 w (nI at2) (nI at274) sz 0 0 g2 (by omega) hwp2.1 (fun o9 h9 => absurd h9 (by omega)) (by omega) hO) (gV pw_888 pw_889 pw_890 pw_796 pw_869) hV_X8_variable qr286 5 hqr287 rfl rfl rfl (Nat.le_of_ble_eq_true rfl) dX8_head_178 ⟨(by show (3 + 2 * np) + 1 ≤ (2 * (sz - at9) + 10); omega), (by show (120 + 11 * np + 4 * cp2) + 11 ≤ (60 * (sz - at9) + 400); omega)⟩ ⟨Nat.le_of_ble_eq_true rfl, Nat.le_of_ble_eq_true rfl⟩ (fun v285 u283 H locs hw284 hP hD hS => ?_)
                    obtain ⟨w, r288, K289, g290⟩ := u283
                    obtain ⟨hw284, h291, h292, hO⟩ := hw284
                    have h291 : NwR K2 K289 g2 g290 r288 0 0 1 := h291
                    have h292 : K289.2.1 0 r288 = 36 := h292
                    obtain rfl : v285 = some (.ref r288) := hw284
                    have hf293 : K289.1 q2 = 3 := (((h291).2.1.1 q2 (by rw [hq2]; decide)).1).trans hq2
                    have hf294 : K289.1 d0 = 4 := (((h291).2.1.1 d0 (by rw [hd2]; decide)).1).trans hd2
                    have hf295 : K289.1 f2 = 5 := (((h291).2.1.1 f2 (by rw [ht2]; decide)).1).trans ht2
                    have hf296 : K289.2.2.1 6 q2 = some f2 := (((h291).2.1.1 q2 (by rw [hq2]; decide)).2.2.1 6).trans hc62
                    have hO : OKP G h0 a (upd (upd F 2 (nI sz)) 9 (nI (at274 + 1))) (updR R 1 (.ref pq)) Z (updA B 10 f275) J K289 w := hO.to rfl
                    refine W.widen (k := ((3 + 2 * np) + 1)) (n := ((120 + 11 * np + 4 * cp2) + 11)) (by show (3 + 2 * np) + 1 ≤ ((3 + 2 * np) + 1); omega) (by show (120 + 11 * np + 4 * cp2) + 11 ≤ ((120 + 11 * np + 4 * cp2) + 11); omega) ?_
                    refine W.eq (g2 := F0 m 181 ls [.ref r288, .ref f2]) rfl ?_
                    have hwp297 := WPr.nd hwp2 h291
                    have hps298 := PgS.nd hps2 hwp2 h291
                    have hf299 : K289.1 r288 = 1 := h291.2.2.1.2.1
                    have hlc300 : LsC G K289 f2 1 np it2 cp2 := (LsC.wx (fun p hp => (h291.2.1.1 p hp).1) (by decide) (h291.2.1.1 f2 (by rw [ht2]; decide)) (fun e he _ => h291.2.1.1 e (by rw [he]; decide)) hlc2)
                    have hO : OKP G h0 a (upd (upd (upd F 2 (nI sz)) 9 (nI at9)) 9 (nI (at274 + 1))) (updR R 1 (.ref pq)) Z (updA B 10 f275) J K289 w := hO.to rfl
                    obtain ⟨qr304, hqr305⟩ := p_recv hO (by rw [hf295]; decide) (rep_5 hf295)
                    refine pn_V0 (G := G) (As := [.ref r288]) (rest := []) hx hb hml hown hq hE hX pX0_al hP hD hS hA hl.1 (L_addC l G h0 a (upd (upd (upd F 2 (nI sz)) 9 (nI at9)) 9 (nI (at274 + 1))) (updR R 1 (.ref pq)) Z (updA B 10 f275) J K289 w f2 1 np it2 cp2 r288 hlc300 (by decide) hf299 (by omega) (by omega) hO hl0) (gV pw_885 pw_886 pw_887 pw_32 pw_868) hV_Jx4a65c_add_9ea2d qr304 10 hqr305 rfl rfl rfl (Nat.le_of_ble_eq_true rfl) dX8_head_181 ⟨(by show ((3 + 2 * np) + 1) + 1 ≤ (2 * (sz - at9) + 10); omega), (by show ((120 + 11 * np + 4 * cp2) + 11) + (10 + np + np / 2) ≤ (60 * (sz - at9) + 400); omega)⟩ ⟨Nat.le_of_ble_eq_true rfl, Nat.le_of_ble_eq_true rfl⟩ (fun v303 u301 H locs hw302 hP hD hS => ?_) (fun ux ce9 q9 H9 locs9 hux hP9 hD9 hS9 hce hcv hcl => pb_out ux (ThQ.up (Thx.b (Thx.f Thx.rfl (by omega)) (by omega) (by decide)) hux) hnt hlocks hce hcv hcl hP9 hD9 hS9 (by show ((3 + 2 * np) + 1) + 1 ≤ (2 * (sz - at9) + 10); omega) (by show ((120 + 11 * np + 4 * cp2) + 11) + (10 + np + np / 2) ≤ (60 * (sz - at9) + 400); omega))
                    obtain ⟨w, K306, d307⟩ := u301
                    obtain ⟨hw302, h308, h309, h310, h311, h312, hO⟩ := hw302
                    have h308 : LsC G K306 f2 1 (np + 1) (upQ it2 np r288) (cp2 + d307) := h308
                    have h309 : AdQ K289 K306 f2 := h309
                    have h310 : N6 K289 K306 := h310
                    have h311 : cp2 + d307 ≤ 10 + 2 * (np + 1) := h311
                    have h312 : d307 ≤ 10 + np / 2 := h312
                    obtain rfl : v303 = some (.int 1) := hw302
                    have hO : OKP G h0 a (upd (upd F 2 (nI sz)) 9 (nI (at274 + 1))) (updR R 1 (.ref pq)) Z (updA B 10 f275) J K306 w := hO.to rfl
                    refine W.widen (k := (((3 + 2 * np) + 1) + 1)) (n := (((120 + 11 * np + 4 * cp2) + 11) + (4 * d307))) (by show ((3 + 2 * np) + 1) + 1 ≤ (((3 + 2 * np) + 1) + 1); omega) (by show ((120 + 11 * np + 4 * cp2) + 11) + (4 * d307) ≤ (((120 + 11 * np + 4 * cp2) + 11) + (4 * d307)); omega) ?_
                    refine W.eq (g2 := F0 m 184 ls [.int 1]) rfl ?_
                    have hg313 : g290 3 f2 = 3 := (h291.2.1.2 f2 (by rw [ht2]; decide) 3).trans hr2
                    have hwp314 : WPr G K306 g290 := WPr.add hwp297 h309 h310 hf295 (by rw [hg313]; exact h308) (by rw [hg313]; show _ ≤ 5000 ∧ _; omega)
                    have hps315 : PgS G K306 g290 (a 1) pq dr ml nd nm cp it s2 := by have z9 := PgS.add hps298 hwp297.2.2.1 h309 h310 hf295 (fun z => by have z2 := hg313; rw [z, hps298.1.2.2.2.2.2.2.1] at z2; exact absurd z2 (by decide)) (by rw [szL_of h308, szL_of hlc300]) (by rw [hg313]; decide) (by rw [hg313]; decide); rw [hg313] at z9; exact z9
                    have hf316 : K306.1 q2 = 3 := (h309.1 q2 (by rw [hf293]; decide)).1.trans hf293
                    have hf317 : K306.1 d0 = 4 := (h309.1 d0 (by rw [hf294]; decide)).1.trans hf294
                    have hf318 : K306.1 f2 = 5 := (h309.1 f2 (by rw [hf295]; decide)).1.trans hf295
                    have hf319 : K306.1 r288 = 1 := (h309.1 r288 (by rw [hf299]; decide)).1.trans hf299
                    refine lv_pop hx hb dX8_head_184 rfl ?_
                    refine lv_aload_n hx hb dX8_head_185 rfl (lv_at hl 8 rfl) ?_
                    refine lv_bipush (v := 39) hx hb dX8_head_186 (by decide) ?_
                    have hO : OKW G h0 a (upd (upd (upd (upd F 2 (nI sz)) 9 (nI (at274 + 1))) 2 (nI sz)) 9 (nI (at274 + 1))) (updR R 1 (.ref pq)) Z (updA B 10 f275) J K306.1 (fun q99 x99 => x99 = rep G a K306 q99) w := hO.to rfl
                    obtain ⟨_, qr323, hqr324⟩ := hO.2.1 23 _ (sg_23 G h0 a _ _ _ _ _)
                    refine pc_V0 (G := G) (As := [.int 39]) (rest := []) hx hb hml hown hq hE hX pX0_al hP hD hS hA hl.1 (P_takeIf l G h0 a (upd (upd F 2 (nI sz)) 9 (nI (at274 + 1))) (updR R 1 (.ref pq)) Z (updA B 10 f275) J K306.1 (fun q99 x99 => x99 = rep G a K306 q99) w 39 (at274 + 1) sz (by omega) (by omega) (by decide) hO) (gV pw_797 pw_798 pw_799 pw_796 pw_789) hV_X8_takeIf qr323 5 hqr324 rfl rfl rfl (Nat.le_of_ble_eq_true rfl) dX8_head_188 ⟨(by show (((3 + 2 * np) + 1) + 1) + 0 ≤ (2 * (sz - at9) + 10); omega), (by show (((120 + 11 * np + 4 * cp2) + 11) + (4 * d307)) + 0 ≤ (60 * (sz - at9) + 400); omega)⟩ ⟨Nat.le_of_ble_eq_true rfl, Nat.le_of_ble_eq_true rfl⟩ (fun v322 u320 H locs hw321 hP hD hS => ?_)
                    obtain ⟨w, r325⟩ := u320
                    obtain ⟨hw321, h326, h327, hO⟩ := hw321
                    have h326 : r325 ≤ 1 := h326
                    have h327 : (at274 + 1) + r325 ≤ sz := h327
                    obtain rfl : v322 = some (.int (nI r325)) := hw321
                    have hO : OKP G h0 a (upd (upd F 2 (nI sz)) 9 (nI ((at274 + 1) + r325))) (updR R 1 (.ref pq)) Z (updA B 10 f275) J K306 w := hO.to rfl
                    refine W.widen (k := (((3 + 2 * np) + 1) + 1)) (n := (((120 + 11 * np + 4 * cp2) + 11) + (4 * d307))) (by show (((3 + 2 * np) + 1) + 1) + 0 ≤ (((3 + 2 * np) + 1) + 1); omega) (by show (((120 + 11 * np + 4 * cp2) + 11) + (4 * d307)) + 0 ≤ (((120 + 11 * np + 4 * cp2) + 11) + (4 * d307)); omega) ?_
                    refine W.eq (g2 := F0 m 191 ls [.int (nI r325)]) rfl ?_
                    refine lv_istore (lv' := [(5, .int (nI r325)), (8, .int (nI at2)), (7, .int 0), (6, .int (nI i2)), (4, .ref q2), (3, .int (nI tk)), (2, .int x1), (1, .ref d0), (0, .ref (a 3))]) hx hb dX8_head_191 hl (by decide) rfl (fun ls hl => ?_)
                    refine lv_iinc (v := (nI (i2 + 1))) (lv' := [(6, .int (nI (i2 + 1))), (5, .int (nI r325)), (8, .int (nI at2)), (7, .int 0), (4, .ref q2), (3, .int (nI tk)), (2, .int x1), (1, .ref d0), (0, .ref (a 3))]) hx hb dX8_head_193 hl (k := 3) rfl (nI_1 i2) (by decide) rfl (fun ls hl => ?_)
                    refine lv_goto (tgt := 77) hx hb dX8_head_196 (by decide) ?_
                    refine W.widen (k := (3 + 2 * (np + 1))) (n := (120 + 11 * (np + 1) + 4 * (cp2 + d307))) (by show (((3 + 2 * np) + 1) + 1) ≤ _; omega) (by show (((120 + 11 * np + 4 * cp2) + 11) + (4 * d307)) ≤ _; omega) ?_
                    have hO : OKP G h0 a (upd (upd F 2 (nI sz)) 9 (nI ((at274 + 1) + r325))) (updR R 1 (.ref pq)) Z (updA B 10 f275) J K306 w := hO.to rfl
                    exact ih_i (i2 + 1) ((at274 + 1) + r325) f275 (nI r325) K306 g290 q2 f2 (np + 1) (cp2 + d307) (upQ it2 np r288) s2 _ _ _ _ (by omega) (by omega) (by omega) hwp314 hps315 (by omega) hf316 hf317 (((AdQ.sm h309 (by rw [hf293]; decide) (fun z => by have z2 := hf293; rw [z, hf295] at z2; exact absurd z2 (by decide)) (by rw [hf293]; decide)).2.2.1 6).trans ((h291.2.1.1 q2 (by rw [hq2]; decide)).2.2.1 6 |>.trans hc62)) hg313 h308 (by omega) hP hD hS hO (lv_sub hl [0, 1, 4, 5, 6, 7, 8] rfl)
                  · have n328 : ¬ (r264 = 0) := fun h9 => c266 ((nI_eq (a := r264) (b := 0) (by omega) (by omega)).mpr h9)
                    refine lv_iconst (v := 1) hx hb dX8_head_120 (by decide) ?_
                    refine lv_goto (tgt := 125) hx hb dX8_head_121 (by decide) ?_
                    refine lv_istore (lv' := [(7, .int 1), (6, .int (nI i2)), (5, .int mo2), (4, .ref q2), (3, .int (nI tk)), (2, .int x1), (1, .ref d0), (0, .ref (a 3))]) hx hb dX8_head_125 hl (by decide) rfl (fun ls hl => ?_)
                    refine lv_iload hx hb dX8_head_127 (lv_at hl 0 rfl) ?_
                    refine lv_if_eq (tgt := 157) hx hb dX8_head_129 (by decide) (fun c329 => absurd c329 (by decide)) (fun c329 => ?_)
                    refine lv_aload hx hb dX8_head_132 (lv_at hl 3 rfl) ?_
                    refine p_get (v := .ref f2) (C := RX6) (Tc := TX6) (N := 12) (ci := 12) hx hb hq pin_wsX60 hown hE hP hO (by rw [hq2]; decide) (rep_3 hq2) rfl 4 (by decide) (hq _ pw_881) (fun _ h9 => h9) (congrArg (fun z => some (va_rf z)) hc62) dX8_head_134 ?_
                    have hO : OKP G h0 a (upd (upd F 2 (nI sz)) 9 (nI at2)) (updR R 1 (.ref pq)) Z (updA B 10 f9) J K2 w := hO.to rfl
                    obtain ⟨qr333, hqr334⟩ := p_recv hO (by rw [ht2]; decide) (rep_5 ht2)
                    refine pc_V0 (G := G) (As := []) (rest := []) hx hb hml hown hq hE hX pX0_al hP hD hS hA hl.1 (L_size l G h0 a (upd (upd F 2 (nI sz)) 9 (nI at2)) (updR R 1 (.ref pq)) Z (updA B 10 f9) J K2 w f2 1 np it2 hlc2.ls hO) (gV pw_882 pw_87 pw_88 pw_32 pw_16) hV_Jx4a65c_size_8abf5 qr333 10 hqr334 rfl rfl rfl (Nat.le_of_ble_eq_true rfl) dX8_head_137 ⟨(by show (3 + 2 * np) + 0 ≤ (2 * (sz - at9) + 10); omega), (by show (120 + 11 * np + 4 * cp2) + 0 ≤ (60 * (sz - at9) + 400); omega)⟩ ⟨Nat.le_of_ble_eq_true rfl, Nat.le_of_ble_eq_true rfl⟩ (fun v332 u330 H locs hw331 hP hD hS => ?_)
                    obtain ⟨w, _⟩ := u330
                    obtain ⟨hw331, hO⟩ := hw331
                    obtain rfl : v332 = some (.int (nI np)) := hw331
                    have hO : OKP G h0 a (upd (upd F 2 (nI sz)) 9 (nI at2)) (updR R 1 (.ref pq)) Z (updA B 10 f9) J K2 w := hO.to rfl
                    refine W.widen (k := (3 + 2 * np)) (n := (120 + 11 * np + 4 * cp2)) (by show (3 + 2 * np) + 0 ≤ (3 + 2 * np); omega) (by show (120 + 11 * np + 4 * cp2) + 0 ≤ (120 + 11 * np + 4 * cp2); omega) ?_
                    refine W.eq (g2 := F0 m 140 ls [.int (nI np)]) rfl ?_
                    refine lv_bipush (v := 8) hx hb dX8_head_140 (by decide) ?_
                    refine lv_icmp_lt (tgt := 157) hx hb dX8_head_142 (by decide) (fun c335 => ?_) (fun c335 => ?_)
                    · have n336 : np < 8 := (nI_ltI (a := np) (b := 8) (by omega) (by omega)).mp c335
                      refine lv_aload_n hx hb dX8_head_157 rfl (lv_at hl 7 rfl) ?_
                      refine lv_iconst (v := 1) hx hb dX8_head_158 (by decide) ?_
                      have hO : OKW G h0 a (upd (upd (upd (upd (upd F 2 (nI sz)) 9 (nI at9)) 9 (nI at2)) 2 (nI sz)) 9 (nI at2)) (updR R 1 (.ref pq)) Z (updA B 10 f9) J K2.1 (fun q99 x99 => x99 = rep G a K2 q99) w := hO.to rfl
                      obtain ⟨_, qr340, hqr341⟩ := hO.2.1 23 _ (sg_23 G h0 a _ _ _ _ _)
                      refine pn_V0 (G := G) (As := [.int 1]) (rest := []) hx hb hml hown hq hE hX pX0_al hP hD hS hA hl.1 (P_takeType l G h0 a (upd (upd (upd F 2 (nI sz)) 9 (nI at9)) 9 (nI at2)) (updR R 1 (.ref pq)) Z (updA B 10 f9) J K2.1 (fun q99 x99 => x99 = rep G a K2 q99) w 1 at2 sz (by omega) (by omega) hO hl0) (gV pw_825 pw_826 pw_827 pw_796 pw_821) hV_X8_takeType qr340 5 hqr341 rfl rfl rfl (Nat.le_of_ble_eq_true rfl) dX8_head_159 ⟨(by show (3 + 2 * np) + 1 ≤ (2 * (sz - at9) + 10); omega), (by show (120 + 11 * np + 4 * cp2) + 6 ≤ (60 * (sz - at9) + 400); omega)⟩ ⟨Nat.le_of_ble_eq_true rfl, Nat.le_of_ble_eq_true rfl⟩ (fun v339 u337 H locs hw338 hP hD hS => ?_) (fun ux ce9 q9 H9 locs9 hux hP9 hD9 hS9 hce hcv hcl => pb_out ux (ThQ.up (Thx.same (Thx.same (Thx.b (Thx.f Thx.rfl (by omega)) (by omega) (by decide)) rfl) rfl) hux) hnt hlocks hce hcv hcl hP9 hD9 hS9 (by show (3 + 2 * np) + 1 ≤ (2 * (sz - at9) + 10); omega) (by show (120 + 11 * np + 4 * cp2) + 6 ≤ (60 * (sz - at9) + 400); omega))
                      obtain ⟨w, at342, f343⟩ := u337
                      obtain ⟨hw338, h344, hO⟩ := hw338
                      have h344 : at2 + 1 ≤ at342 ∧ at342 ≤ sz := h344
                      obtain rfl : v339 = some (.int (nI at2)) := hw338
                      have hO : OKP G h0 a (upd (upd F 2 (nI sz)) 9 (nI at342)) (updR R 1 (.ref pq)) Z (updA B 10 f343) J K2 w := hO.to rfl
                      refine W.widen (k := (3 + 2 * np)) (n := (120 + 11 * np + 4 * cp2)) (by show (3 + 2 * np) + 0 ≤ (3 + 2 * np); omega) (by show (120 + 11 * np + 4 * cp2) + 0 ≤ (120 + 11 * np + 4 * cp2); omega) ?_
                      refine W.eq (g2 := F0 m 162 ls [.int (nI at2)]) rfl ?_
                      refine lv_istore (lv' := [(8, .int (nI at2)), (7, .int 1), (6, .int (nI i2)), (5, .int mo2), (4, .ref q2), (3, .int (nI tk)), (2, .int x1), (1, .ref d0), (0, .ref (a 3))]) hx hb dX8_head_162 hl (by decide) rfl (fun ls hl => ?_)
                      refine lv_aload hx hb dX8_head_164 (lv_at hl 4 rfl) ?_
                      refine p_get (v := .ref f2) (C := RX6) (Tc := TX6) (N := 12) (ci := 12) hx hb hq pin_wsX60 hown hE hP hO (by rw [hq2]; decide) (rep_3 hq2) rfl 4 (by decide) (hq _ pw_881) (fun _ h9 => h9) (congrArg (fun z => some (va_rf z)) hc62) dX8_head_166 ?_
                      refine lv_aload_n hx hb dX8_head_169 rfl (lv_at hl 8 rfl) ?_
                      refine lv_iload hx hb dX8_head_170 (lv_at hl 0 rfl) ?_
                      refine lv_aload_n hx hb dX8_head_172 rfl (lv_at hl 8 rfl) ?_
                      refine lv_bipush (v := 65) hx hb dX8_head_173 (by decide) ?_
                      have hO : OKW G h0 a (upd (upd (upd (upd (upd F 2 (nI sz)) 9 (nI at9)) 9 (nI at342)) 2 (nI sz)) 9 (nI at342)) (updR R 1 (.ref pq)) Z (updA B 10 f343) J K2.1 (fun q99 x99 => x99 = rep G a K2 q99) w := hO.to rfl
                      obtain ⟨_, qr348, hqr349⟩ := hO.2.1 23 _ (sg_23 G h0 a _ _ _ _ _)
                      refine pn_V0 (G := G) (As := [.int 65]) (rest := [.int (nI at2), .ref (a 3), .ref f2]) hx hb hml hown hq hE hX pX0_al hP hD hS hA hl.1 (P_take l G h0 a (upd (upd (upd F 2 (nI sz)) 9 (nI at9)) 9 (nI at342)) (updR R 1 (.ref pq)) Z (updA B 10 f343) J K2.1 (fun q99 x99 => x99 = rep G a K2 q99) w 65 at342 sz (by omega) (by omega) (by decide) hO hl0) (gV pw_793 pw_794 pw_795 pw_796 pw_781) hV_X8_take qr348 5 hqr349 rfl rfl rfl (Nat.le_of_ble_eq_true rfl) dX8_head_175 ⟨(by show (3 + 2 * np) + 1 ≤ (2 * (sz - at9) + 10); omega), (by show (120 + 11 * np + 4 * cp2) + 6 ≤ (60 * (sz - at9) + 400); omega)⟩ ⟨Nat.le_of_ble_eq_true rfl, Nat.le_of_ble_eq_true rfl⟩ (fun v347 u345 H locs hw346 hP hD hS => ?_) (fun ux ce9 q9 H9 locs9 hux hP9 hD9 hS9 hce hcv hcl => pb_out ux (ThQ.up (Thx.same (Thx.same (Thx.b (Thx.f Thx.rfl (by omega)) (by omega) (by decide)) rfl) rfl) hux) hnt hlocks hce hcv hcl hP9 hD9 hS9 (by show (3 + 2 * np) + 1 ≤ (2 * (sz - at9) + 10); omega) (by show (120 + 11 * np + 4 * cp2) + 6 ≤ (60 * (sz - at9) + 400); omega))
                      obtain ⟨w, _⟩ := u345
                      obtain ⟨hw346, h350, hO⟩ := hw346
                      have h350 : at342 + 1 ≤ sz := h350
                      obtain rfl : v347 = some (.int (nI at342)) := hw346
                      have hO : OKP G h0 a (upd (upd F 2 (nI sz)) 9 (nI (at342 + 1))) (updR R 1 (.ref pq)) Z (updA B 10 f343) J K2 w := hO.to rfl
                      refine W.widen (k := (3 + 2 * np)) (n := (120 + 11 * np + 4 * cp2)) (by show (3 + 2 * np) + 0 ≤ (3 + 2 * np); omega) (by show (120 + 11 * np + 4 * cp2) + 0 ≤ (120 + 11 * np + 4 * cp2); omega) ?_
                      refine W.eq (g2 := F0 m 178 ls [.int (nI at342), .int (nI at2), .ref (a 3), .ref f2]) rfl ?_
                      have hO : OKP G h0 a (upd (upd (upd F 2 (nI sz)) 9 (nI (at342 + 1))) 2 (nI sz)) (updR R 1 (.ref pq)) Z (updA B 10 f343) J K2 w := hO.to rfl
                      obtain ⟨_, qr354, hqr355⟩ := hO.2.1 23 _ (sg_23 G h0 a _ _ _ _ _)
                      refine pc_V0 (G := G) (As := [.int (nI at2), .int (nI at342)]) (rest := [.ref f2]) hx hb hml hown hq hE hX pX0_al hP hD hS hA hl.1 (P_variable l G h0 a (upd (upd F 2 (nI sz)) 9 (nI (at342 + 1))) (updR R 1 (.ref pq)) Z (updA B 10 f343) J K2 w (nI at2) (nI at342) sz 0 0 g2 (by omega) hwp2.1 (fun o9 h9 => absurd h9 (by omega)) (by omega) hO) (gV pw_888 pw_889 pw_890 pw_796 pw_869) hV_X8_variable qr354 5 hqr355 rfl rfl rfl (Nat.le_of_ble_eq_true rfl) dX8_head_178 ⟨(by show (3 + 2 * np) + 1 ≤ (2 * (sz - at9) + 10); omega), (by show (120 + 11 * np + 4 * cp2) + 11 ≤ (60 * (sz - at9) + 400); omega)⟩ ⟨Nat.le_of_ble_eq_true rfl, Nat.le_of_ble_eq_true rfl⟩ (fun v353 u351 H locs hw352 hP hD hS => ?_)
                      obtain ⟨w, r356, K357, g358⟩ := u351
                      obtain ⟨hw352, h359, h360, hO⟩ := hw352
                      have h359 : NwR K2 K357 g2 g358 r356 0 0 1 := h359
                      have h360 : K357.2.1 0 r356 = 36 := h360
                      obtain rfl : v353 = some (.ref r356) := hw352
                      have hf361 : K357.1 q2 = 3 := (((h359).2.1.1 q2 (by rw [hq2]; decide)).1).trans hq2
                      have hf362 : K357.1 d0 = 4 := (((h359).2.1.1 d0 (by rw [hd2]; decide)).1).trans hd2
                      have hf363 : K357.1 f2 = 5 := (((h359).2.1.1 f2 (by rw [ht2]; decide)).1).trans ht2
                      have hf364 : K357.2.2.1 6 q2 = some f2 := (((h359).2.1.1 q2 (by rw [hq2]; decide)).2.2.1 6).trans hc62
                      have hO : OKP G h0 a (upd (upd F 2 (nI sz)) 9 (nI (at342 + 1))) (updR R 1 (.ref pq)) Z (updA B 10 f343) J K357 w := hO.to rfl
                      refine W.widen (k := ((3 + 2 * np) + 1)) (n := ((120 + 11 * np + 4 * cp2) + 11)) (by show (3 + 2 * np) + 1 ≤ ((3 + 2 * np) + 1); omega) (by show (120 + 11 * np + 4 * cp2) + 11 ≤ ((120 + 11 * np + 4 * cp2) + 11); omega) ?_
                      refine W.eq (g2 := F0 m 181 ls [.ref r356, .ref f2]) rfl ?_
                      have hwp365 := WPr.nd hwp2 h359
                      have hps366 := PgS.nd hps2 hwp2 h359
                      have hf367 : K357.1 r356 = 1 := h359.2.2.1.2.1
                      have hlc368 : LsC G K357 f2 1 np it2 cp2 := (LsC.wx (fun p hp => (h359.2.1.1 p hp).1) (by decide) (h359.2.1.1 f2 (by rw [ht2]; decide)) (fun e he _ => h359.2.1.1 e (by rw [he]; decide)) hlc2)
                      have hO : OKP G h0 a (upd (upd (upd F 2 (nI sz)) 9 (nI at9)) 9 (nI (at342 + 1))) (updR R 1 (.ref pq)) Z (updA B 10 f343) J K357 w := hO.to rfl
                      obtain ⟨qr372, hqr373⟩ := p_recv hO (by rw [hf363]; decide) (rep_5 hf363)
                      refine pn_V0 (G := G) (As := [.ref r356]) (rest := []) hx hb hml hown hq hE hX pX0_al hP hD hS hA hl.1 (L_addC l G h0 a (upd (upd (upd F 2 (nI sz)) 9 (nI at9)) 9 (nI (at342 + 1))) (updR R 1 (.ref pq)) Z (updA B 10 f343) J K357 w f2 1 np it2 cp2 r356 hlc368 (by decide) hf367 (by omega) (by omega) hO hl0) (gV pw_885 pw_886 pw_887 pw_32 pw_868) hV_Jx4a65c_add_9ea2d qr372 10 hqr373 rfl rfl rfl (Nat.le_of_ble_eq_true rfl) dX8_head_181 ⟨(by show ((3 + 2 * np) + 1) + 1 ≤ (2 * (sz - at9) + 10); omega), (by show ((120 + 11 * np + 4 * cp2) + 11) + (10 + np + np / 2) ≤ (60 * (sz - at9) + 400); omega)⟩ ⟨Nat.le_of_ble_eq_true rfl, Nat.le_of_ble_eq_true rfl⟩ (fun v371 u369 H locs hw370 hP hD hS => ?_) (fun ux ce9 q9 H9 locs9 hux hP9 hD9 hS9 hce hcv hcl => pb_out ux (ThQ.up (Thx.b (Thx.f Thx.rfl (by omega)) (by omega) (by decide)) hux) hnt hlocks hce hcv hcl hP9 hD9 hS9 (by show ((3 + 2 * np) + 1) + 1 ≤ (2 * (sz - at9) + 10); omega) (by show ((120 + 11 * np + 4 * cp2) + 11) + (10 + np + np / 2) ≤ (60 * (sz - at9) + 400); omega))
                      obtain ⟨w, K374, d375⟩ := u369
                      obtain ⟨hw370, h376, h377, h378, h379, h380, hO⟩ := hw370
                      have h376 : LsC G K374 f2 1 (np + 1) (upQ it2 np r356) (cp2 + d375) := h376
                      have h377 : AdQ K357 K374 f2 := h377
                      have h378 : N6 K357 K374 := h378
                      have h379 : cp2 + d375 ≤ 10 + 2 * (np + 1) := h379
                      have h380 : d375 ≤ 10 + np / 2 := h380
                      obtain rfl : v371 = some (.int 1) := hw370
                      have hO : OKP G h0 a (upd (upd F 2 (nI sz)) 9 (nI (at342 + 1))) (updR R 1 (.ref pq)) Z (updA B 10 f343) J K374 w := hO.to rfl
                      refine W.widen (k := (((3 + 2 * np) + 1) + 1)) (n := (((120 + 11 * np + 4 * cp2) + 11) + (4 * d375))) (by show ((3 + 2 * np) + 1) + 1 ≤ (((3 + 2 * np) + 1) + 1); omega) (by show ((120 + 11 * np + 4 * cp2) + 11) + (4 * d375) ≤ (((120 + 11 * np + 4 * cp2) + 11) + (4 * d375)); omega) ?_
                      refine W.eq (g2 := F0 m 184 ls [.int 1]) rfl ?_
                      have hg381 : g358 3 f2 = 3 := (h359.2.1.2 f2 (by rw [ht2]; decide) 3).trans hr2
                      have hwp382 : WPr G K374 g358 := WPr.add hwp365 h377 h378 hf363 (by rw [hg381]; exact h376) (by rw [hg381]; show _ ≤ 5000 ∧ _; omega)
                      have hps383 : PgS G K374 g358 (a 1) pq dr ml nd nm cp it s2 := by have z9 := PgS.add hps366 hwp365.2.2.1 h377 h378 hf363 (fun z => by have z2 := hg381; rw [z, hps366.1.2.2.2.2.2.2.1] at z2; exact absurd z2 (by decide)) (by rw [szL_of h376, szL_of hlc368]) (by rw [hg381]; decide) (by rw [hg381]; decide); rw [hg381] at z9; exact z9
                      have hf384 : K374.1 q2 = 3 := (h377.1 q2 (by rw [hf361]; decide)).1.trans hf361
                      have hf385 : K374.1 d0 = 4 := (h377.1 d0 (by rw [hf362]; decide)).1.trans hf362
                      have hf386 : K374.1 f2 = 5 := (h377.1 f2 (by rw [hf363]; decide)).1.trans hf363
                      have hf387 : K374.1 r356 = 1 := (h377.1 r356 (by rw [hf367]; decide)).1.trans hf367
                      refine lv_pop hx hb dX8_head_184 rfl ?_
                      refine lv_aload_n hx hb dX8_head_185 rfl (lv_at hl 8 rfl) ?_
                      refine lv_bipush (v := 39) hx hb dX8_head_186 (by decide) ?_
                      have hO : OKW G h0 a (upd (upd (upd (upd F 2 (nI sz)) 9 (nI (at342 + 1))) 2 (nI sz)) 9 (nI (at342 + 1))) (updR R 1 (.ref pq)) Z (updA B 10 f343) J K374.1 (fun q99 x99 => x99 = rep G a K374 q99) w := hO.to rfl
                      obtain ⟨_, qr391, hqr392⟩ := hO.2.1 23 _ (sg_23 G h0 a _ _ _ _ _)
                      refine pc_V0 (G := G) (As := [.int 39]) (rest := []) hx hb hml hown hq hE hX pX0_al hP hD hS hA hl.1 (P_takeIf l G h0 a (upd (upd F 2 (nI sz)) 9 (nI (at342 + 1))) (updR R 1 (.ref pq)) Z (updA B 10 f343) J K374.1 (fun q99 x99 => x99 = rep G a K374 q99) w 39 (at342 + 1) sz (by omega) (by omega) (by decide) hO) (gV pw_797 pw_798 pw_799 pw_796 pw_789) hV_X8_takeIf qr391 5 hqr392 rfl rfl rfl (Nat.le_of_ble_eq_true rfl) dX8_head_188 ⟨(by show (((3 + 2 * np) + 1) + 1) + 0 ≤ (2 * (sz - at9) + 10); omega), (by show (((120 + 11 * np + 4 * cp2) + 11) + (4 * d375)) + 0 ≤ (60 * (sz - at9) + 400); omega)⟩ ⟨Nat.le_of_ble_eq_true rfl, Nat.le_of_ble_eq_true rfl⟩ (fun v390 u388 H locs hw389 hP hD hS => ?_)
                      obtain ⟨w, r393⟩ := u388
                      obtain ⟨hw389, h394, h395, hO⟩ := hw389
                      have h394 : r393 ≤ 1 := h394
                      have h395 : (at342 + 1) + r393 ≤ sz := h395
                      obtain rfl : v390 = some (.int (nI r393)) := hw389
                      have hO : OKP G h0 a (upd (upd F 2 (nI sz)) 9 (nI ((at342 + 1) + r393))) (updR R 1 (.ref pq)) Z (updA B 10 f343) J K374 w := hO.to rfl
                      refine W.widen (k := (((3 + 2 * np) + 1) + 1)) (n := (((120 + 11 * np + 4 * cp2) + 11) + (4 * d375))) (by show (((3 + 2 * np) + 1) + 1) + 0 ≤ (((3 + 2 * np) + 1) + 1); omega) (by show (((120 + 11 * np + 4 * cp2) + 11) + (4 * d375)) + 0 ≤ (((120 + 11 * np + 4 * cp2) + 11) + (4 * d375)); omega) ?_
                      refine W.eq (g2 := F0 m 191 ls [.int (nI r393)]) rfl ?_
                      refine lv_istore (lv' := [(5, .int (nI r393)), (8, .int (nI at2)), (7, .int 1), (6, .int (nI i2)), (4, .ref q2), (3, .int (nI tk)), (2, .int x1), (1, .ref d0), (0, .ref (a 3))]) hx hb dX8_head_191 hl (by decide) rfl (fun ls hl => ?_)
                      refine lv_iinc (v := (nI (i2 + 1))) (lv' := [(6, .int (nI (i2 + 1))), (5, .int (nI r393)), (8, .int (nI at2)), (7, .int 1), (4, .ref q2), (3, .int (nI tk)), (2, .int x1), (1, .ref d0), (0, .ref (a 3))]) hx hb dX8_head_193 hl (k := 3) rfl (nI_1 i2) (by decide) rfl (fun ls hl => ?_)
                      refine lv_goto (tgt := 77) hx hb dX8_head_196 (by decide) ?_
                      refine W.widen (k := (3 + 2 * (np + 1))) (n := (120 + 11 * (np + 1) + 4 * (cp2 + d375))) (by show (((3 + 2 * np) + 1) + 1) ≤ _; omega) (by show (((120 + 11 * np + 4 * cp2) + 11) + (4 * d375)) ≤ _; omega) ?_
                      have hO : OKP G h0 a (upd (upd F 2 (nI sz)) 9 (nI ((at342 + 1) + r393))) (updR R 1 (.ref pq)) Z (updA B 10 f343) J K374 w := hO.to rfl
                      exact ih_i (i2 + 1) ((at342 + 1) + r393) f343 (nI r393) K374 g358 q2 f2 (np + 1) (cp2 + d375) (upQ it2 np r356) s2 _ _ _ _ (by omega) (by omega) (by omega) hwp382 hps383 (by omega) hf384 hf385 (((AdQ.sm h377 (by rw [hf361]; decide) (fun z => by have z2 := hf361; rw [z, hf363] at z2; exact absurd z2 (by decide)) (by rw [hf361]; decide)).2.2.1 6).trans ((h359.2.1.1 q2 (by rw [hq2]; decide)).2.2.1 6 |>.trans hc62)) hg381 h376 (by omega) hP hD hS hO (lv_sub hl [0, 1, 4, 5, 6, 7, 8] rfl)
                    · have n396 : ¬ (np < 8) := fun h9 => c335 ((nI_ltI (a := np) (b := 8) (by omega) (by omega)).mpr h9)
                      refine lv_aload_n hx hb dX8_head_145 rfl (lv_at hl 7 rfl) ?_
                      refine c_get (v := .ref (a 1)) (C := RX8) (Tc := TX8) (N := 5) (ci := 5) hx hb hq pin_wsX80 hown hE hP hO 23 (sg_23 G h0 a _ _ _ _ _) rfl 0 (by decide) (hq _ pw_774) (fun _ h9 => h9) rfl dX8_head_146 ?_
                      refine lv_iconst (v := 2) hx hb dX8_head_149 (by decide) ?_
                      refine lv_aload_n hx hb dX8_head_150 rfl (lv_at hl 7 rfl) ?_
                      refine c_get (v := .int (nI at2)) (C := RX8) (Tc := TX8) (N := 5) (ci := 5) hx hb hq pin_wsX80 hown hE hP hO 23 (sg_23 G h0 a _ _ _ _ _) rfl 2 (by decide) (hq _ pw_776) (fun _ h9 => h9) rfl dX8_head_151 ?_
                      have hO : OKW G h0 a (upd (upd (upd (upd F 2 (nI sz)) 9 (nI at9)) 9 (nI at2)) 2 (nI sz)) (updR R 1 (.ref pq)) Z (updA B 10 f9) J K2.1 (fun q99 x99 => x99 = rep G a K2 q99) w := hO.to rfl
                      obtain ⟨_, qr400, hqr401⟩ := hO.2.1 2 _ (sg_2 G h0 a _ _ _ _ _)
                      refine pn_V0 (G := G) (As := [.int 2, .int (nI at2)]) (rest := []) hx hb hml hown hq hE hX pX0_al hP hD hS hA hl.1 (K_fail l G h0 a (upd (upd (upd F 2 (nI sz)) 9 (nI at9)) 9 (nI at2)) (updR R 1 (.ref pq)) Z (updA B 10 f9) J K2.1 (fun q99 x99 => x99 = rep G a K2 q99) w 2 (nI at2) sz (by omega) hO hl0) (gV pw_779 pw_65 pw_66 pw_59 pw_43) hV_X10_fail qr400 7 hqr401 rfl rfl rfl (Nat.le_of_ble_eq_true rfl) dX8_head_154 ⟨(by show (3 + 2 * np) + 1 ≤ (2 * (sz - at9) + 10); omega), (by show (120 + 11 * np + 4 * cp2) + 6 ≤ (60 * (sz - at9) + 400); omega)⟩ ⟨Nat.le_of_ble_eq_true rfl, Nat.le_of_ble_eq_true rfl⟩ (fun v399 u397 H locs hw398 hP hD hS => hw398.elim) (fun ux ce9 q9 H9 locs9 hux hP9 hD9 hS9 hce hcv hcl => pb_out ux (ThQ.up (Thx.same (Thx.b (Thx.f Thx.rfl (by omega)) (by omega) (by decide)) rfl) hux) hnt hlocks hce hcv hcl hP9 hD9 hS9 (by show (3 + 2 * np) + 1 ≤ (2 * (sz - at9) + 10); omega) (by show (120 + 11 * np + 4 * cp2) + 6 ≤ (60 * (sz - at9) + 400); omega))
      refine W.widen (k := (3 + 2 * 0)) (n := (120 + 11 * 0 + 4 * 0)) (by show 3 ≤ _; omega) (by show ((12 + 3) + (4 * d39)) ≤ _; omega) ?_
      have hO : OKP G h0 a (upd (upd F 2 (nI sz)) 9 (nI (at9 + 1))) (updR R 1 (.ref pq)) Z (updA B 10 (B 10)) J K38 w := hO.to rfl
      exact loop_i (sz + 1) 0 (at9 + 1) (B 10) (0 : Int32) K38 (gM g q8 f25) q8 f25 0 0 (fun _ => 0) (s9 + 5) _ _ _ _ (by omega) (by omega) (by omega) hwp46 hps47 (by omega) hf48 hf50 hc6 hm7 hl6 (by omega) hP hD hS hO (lv_sub hl [0, 1, 2, 6, 5, 4, 3] rfl)
    · have n402 : r63 = 0 := (nI_eq (a := r63) (b := 0) (by omega) (by omega)).mp c65
      refine lv_iconst (v := 1) hx hb dX8_head_67 (by decide) ?_
      refine lv_goto (tgt := 72) hx hb dX8_head_68 (by decide) ?_
      refine lv_istore (lv' := [(5, .int 1), (4, .ref q8), (0, .ref (a 3)), (1, .ref d0), (2, .int x1), (3, .int (nI tk))]) hx hb dX8_head_72 hl (by decide) rfl (fun ls hl => ?_)
      refine lv_iconst (v := 0) hx hb dX8_head_74 (by decide) ?_
      refine lv_istore (lv' := [(6, .int 0), (5, .int 1), (4, .ref q8), (0, .ref (a 3)), (1, .ref d0), (2, .int x1), (3, .int (nI tk))]) hx hb dX8_head_75 hl (by decide) rfl (fun ls hl => ?_)
      have loop_i : ∀ (n_i : Nat) (i2 : Nat) (at2 : Nat) (f9 : Nat → Int32) (mo2 : Int32) (K2 : PK) (g2 : Nat → Nat → Nat) (q2 : Nat) (f2 : Nat) (np : Nat) (cp2 : Nat) (it2 : Nat → Nat) (s2 : Nat) (H : Heap) (locs : List Loc) (ls : Array Slot) (w : va_W), i2 ≤ sz → sz + 1 ≤ i2 + n_i → (at9 + 1 + 2 * np ≤ at2 ∧ at2 ≤ sz) → (WPr G K2 g2) → (PgS G K2 g2 (a 1) pq dr ml nd nm cp it s2) → (s2 ≤ s9 + 5) → (K2.1 q2 = 3) → (K2.1 d0 = 4) → (K2.2.2.1 6 q2 = some f2) → (g2 3 f2 = 3) → (LsC G K2 f2 1 np it2 cp2) → (cp2 ≤ 10 + 2 * np) → va_P G.1 pCl w H → va_D A w → va_S A s.heap H locs → OKP G h0 a (upd (upd F 2 (nI sz)) 9 (nI at2)) (updR R 1 (.ref pq)) Z (updA B 10 f9) J K2 w → lv_has ls 9 [(6, .int (nI i2)), (5, .int mo2), (4, .ref q2), (3, .int (nI tk)), (2, .int x1), (1, .ref d0), (0, .ref (a 3))] → W p l e (headSpec (Cond.code yX8_head cX8_head 9 (some (.object "JinjaTongue$Method")) :: pw) ({ frames := 8, cells := (2 * (sz - at9) + 10), slots := (60 * (sz - at9) + 400), locals := 191 } : Room)).room s m ([.ref (a 3), .ref d0, .int x1, .int (nI tk)] : List Value).toArray below meth c H locs (3 + 2 * np) (120 + 11 * np + 4 * cp2) (vx_MQ below (pQn G A (fun (v : Option Value) (u : va_W × (PK × (Nat → Nat → Nat) × Nat × Nat × (Nat → Int32))) => v = some (.ref u.2.2.2.1) ∧ (WPr G u.2.1 u.2.2.1) ∧ (PgS G u.2.1 u.2.2.1 (a 1) pq dr ml nd nm cp it (s9 + 3 + (u.2.2.2.2.1 - at9))) ∧ (u.2.1.1 u.2.2.2.1 = 3) ∧ (u.2.1.1 d0 = 4) ∧ (at9 + 2 ≤ u.2.2.2.2.1 ∧ u.2.2.2.2.1 ≤ sz) ∧ (OKP G h0 a (upd (upd F 2 (nI sz)) 9 (nI u.2.2.2.2.1)) (updR R 1 (.ref pq)) Z (updA B 10 u.2.2.2.2.2) J u.2.1 u.1)) (fun u => u.1) (fun (u : va_W × (PK × (Nat → Nat → Nat) × Nat × Nat × (Nat → Int32))) => (u.2.2.2.2.1 - at9 + 3)) (fun (u : va_W × (PK × (Nat → Nat → Nat) × Nat × Nat × (Nat → Int32))) => (60 * (u.2.2.2.2.1 - at9) + 60))) (pXX G A (fun (u : va_W × (Nat → Int32) × (Nat → Value) × (Nat → Nat → Int32)) => ThQ G h0 a (upd (upd F 2 (nI sz)) 9 (nI at9)) Z B J u) (fun u => u.1)) ([.ref (a 3), .ref d0, .int x1, .int (nI tk)] : List Value).toArray s ({ frames := 8, cells := (2 * (sz - at9) + 10), slots := (60 * (sz - at9) + 400), locals := 191 } : Room).cells ({ frames := 8, cells := (2 * (sz - at9) + 10), slots := (60 * (sz - at9) + 400), locals := 191 } : Room).slots A) (F0 m 77 ls []) := by
        intro n_i
        induction n_i with
        | zero => intro i2 at2 f9 mo2 K2 g2 q2 f2 np cp2 it2 s2 H locs ls w hk_i hn_i; omega
        | succ n_i ih_i =>
          intro i2 at2 f9 mo2 K2 g2 q2 f2 np cp2 it2 s2 H locs ls w hk_i hn_i hat2 hwp2 hps2 hs2 hq2 hd2 hc62 hr2 hlc2 hcb2 hP hD hS hO hl
          have ht2 := hlc2.1
          refine lv_iload hx hb dX8_head_77 (lv_at hl 0 rfl) ?_
          refine lv_aload_n hx hb dX8_head_79 rfl (lv_at hl 6 rfl) ?_
          refine c_get (v := .ref (a 1)) (C := RX8) (Tc := TX8) (N := 5) (ci := 5) hx hb hq pin_wsX80 hown hE hP hO 23 (sg_23 G h0 a _ _ _ _ _) rfl 0 (by decide) (hq _ pw_774) (fun _ h9 => h9) rfl dX8_head_80 ?_
          refine c_get (v := .int (nI sz)) (C := RX10) (Tc := TX10) (N := 15) (ci := 7) hx hb hq pin_wsX100 hown hE hP hO 2 (sg_2 G h0 a _ _ _ _ _) rfl 8 (by decide) (hq _ pw_792) (fun _ h9 => h9) rfl dX8_head_83 ?_
          refine lv_icmp_ge (tgt := 199) hx hb dX8_head_86 (by decide) (fun c403 => ?_) (fun c403 => ?_)
          · have n404 : sz ≤ i2 := (nI_leI (a := sz) (b := i2) (by omega) (by omega)).mp c403
            refine lv_aload_n hx hb dX8_head_199 rfl (lv_at hl 6 rfl) ?_
            refine lv_bipush (v := 35) hx hb dX8_head_200 (by decide) ?_
            have hO : OKW G h0 a (upd (upd (upd (upd (upd F 2 (nI sz)) 9 (nI at9)) 9 (nI at2)) 2 (nI sz)) 9 (nI at2)) (updR R 1 (.ref pq)) Z (updA B 10 f9) J K2.1 (fun q99 x99 => x99 = rep G a K2 q99) w := hO.to rfl
            obtain ⟨_, qr408, hqr409⟩ := hO.2.1 23 _ (sg_23 G h0 a _ _ _ _ _)
            refine pn_V0 (G := G) (As := [.int 35]) (rest := []) hx hb hml hown hq hE hX pX0_al hP hD hS hA hl.1 (P_take l G h0 a (upd (upd (upd F 2 (nI sz)) 9 (nI at9)) 9 (nI at2)) (updR R 1 (.ref pq)) Z (updA B 10 f9) J K2.1 (fun q99 x99 => x99 = rep G a K2 q99) w 35 at2 sz (by omega) (by omega) (by decide) hO hl0) (gV pw_793 pw_794 pw_795 pw_796 pw_781) hV_X8_take qr408 5 hqr409 rfl rfl rfl (Nat.le_of_ble_eq_true rfl) dX8_head_202 ⟨(by show (3 + 2 * np) + 1 ≤ (2 * (sz - at9) + 10); omega), (by show (120 + 11 * np + 4 * cp2) + 6 ≤ (60 * (sz - at9) + 400); omega)⟩ ⟨Nat.le_of_ble_eq_true rfl, Nat.le_of_ble_eq_true rfl⟩ (fun v407 u405 H locs hw406 hP hD hS => ?_) (fun ux ce9 q9 H9 locs9 hux hP9 hD9 hS9 hce hcv hcl => pb_out ux (ThQ.up (Thx.same (Thx.same (Thx.b (Thx.f Thx.rfl (by omega)) (by omega) (by decide)) rfl) rfl) hux) hnt hlocks hce hcv hcl hP9 hD9 hS9 (by show (3 + 2 * np) + 1 ≤ (2 * (sz - at9) + 10); omega) (by show (120 + 11 * np + 4 * cp2) + 6 ≤ (60 * (sz - at9) + 400); omega))
            obtain ⟨w, _⟩ := u405
            obtain ⟨hw406, h410, hO⟩ := hw406
            have h410 : at2 + 1 ≤ sz := h410
            obtain rfl : v407 = some (.int (nI at2)) := hw406
            have hO : OKP G h0 a (upd (upd F 2 (nI sz)) 9 (nI (at2 + 1))) (updR R 1 (.ref pq)) Z (updA B 10 f9) J K2 w := hO.to rfl
            refine W.widen (k := (3 + 2 * np)) (n := (120 + 11 * np + 4 * cp2)) (by show (3 + 2 * np) + 0 ≤ (3 + 2 * np); omega) (by show (120 + 11 * np + 4 * cp2) + 0 ≤ (120 + 11 * np + 4 * cp2); omega) ?_
            refine W.eq (g2 := F0 m 205 ls [.int (nI at2)]) rfl ?_
            refine lv_pop hx hb dX8_head_205 rfl ?_
            refine lv_aload hx hb dX8_head_206 (lv_at hl 2 rfl) ?_
            refine W_size (fun hz1 hz2 => ?_)
            refine vx_ret ?_
            have hz411 : WPr G K2 g2 := hwp2
            have hz412 : PgS G K2 g2 (a 1) pq dr ml nd nm cp it (s9 + 3 + ((at2 + 1) - at9)) := (PgS.up hps2 (by omega))
            have hz413 : K2.1 q2 = 3 := hq2
            have hz414 : K2.1 d0 = 4 := hd2
            have hz415 : at9 + 2 ≤ (at2 + 1) ∧ (at2 + 1) ≤ sz := (by omega)
            have hO : OKP G h0 a (upd (upd F 2 (nI sz)) 9 (nI (at2 + 1))) (updR R 1 (.ref pq)) Z (updA B 10 f9) J K2 w := hO.to rfl
            refine W.widen (k := (2 * (sz - at9) + 10)) (n := (60 * (sz - at9) + 400)) (by omega) (by omega) ?_
            have hzz1 : H.size ≤ s.heap.size + (((at2 + 1) - at9 + 3)) := (by have z : (3 + 2 * np) ≤ ((at2 + 1) - at9 + 3) := (by omega); omega)
            have hzz2 : hSl H ≤ hSl s.heap + ((60 * ((at2 + 1) - at9) + 60)) := (by have z : (120 + 11 * np + 4 * cp2) ≤ (60 * ((at2 + 1) - at9) + 60) := (by omega); omega)
            exact W.aret (v := .ref q2) hx hb hr (Or.inl ⟨_, rfl⟩) (Or.inr ⟨_, rfl⟩) (fun t99 ht99 hW99 => ⟨⟨_, (w, (K2, g2, q2, (at2 + 1), f9)), rfl, ⟨rfl, hz411, hz412, hz413, hz414, hz415, hO⟩, by rw [ht99]; exact hP, hD, by rw [ht99]; exact hzz1, by rw [ht99]; exact hzz2⟩, hS.F ht99⟩) hS.2.2 dX8_head_208
          · have n416 : ¬ (sz ≤ i2) := fun h9 => c403 ((nI_leI (a := sz) (b := i2) (by omega) (by omega)).mpr h9)
            refine lv_iload hx hb dX8_head_89 (lv_at hl 1 rfl) ?_
            refine lv_if_eq (tgt := 199) hx hb dX8_head_91 (by decide) (fun c417 => ?_) (fun c417 => ?_)
            · refine lv_aload_n hx hb dX8_head_199 rfl (lv_at hl 6 rfl) ?_
              refine lv_bipush (v := 35) hx hb dX8_head_200 (by decide) ?_
              have hO : OKW G h0 a (upd (upd (upd (upd (upd F 2 (nI sz)) 9 (nI at9)) 9 (nI at2)) 2 (nI sz)) 9 (nI at2)) (updR R 1 (.ref pq)) Z (updA B 10 f9) J K2.1 (fun q99 x99 => x99 = rep G a K2 q99) w := hO.to rfl
              obtain ⟨_, qr421, hqr422⟩ := hO.2.1 23 _ (sg_23 G h0 a _ _ _ _ _)
              refine pn_V0 (G := G) (As := [.int 35]) (rest := []) hx hb hml hown hq hE hX pX0_al hP hD hS hA hl.1 (P_take l G h0 a (upd (upd (upd F 2 (nI sz)) 9 (nI at9)) 9 (nI at2)) (updR R 1 (.ref pq)) Z (updA B 10 f9) J K2.1 (fun q99 x99 => x99 = rep G a K2 q99) w 35 at2 sz (by omega) (by omega) (by decide) hO hl0) (gV pw_793 pw_794 pw_795 pw_796 pw_781) hV_X8_take qr421 5 hqr422 rfl rfl rfl (Nat.le_of_ble_eq_true rfl) dX8_head_202 ⟨(by show (3 + 2 * np) + 1 ≤ (2 * (sz - at9) + 10); omega), (by show (120 + 11 * np + 4 * cp2) + 6 ≤ (60 * (sz - at9) + 400); omega)⟩ ⟨Nat.le_of_ble_eq_true rfl, Nat.le_of_ble_eq_true rfl⟩ (fun v420 u418 H locs hw419 hP hD hS => ?_) (fun ux ce9 q9 H9 locs9 hux hP9 hD9 hS9 hce hcv hcl => pb_out ux (ThQ.up (Thx.same (Thx.same (Thx.b (Thx.f Thx.rfl (by omega)) (by omega) (by decide)) rfl) rfl) hux) hnt hlocks hce hcv hcl hP9 hD9 hS9 (by show (3 + 2 * np) + 1 ≤ (2 * (sz - at9) + 10); omega) (by show (120 + 11 * np + 4 * cp2) + 6 ≤ (60 * (sz - at9) + 400); omega))
              obtain ⟨w, _⟩ := u418
              obtain ⟨hw419, h423, hO⟩ := hw419
              have h423 : at2 + 1 ≤ sz := h423
              obtain rfl : v420 = some (.int (nI at2)) := hw419
              have hO : OKP G h0 a (upd (upd F 2 (nI sz)) 9 (nI (at2 + 1))) (updR R 1 (.ref pq)) Z (updA B 10 f9) J K2 w := hO.to rfl
              refine W.widen (k := (3 + 2 * np)) (n := (120 + 11 * np + 4 * cp2)) (by show (3 + 2 * np) + 0 ≤ (3 + 2 * np); omega) (by show (120 + 11 * np + 4 * cp2) + 0 ≤ (120 + 11 * np + 4 * cp2); omega) ?_
              refine W.eq (g2 := F0 m 205 ls [.int (nI at2)]) rfl ?_
              refine lv_pop hx hb dX8_head_205 rfl ?_
              refine lv_aload hx hb dX8_head_206 (lv_at hl 2 rfl) ?_
              refine W_size (fun hz1 hz2 => ?_)
              refine vx_ret ?_
              have hz424 : WPr G K2 g2 := hwp2
              have hz425 : PgS G K2 g2 (a 1) pq dr ml nd nm cp it (s9 + 3 + ((at2 + 1) - at9)) := (PgS.up hps2 (by omega))
              have hz426 : K2.1 q2 = 3 := hq2
              have hz427 : K2.1 d0 = 4 := hd2
              have hz428 : at9 + 2 ≤ (at2 + 1) ∧ (at2 + 1) ≤ sz := (by omega)
              have hO : OKP G h0 a (upd (upd F 2 (nI sz)) 9 (nI (at2 + 1))) (updR R 1 (.ref pq)) Z (updA B 10 f9) J K2 w := hO.to rfl
              refine W.widen (k := (2 * (sz - at9) + 10)) (n := (60 * (sz - at9) + 400)) (by omega) (by omega) ?_
              have hzz1 : H.size ≤ s.heap.size + (((at2 + 1) - at9 + 3)) := (by have z : (3 + 2 * np) ≤ ((at2 + 1) - at9 + 3) := (by omega); omega)
              have hzz2 : hSl H ≤ hSl s.heap + ((60 * ((at2 + 1) - at9) + 60)) := (by have z : (120 + 11 * np + 4 * cp2) ≤ (60 * ((at2 + 1) - at9) + 60) := (by omega); omega)
              exact W.aret (v := .ref q2) hx hb hr (Or.inl ⟨_, rfl⟩) (Or.inr ⟨_, rfl⟩) (fun t99 ht99 hW99 => ⟨⟨_, (w, (K2, g2, q2, (at2 + 1), f9)), rfl, ⟨rfl, hz424, hz425, hz426, hz427, hz428, hO⟩, by rw [ht99]; exact hP, hD, by rw [ht99]; exact hzz1, by rw [ht99]; exact hzz2⟩, hS.F ht99⟩) hS.2.2 dX8_head_208
            · refine lv_aload_n hx hb dX8_head_94 rfl (lv_at hl 6 rfl) ?_
              refine lv_bipush (v := 13) hx hb dX8_head_95 (by decide) ?_
              have hO : OKW G h0 a (upd (upd (upd (upd F 2 (nI sz)) 9 (nI at2)) 2 (nI sz)) 9 (nI at2)) (updR R 1 (.ref pq)) Z (updA B 10 f9) J K2.1 (fun q99 x99 => x99 = rep G a K2 q99) w := hO.to rfl
              obtain ⟨_, qr432, hqr433⟩ := hO.2.1 23 _ (sg_23 G h0 a _ _ _ _ _)
              refine pc_V0 (G := G) (As := [.int 13]) (rest := []) hx hb hml hown hq hE hX pX0_al hP hD hS hA hl.1 (P_sees l G h0 a (upd (upd F 2 (nI sz)) 9 (nI at2)) (updR R 1 (.ref pq)) Z (updA B 10 f9) J K2.1 (fun q99 x99 => x99 = rep G a K2 q99) w 13 at2 sz (by omega) (by omega) hO) (gV pw_803 pw_804 pw_805 pw_796 pw_775) hV_X8_sees qr432 5 hqr433 rfl rfl rfl (Nat.le_of_ble_eq_true rfl) dX8_head_97 ⟨(by show (3 + 2 * np) + 0 ≤ (2 * (sz - at9) + 10); omega), (by show (120 + 11 * np + 4 * cp2) + 0 ≤ (60 * (sz - at9) + 400); omega)⟩ ⟨Nat.le_of_ble_eq_true rfl, Nat.le_of_ble_eq_true rfl⟩ (fun v431 u429 H locs hw430 hP hD hS => ?_)
              obtain ⟨w, r434⟩ := u429
              obtain ⟨hw430, h435, hO⟩ := hw430
              have h435 : r434 ≤ 1 := h435
              obtain rfl : v431 = some (.int (nI r434)) := hw430
              have hO : OKP G h0 a (upd (upd F 2 (nI sz)) 9 (nI at2)) (updR R 1 (.ref pq)) Z (updA B 10 f9) J K2 w := hO.to rfl
              refine W.widen (k := (3 + 2 * np)) (n := (120 + 11 * np + 4 * cp2)) (by show (3 + 2 * np) + 0 ≤ (3 + 2 * np); omega) (by show (120 + 11 * np + 4 * cp2) + 0 ≤ (120 + 11 * np + 4 * cp2); omega) ?_
              refine W.eq (g2 := F0 m 100 ls [.int (nI r434)]) rfl ?_
              refine lv_if_ne (tgt := 120) hx hb dX8_head_100 (by decide) (fun c436 => ?_) (fun c436 => ?_)
              · have n437 : ¬ (r434 = 0) := fun h9 => c436 ((nI_eq (a := r434) (b := 0) (by omega) (by omega)).mpr h9)
                refine lv_iconst (v := 1) hx hb dX8_head_120 (by decide) ?_
                refine lv_goto (tgt := 125) hx hb dX8_head_121 (by decide) ?_
                refine lv_istore (lv' := [(7, .int 1), (6, .int (nI i2)), (5, .int mo2), (4, .ref q2), (3, .int (nI tk)), (2, .int x1), (1, .ref d0), (0, .ref (a 3))]) hx hb dX8_head_125 hl (by decide) rfl (fun ls hl => ?_)
                refine lv_iload hx hb dX8_head_127 (lv_at hl 0 rfl) ?_
                refine lv_if_eq (tgt := 157) hx hb dX8_head_129 (by decide) (fun c438 => absurd c438 (by decide)) (fun c438 => ?_)
                refine lv_aload hx hb dX8_head_132 (lv_at hl 3 rfl) ?_
                refine p_get (v := .ref f2) (C := RX6) (Tc := TX6) (N := 12) (ci := 12) hx hb hq pin_wsX60 hown hE hP hO (by rw [hq2]; decide) (rep_3 hq2) rfl 4 (by decide) (hq _ pw_881) (fun _ h9 => h9) (congrArg (fun z => some (va_rf z)) hc62) dX8_head_134 ?_
                have hO : OKP G h0 a (upd (upd F 2 (nI sz)) 9 (nI at2)) (updR R 1 (.ref pq)) Z (updA B 10 f9) J K2 w := hO.to rfl
                obtain ⟨qr442, hqr443⟩ := p_recv hO (by rw [ht2]; decide) (rep_5 ht2)
                refine pc_V0 (G := G) (As := []) (rest := []) hx hb hml hown hq hE hX pX0_al hP hD hS hA hl.1 (L_size l G h0 a (upd (upd F 2 (nI sz)) 9 (nI at2)) (updR R 1 (.ref pq)) Z (updA B 10 f9) J K2 w f2 1 np it2 hlc2.ls hO) (gV pw_882 pw_87 pw_88 pw_32 pw_16) hV_Jx4a65c_size_8abf5 qr442 10 hqr443 rfl rfl rfl (Nat.le_of_ble_eq_true rfl) dX8_head_137 ⟨(by show (3 + 2 * np) + 0 ≤ (2 * (sz - at9) + 10); omega), (by show (120 + 11 * np + 4 * cp2) + 0 ≤ (60 * (sz - at9) + 400); omega)⟩ ⟨Nat.le_of_ble_eq_true rfl, Nat.le_of_ble_eq_true rfl⟩ (fun v441 u439 H locs hw440 hP hD hS => ?_)
                obtain ⟨w, _⟩ := u439
                obtain ⟨hw440, hO⟩ := hw440
                obtain rfl : v441 = some (.int (nI np)) := hw440
                have hO : OKP G h0 a (upd (upd F 2 (nI sz)) 9 (nI at2)) (updR R 1 (.ref pq)) Z (updA B 10 f9) J K2 w := hO.to rfl
                refine W.widen (k := (3 + 2 * np)) (n := (120 + 11 * np + 4 * cp2)) (by show (3 + 2 * np) + 0 ≤ (3 + 2 * np); omega) (by show (120 + 11 * np + 4 * cp2) + 0 ≤ (120 + 11 * np + 4 * cp2); omega) ?_
                refine W.eq (g2 := F0 m 140 ls [.int (nI np)]) rfl ?_
                refine lv_bipush (v := 8) hx hb dX8_head_140 (by decide) ?_
                refine lv_icmp_lt (tgt := 157) hx hb dX8_head_142 (by decide) (fun c444 => ?_) (fun c444 => ?_)
                · have n445 : np < 8 := (nI_ltI (a := np) (b := 8) (by omega) (by omega)).mp c444
                  refine lv_aload_n hx hb dX8_head_157 rfl (lv_at hl 7 rfl) ?_
                  refine lv_iconst (v := 1) hx hb dX8_head_158 (by decide) ?_
                  have hO : OKW G h0 a (upd (upd (upd (upd (upd F 2 (nI sz)) 9 (nI at9)) 9 (nI at2)) 2 (nI sz)) 9 (nI at2)) (updR R 1 (.ref pq)) Z (updA B 10 f9) J K2.1 (fun q99 x99 => x99 = rep G a K2 q99) w := hO.to rfl
                  obtain ⟨_, qr449, hqr450⟩ := hO.2.1 23 _ (sg_23 G h0 a _ _ _ _ _)
                  refine pn_V0 (G := G) (As := [.int 1]) (rest := []) hx hb hml hown hq hE hX pX0_al hP hD hS hA hl.1 (P_takeType l G h0 a (upd (upd (upd F 2 (nI sz)) 9 (nI at9)) 9 (nI at2)) (updR R 1 (.ref pq)) Z (updA B 10 f9) J K2.1 (fun q99 x99 => x99 = rep G a K2 q99) w 1 at2 sz (by omega) (by omega) hO hl0) (gV pw_825 pw_826 pw_827 pw_796 pw_821) hV_X8_takeType qr449 5 hqr450 rfl rfl rfl (Nat.le_of_ble_eq_true rfl) dX8_head_159 ⟨(by show (3 + 2 * np) + 1 ≤ (2 * (sz - at9) + 10); omega), (by show (120 + 11 * np + 4 * cp2) + 6 ≤ (60 * (sz - at9) + 400); omega)⟩ ⟨Nat.le_of_ble_eq_true rfl, Nat.le_of_ble_eq_true rfl⟩ (fun v448 u446 H locs hw447 hP hD hS => ?_) (fun ux ce9 q9 H9 locs9 hux hP9 hD9 hS9 hce hcv hcl => pb_out ux (ThQ.up (Thx.same (Thx.same (Thx.b (Thx.f Thx.rfl (by omega)) (by omega) (by decide)) rfl) rfl) hux) hnt hlocks hce hcv hcl hP9 hD9 hS9 (by show (3 + 2 * np) + 1 ≤ (2 * (sz - at9) + 10); omega) (by show (120 + 11 * np + 4 * cp2) + 6 ≤ (60 * (sz - at9) + 400); omega))
                  obtain ⟨w, at451, f452⟩ := u446
                  obtain ⟨hw447, h453, hO⟩ := hw447
                  have h453 : at2 + 1 ≤ at451 ∧ at451 ≤ sz := h453
                  obtain rfl : v448 = some (.int (nI at2)) := hw447
                  have hO : OKP G h0 a (upd (upd F 2 (nI sz)) 9 (nI at451)) (updR R 1 (.ref pq)) Z (updA B 10 f452) J K2 w := hO.to rfl
                  refine W.widen (k := (3 + 2 * np)) (n := (120 + 11 * np + 4 * cp2)) (by show (3 + 2 * np) + 0 ≤ (3 + 2 * np); omega) (by show (120 + 11 * np + 4 * cp2) + 0 ≤ (120 + 11 * np + 4 * cp2); omega) ?_
                  refine W.eq (g2 := F0 m 162 ls [.int (nI at2)]) rfl ?_
                  refine lv_istore (lv' := [(8, .int (nI at2)), (7, .int 1), (6, .int (nI i2)), (5, .int mo2), (4, .ref q2), (3, .int (nI tk)), (2, .int x1), (1, .ref d0), (0, .ref (a 3))]) hx hb dX8_head_162 hl (by decide) rfl (fun ls hl => ?_)
                  refine lv_aload hx hb dX8_head_164 (lv_at hl 4 rfl) ?_
                  refine p_get (v := .ref f2) (C := RX6) (Tc := TX6) (N := 12) (ci := 12) hx hb hq pin_wsX60 hown hE hP hO (by rw [hq2]; decide) (rep_3 hq2) rfl 4 (by decide) (hq _ pw_881) (fun _ h9 => h9) (congrArg (fun z => some (va_rf z)) hc62) dX8_head_166 ?_
                  refine lv_aload_n hx hb dX8_head_169 rfl (lv_at hl 8 rfl) ?_
                  refine lv_iload hx hb dX8_head_170 (lv_at hl 0 rfl) ?_
                  refine lv_aload_n hx hb dX8_head_172 rfl (lv_at hl 8 rfl) ?_
                  refine lv_bipush (v := 65) hx hb dX8_head_173 (by decide) ?_
                  have hO : OKW G h0 a (upd (upd (upd (upd (upd F 2 (nI sz)) 9 (nI at9)) 9 (nI at451)) 2 (nI sz)) 9 (nI at451)) (updR R 1 (.ref pq)) Z (updA B 10 f452) J K2.1 (fun q99 x99 => x99 = rep G a K2 q99) w := hO.to rfl
                  obtain ⟨_, qr457, hqr458⟩ := hO.2.1 23 _ (sg_23 G h0 a _ _ _ _ _)
                  refine pn_V0 (G := G) (As := [.int 65]) (rest := [.int (nI at2), .ref (a 3), .ref f2]) hx hb hml hown hq hE hX pX0_al hP hD hS hA hl.1 (P_take l G h0 a (upd (upd (upd F 2 (nI sz)) 9 (nI at9)) 9 (nI at451)) (updR R 1 (.ref pq)) Z (updA B 10 f452) J K2.1 (fun q99 x99 => x99 = rep G a K2 q99) w 65 at451 sz (by omega) (by omega) (by decide) hO hl0) (gV pw_793 pw_794 pw_795 pw_796 pw_781) hV_X8_take qr457 5 hqr458 rfl rfl rfl (Nat.le_of_ble_eq_true rfl) dX8_head_175 ⟨(by show (3 + 2 * np) + 1 ≤ (2 * (sz - at9) + 10); omega), (by show (120 + 11 * np + 4 * cp2) + 6 ≤ (60 * (sz - at9) + 400); omega)⟩ ⟨Nat.le_of_ble_eq_true rfl, Nat.le_of_ble_eq_true rfl⟩ (fun v456 u454 H locs hw455 hP hD hS => ?_) (fun ux ce9 q9 H9 locs9 hux hP9 hD9 hS9 hce hcv hcl => pb_out ux (ThQ.up (Thx.same (Thx.same (Thx.b (Thx.f Thx.rfl (by omega)) (by omega) (by decide)) rfl) rfl) hux) hnt hlocks hce hcv hcl hP9 hD9 hS9 (by show (3 + 2 * np) + 1 ≤ (2 * (sz - at9) + 10); omega) (by show (120 + 11 * np + 4 * cp2) + 6 ≤ (60 * (sz - at9) + 400); omega))
                  obtain ⟨w, _⟩ := u454
                  obtain ⟨hw455, h459, hO⟩ := hw455
                  have h459 : at451 + 1 ≤ sz := h459
                  obtain rfl : v456 = some (.int (nI at451)) := hw455
                  have hO : OKP G h0 a (upd (upd F 2 (nI sz)) 9 (nI (at451 + 1))) (updR R 1 (.ref pq)) Z (updA B 10 f452) J K2 w := hO.to rfl
                  refine W.widen (k := (3 + 2 * np)) (n := (120 + 11 * np + 4 * cp2)) (by show (3 + 2 * np) + 0 ≤ (3 + 2 * np); omega) (by show (120 + 11 * np + 4 * cp2) + 0 ≤ (120 + 11 * np + 4 * cp2); omega) ?_
                  refine W.eq (g2 := F0 m 178 ls [.int (nI at451), .int (nI at2), .ref (a 3), .ref f2]) rfl ?_
                  have hO : OKP G h0 a (upd (upd (upd F 2 (nI sz)) 9 (nI (at451 + 1))) 2 (nI sz)) (updR R 1 (.ref pq)) Z (updA B 10 f452) J K2 w := hO.to rfl
                  obtain ⟨_, qr463, hqr464⟩ := hO.2.1 23 _ (sg_23 G h0 a _ _ _ _ _)
                  refine pc_V0 (G := G) (As := [.int (nI at2), .int (nI at451)]) (rest := [.ref f2]) hx hb hml hown hq hE hX pX0_al hP hD hS hA hl.1 (P_variable l G h0 a (upd (upd F 2 (nI sz)) 9 (nI (at451 + 1))) (updR R 1 (.ref pq)) Z (updA B 10 f452) J K2 w (nI at2) (nI at451) sz 0 0 g2 (by omega) hwp2.1 (fun o9 h9 => absurd h9 (by omega)) (by omega) hO) (gV pw_888 pw_889 pw_890 pw_796 pw_869) hV_X8_variable qr463 5 hqr464 rfl rfl rfl (Nat.le_of_ble_eq_true rfl) dX8_head_178 ⟨(by show (3 + 2 * np) + 1 ≤ (2 * (sz - at9) + 10); omega), (by show (120 + 11 * np + 4 * cp2) + 11 ≤ (60 * (sz - at9) + 400); omega)⟩ ⟨Nat.le_of_ble_eq_true rfl, Nat.le_of_ble_eq_true rfl⟩ (fun v462 u460 H locs hw461 hP hD hS => ?_)
                  obtain ⟨w, r465, K466, g467⟩ := u460
                  obtain ⟨hw461, h468, h469, hO⟩ := hw461
                  have h468 : NwR K2 K466 g2 g467 r465 0 0 1 := h468
                  have h469 : K466.2.1 0 r465 = 36 := h469
                  obtain rfl : v462 = some (.ref r465) := hw461
                  have hf470 : K466.1 q2 = 3 := (((h468).2.1.1 q2 (by rw [hq2]; decide)).1).trans hq2
                  have hf471 : K466.1 d0 = 4 := (((h468).2.1.1 d0 (by rw [hd2]; decide)).1).trans hd2
                  have hf472 : K466.1 f2 = 5 := (((h468).2.1.1 f2 (by rw [ht2]; decide)).1).trans ht2
                  have hf473 : K466.2.2.1 6 q2 = some f2 := (((h468).2.1.1 q2 (by rw [hq2]; decide)).2.2.1 6).trans hc62
                  have hO : OKP G h0 a (upd (upd F 2 (nI sz)) 9 (nI (at451 + 1))) (updR R 1 (.ref pq)) Z (updA B 10 f452) J K466 w := hO.to rfl
                  refine W.widen (k := ((3 + 2 * np) + 1)) (n := ((120 + 11 * np + 4 * cp2) + 11)) (by show (3 + 2 * np) + 1 ≤ ((3 + 2 * np) + 1); omega) (by show (120 + 11 * np + 4 * cp2) + 11 ≤ ((120 + 11 * np + 4 * cp2) + 11); omega) ?_
                  refine W.eq (g2 := F0 m 181 ls [.ref r465, .ref f2]) rfl ?_
                  have hwp474 := WPr.nd hwp2 h468
                  have hps475 := PgS.nd hps2 hwp2 h468
                  have hf476 : K466.1 r465 = 1 := h468.2.2.1.2.1
                  have hlc477 : LsC G K466 f2 1 np it2 cp2 := (LsC.wx (fun p hp => (h468.2.1.1 p hp).1) (by decide) (h468.2.1.1 f2 (by rw [ht2]; decide)) (fun e he _ => h468.2.1.1 e (by rw [he]; decide)) hlc2)
                  have hO : OKP G h0 a (upd (upd (upd F 2 (nI sz)) 9 (nI at9)) 9 (nI (at451 + 1))) (updR R 1 (.ref pq)) Z (updA B 10 f452) J K466 w := hO.to rfl
                  obtain ⟨qr481, hqr482⟩ := p_recv hO (by rw [hf472]; decide) (rep_5 hf472)
                  refine pn_V0 (G := G) (As := [.ref r465]) (rest := []) hx hb hml hown hq hE hX pX0_al hP hD hS hA hl.1 (L_addC l G h0 a (upd (upd (upd F 2 (nI sz)) 9 (nI at9)) 9 (nI (at451 + 1))) (updR R 1 (.ref pq)) Z (updA B 10 f452) J K466 w f2 1 np it2 cp2 r465 hlc477 (by decide) hf476 (by omega) (by omega) hO hl0) (gV pw_885 pw_886 pw_887 pw_32 pw_868) hV_Jx4a65c_add_9ea2d qr481 10 hqr482 rfl rfl rfl (Nat.le_of_ble_eq_true rfl) dX8_head_181 ⟨(by show ((3 + 2 * np) + 1) + 1 ≤ (2 * (sz - at9) + 10); omega), (by show ((120 + 11 * np + 4 * cp2) + 11) + (10 + np + np / 2) ≤ (60 * (sz - at9) + 400); omega)⟩ ⟨Nat.le_of_ble_eq_true rfl, Nat.le_of_ble_eq_true rfl⟩ (fun v480 u478 H locs hw479 hP hD hS => ?_) (fun ux ce9 q9 H9 locs9 hux hP9 hD9 hS9 hce hcv hcl => pb_out ux (ThQ.up (Thx.b (Thx.f Thx.rfl (by omega)) (by omega) (by decide)) hux) hnt hlocks hce hcv hcl hP9 hD9 hS9 (by show ((3 + 2 * np) + 1) + 1 ≤ (2 * (sz - at9) + 10); omega) (by show ((120 + 11 * np + 4 * cp2) + 11) + (10 + np + np / 2) ≤ (60 * (sz - at9) + 400); omega))
                  obtain ⟨w, K483, d484⟩ := u478
                  obtain ⟨hw479, h485, h486, h487, h488, h489, hO⟩ := hw479
                  have h485 : LsC G K483 f2 1 (np + 1) (upQ it2 np r465) (cp2 + d484) := h485
                  have h486 : AdQ K466 K483 f2 := h486
                  have h487 : N6 K466 K483 := h487
                  have h488 : cp2 + d484 ≤ 10 + 2 * (np + 1) := h488
                  have h489 : d484 ≤ 10 + np / 2 := h489
                  obtain rfl : v480 = some (.int 1) := hw479
                  have hO : OKP G h0 a (upd (upd F 2 (nI sz)) 9 (nI (at451 + 1))) (updR R 1 (.ref pq)) Z (updA B 10 f452) J K483 w := hO.to rfl
                  refine W.widen (k := (((3 + 2 * np) + 1) + 1)) (n := (((120 + 11 * np + 4 * cp2) + 11) + (4 * d484))) (by show ((3 + 2 * np) + 1) + 1 ≤ (((3 + 2 * np) + 1) + 1); omega) (by show ((120 + 11 * np + 4 * cp2) + 11) + (4 * d484) ≤ (((120 + 11 * np + 4 * cp2) + 11) + (4 * d484)); omega) ?_
                  refine W.eq (g2 := F0 m 184 ls [.int 1]) rfl ?_
                  have hg490 : g467 3 f2 = 3 := (h468.2.1.2 f2 (by rw [ht2]; decide) 3).trans hr2
                  have hwp491 : WPr G K483 g467 := WPr.add hwp474 h486 h487 hf472 (by rw [hg490]; exact h485) (by rw [hg490]; show _ ≤ 5000 ∧ _; omega)
                  have hps492 : PgS G K483 g467 (a 1) pq dr ml nd nm cp it s2 := by have z9 := PgS.add hps475 hwp474.2.2.1 h486 h487 hf472 (fun z => by have z2 := hg490; rw [z, hps475.1.2.2.2.2.2.2.1] at z2; exact absurd z2 (by decide)) (by rw [szL_of h485, szL_of hlc477]) (by rw [hg490]; decide) (by rw [hg490]; decide); rw [hg490] at z9; exact z9
                  have hf493 : K483.1 q2 = 3 := (h486.1 q2 (by rw [hf470]; decide)).1.trans hf470
                  have hf494 : K483.1 d0 = 4 := (h486.1 d0 (by rw [hf471]; decide)).1.trans hf471
                  have hf495 : K483.1 f2 = 5 := (h486.1 f2 (by rw [hf472]; decide)).1.trans hf472
                  have hf496 : K483.1 r465 = 1 := (h486.1 r465 (by rw [hf476]; decide)).1.trans hf476
                  refine lv_pop hx hb dX8_head_184 rfl ?_
                  refine lv_aload_n hx hb dX8_head_185 rfl (lv_at hl 8 rfl) ?_
                  refine lv_bipush (v := 39) hx hb dX8_head_186 (by decide) ?_
                  have hO : OKW G h0 a (upd (upd (upd (upd F 2 (nI sz)) 9 (nI (at451 + 1))) 2 (nI sz)) 9 (nI (at451 + 1))) (updR R 1 (.ref pq)) Z (updA B 10 f452) J K483.1 (fun q99 x99 => x99 = rep G a K483 q99) w := hO.to rfl
                  obtain ⟨_, qr500, hqr501⟩ := hO.2.1 23 _ (sg_23 G h0 a _ _ _ _ _)
                  refine pc_V0 (G := G) (As := [.int 39]) (rest := []) hx hb hml hown hq hE hX pX0_al hP hD hS hA hl.1 (P_takeIf l G h0 a (upd (upd F 2 (nI sz)) 9 (nI (at451 + 1))) (updR R 1 (.ref pq)) Z (updA B 10 f452) J K483.1 (fun q99 x99 => x99 = rep G a K483 q99) w 39 (at451 + 1) sz (by omega) (by omega) (by decide) hO) (gV pw_797 pw_798 pw_799 pw_796 pw_789) hV_X8_takeIf qr500 5 hqr501 rfl rfl rfl (Nat.le_of_ble_eq_true rfl) dX8_head_188 ⟨(by show (((3 + 2 * np) + 1) + 1) + 0 ≤ (2 * (sz - at9) + 10); omega), (by show (((120 + 11 * np + 4 * cp2) + 11) + (4 * d484)) + 0 ≤ (60 * (sz - at9) + 400); omega)⟩ ⟨Nat.le_of_ble_eq_true rfl, Nat.le_of_ble_eq_true rfl⟩ (fun v499 u497 H locs hw498 hP hD hS => ?_)
                  obtain ⟨w, r502⟩ := u497
                  obtain ⟨hw498, h503, h504, hO⟩ := hw498
                  have h503 : r502 ≤ 1 := h503
                  have h504 : (at451 + 1) + r502 ≤ sz := h504
                  obtain rfl : v499 = some (.int (nI r502)) := hw498
                  have hO : OKP G h0 a (upd (upd F 2 (nI sz)) 9 (nI ((at451 + 1) + r502))) (updR R 1 (.ref pq)) Z (updA B 10 f452) J K483 w := hO.to rfl
                  refine W.widen (k := (((3 + 2 * np) + 1) + 1)) (n := (((120 + 11 * np + 4 * cp2) + 11) + (4 * d484))) (by show (((3 + 2 * np) + 1) + 1) + 0 ≤ (((3 + 2 * np) + 1) + 1); omega) (by show (((120 + 11 * np + 4 * cp2) + 11) + (4 * d484)) + 0 ≤ (((120 + 11 * np + 4 * cp2) + 11) + (4 * d484)); omega) ?_
                  refine W.eq (g2 := F0 m 191 ls [.int (nI r502)]) rfl ?_
                  refine lv_istore (lv' := [(5, .int (nI r502)), (8, .int (nI at2)), (7, .int 1), (6, .int (nI i2)), (4, .ref q2), (3, .int (nI tk)), (2, .int x1), (1, .ref d0), (0, .ref (a 3))]) hx hb dX8_head_191 hl (by decide) rfl (fun ls hl => ?_)
                  refine lv_iinc (v := (nI (i2 + 1))) (lv' := [(6, .int (nI (i2 + 1))), (5, .int (nI r502)), (8, .int (nI at2)), (7, .int 1), (4, .ref q2), (3, .int (nI tk)), (2, .int x1), (1, .ref d0), (0, .ref (a 3))]) hx hb dX8_head_193 hl (k := 3) rfl (nI_1 i2) (by decide) rfl (fun ls hl => ?_)
                  refine lv_goto (tgt := 77) hx hb dX8_head_196 (by decide) ?_
                  refine W.widen (k := (3 + 2 * (np + 1))) (n := (120 + 11 * (np + 1) + 4 * (cp2 + d484))) (by show (((3 + 2 * np) + 1) + 1) ≤ _; omega) (by show (((120 + 11 * np + 4 * cp2) + 11) + (4 * d484)) ≤ _; omega) ?_
                  have hO : OKP G h0 a (upd (upd F 2 (nI sz)) 9 (nI ((at451 + 1) + r502))) (updR R 1 (.ref pq)) Z (updA B 10 f452) J K483 w := hO.to rfl
                  exact ih_i (i2 + 1) ((at451 + 1) + r502) f452 (nI r502) K483 g467 q2 f2 (np + 1) (cp2 + d484) (upQ it2 np r465) s2 _ _ _ _ (by omega) (by omega) (by omega) hwp491 hps492 (by omega) hf493 hf494 (((AdQ.sm h486 (by rw [hf470]; decide) (fun z => by have z2 := hf470; rw [z, hf472] at z2; exact absurd z2 (by decide)) (by rw [hf470]; decide)).2.2.1 6).trans ((h468.2.1.1 q2 (by rw [hq2]; decide)).2.2.1 6 |>.trans hc62)) hg490 h485 (by omega) hP hD hS hO (lv_sub hl [0, 1, 4, 5, 6, 7, 8] rfl)
                · have n505 : ¬ (np < 8) := fun h9 => c444 ((nI_ltI (a := np) (b := 8) (by omega) (by omega)).mpr h9)
                  refine lv_aload_n hx hb dX8_head_145 rfl (lv_at hl 7 rfl) ?_
                  refine c_get (v := .ref (a 1)) (C := RX8) (Tc := TX8) (N := 5) (ci := 5) hx hb hq pin_wsX80 hown hE hP hO 23 (sg_23 G h0 a _ _ _ _ _) rfl 0 (by decide) (hq _ pw_774) (fun _ h9 => h9) rfl dX8_head_146 ?_
                  refine lv_iconst (v := 2) hx hb dX8_head_149 (by decide) ?_
                  refine lv_aload_n hx hb dX8_head_150 rfl (lv_at hl 7 rfl) ?_
                  refine c_get (v := .int (nI at2)) (C := RX8) (Tc := TX8) (N := 5) (ci := 5) hx hb hq pin_wsX80 hown hE hP hO 23 (sg_23 G h0 a _ _ _ _ _) rfl 2 (by decide) (hq _ pw_776) (fun _ h9 => h9) rfl dX8_head_151 ?_
                  have hO : OKW G h0 a (upd (upd (upd (upd F 2 (nI sz)) 9 (nI at9)) 9 (nI at2)) 2 (nI sz)) (updR R 1 (.ref pq)) Z (updA B 10 f9) J K2.1 (fun q99 x99 => x99 = rep G a K2 q99) w := hO.to rfl
                  obtain ⟨_, qr509, hqr510⟩ := hO.2.1 2 _ (sg_2 G h0 a _ _ _ _ _)
                  refine pn_V0 (G := G) (As := [.int 2, .int (nI at2)]) (rest := []) hx hb hml hown hq hE hX pX0_al hP hD hS hA hl.1 (K_fail l G h0 a (upd (upd (upd F 2 (nI sz)) 9 (nI at9)) 9 (nI at2)) (updR R 1 (.ref pq)) Z (updA B 10 f9) J K2.1 (fun q99 x99 => x99 = rep G a K2 q99) w 2 (nI at2) sz (by omega) hO hl0) (gV pw_779 pw_65 pw_66 pw_59 pw_43) hV_X10_fail qr509 7 hqr510 rfl rfl rfl (Nat.le_of_ble_eq_true rfl) dX8_head_154 ⟨(by show (3 + 2 * np) + 1 ≤ (2 * (sz - at9) + 10); omega), (by show (120 + 11 * np + 4 * cp2) + 6 ≤ (60 * (sz - at9) + 400); omega)⟩ ⟨Nat.le_of_ble_eq_true rfl, Nat.le_of_ble_eq_true rfl⟩ (fun v508 u506 H locs hw507 hP hD hS => hw507.elim) (fun ux ce9 q9 H9 locs9 hux hP9 hD9 hS9 hce hcv hcl => pb_out ux (ThQ.up (Thx.same (Thx.b (Thx.f Thx.rfl (by omega)) (by omega) (by decide)) rfl) hux) hnt hlocks hce hcv hcl hP9 hD9 hS9 (by show (3 + 2 * np) + 1 ≤ (2 * (sz - at9) + 10); omega) (by show (120 + 11 * np + 4 * cp2) + 6 ≤ (60 * (sz - at9) + 400); omega))
              · have n511 : r434 = 0 := (nI_eq (a := r434) (b := 0) (by omega) (by omega)).mp c436
                refine lv_aload_n hx hb dX8_head_103 rfl (lv_at hl 6 rfl) ?_
                refine lv_iconst (v := 1) hx hb dX8_head_104 (by decide) ?_
                have hO : OKW G h0 a (upd (upd (upd (upd F 2 (nI sz)) 9 (nI at2)) 2 (nI sz)) 9 (nI at2)) (updR R 1 (.ref pq)) Z (updA B 10 f9) J K2.1 (fun q99 x99 => x99 = rep G a K2 q99) w := hO.to rfl
                obtain ⟨_, qr515, hqr516⟩ := hO.2.1 23 _ (sg_23 G h0 a _ _ _ _ _)
                refine pc_V0 (G := G) (As := [.int 1]) (rest := []) hx hb hml hown hq hE hX pX0_al hP hD hS hA hl.1 (P_sees l G h0 a (upd (upd F 2 (nI sz)) 9 (nI at2)) (updR R 1 (.ref pq)) Z (updA B 10 f9) J K2.1 (fun q99 x99 => x99 = rep G a K2 q99) w 1 at2 sz (by omega) (by omega) hO) (gV pw_803 pw_804 pw_805 pw_796 pw_775) hV_X8_sees qr515 5 hqr516 rfl rfl rfl (Nat.le_of_ble_eq_true rfl) dX8_head_105 ⟨(by show (3 + 2 * np) + 0 ≤ (2 * (sz - at9) + 10); omega), (by show (120 + 11 * np + 4 * cp2) + 0 ≤ (60 * (sz - at9) + 400); omega)⟩ ⟨Nat.le_of_ble_eq_true rfl, Nat.le_of_ble_eq_true rfl⟩ (fun v514 u512 H locs hw513 hP hD hS => ?_)
                obtain ⟨w, r517⟩ := u512
                obtain ⟨hw513, h518, hO⟩ := hw513
                have h518 : r517 ≤ 1 := h518
                obtain rfl : v514 = some (.int (nI r517)) := hw513
                have hO : OKP G h0 a (upd (upd F 2 (nI sz)) 9 (nI at2)) (updR R 1 (.ref pq)) Z (updA B 10 f9) J K2 w := hO.to rfl
                refine W.widen (k := (3 + 2 * np)) (n := (120 + 11 * np + 4 * cp2)) (by show (3 + 2 * np) + 0 ≤ (3 + 2 * np); omega) (by show (120 + 11 * np + 4 * cp2) + 0 ≤ (120 + 11 * np + 4 * cp2); omega) ?_
                refine W.eq (g2 := F0 m 108 ls [.int (nI r517)]) rfl ?_
                refine lv_if_ne (tgt := 120) hx hb dX8_head_108 (by decide) (fun c519 => ?_) (fun c519 => ?_)
                · have n520 : ¬ (r517 = 0) := fun h9 => c519 ((nI_eq (a := r517) (b := 0) (by omega) (by omega)).mpr h9)
                  refine lv_iconst (v := 1) hx hb dX8_head_120 (by decide) ?_
                  refine lv_goto (tgt := 125) hx hb dX8_head_121 (by decide) ?_
                  refine lv_istore (lv' := [(7, .int 1), (6, .int (nI i2)), (5, .int mo2), (4, .ref q2), (3, .int (nI tk)), (2, .int x1), (1, .ref d0), (0, .ref (a 3))]) hx hb dX8_head_125 hl (by decide) rfl (fun ls hl => ?_)
                  refine lv_iload hx hb dX8_head_127 (lv_at hl 0 rfl) ?_
                  refine lv_if_eq (tgt := 157) hx hb dX8_head_129 (by decide) (fun c521 => absurd c521 (by decide)) (fun c521 => ?_)
                  refine lv_aload hx hb dX8_head_132 (lv_at hl 3 rfl) ?_
                  refine p_get (v := .ref f2) (C := RX6) (Tc := TX6) (N := 12) (ci := 12) hx hb hq pin_wsX60 hown hE hP hO (by rw [hq2]; decide) (rep_3 hq2) rfl 4 (by decide) (hq _ pw_881) (fun _ h9 => h9) (congrArg (fun z => some (va_rf z)) hc62) dX8_head_134 ?_
                  have hO : OKP G h0 a (upd (upd F 2 (nI sz)) 9 (nI at2)) (updR R 1 (.ref pq)) Z (updA B 10 f9) J K2 w := hO.to rfl
                  obtain ⟨qr525, hqr526⟩ := p_recv hO (by rw [ht2]; decide) (rep_5 ht2)
                  refine pc_V0 (G := G) (As := []) (rest := []) hx hb hml hown hq hE hX pX0_al hP hD hS hA hl.1 (L_size l G h0 a (upd (upd F 2 (nI sz)) 9 (nI at2)) (updR R 1 (.ref pq)) Z (updA B 10 f9) J K2 w f2 1 np it2 hlc2.ls hO) (gV pw_882 pw_87 pw_88 pw_32 pw_16) hV_Jx4a65c_size_8abf5 qr525 10 hqr526 rfl rfl rfl (Nat.le_of_ble_eq_true rfl) dX8_head_137 ⟨(by show (3 + 2 * np) + 0 ≤ (2 * (sz - at9) + 10); omega), (by show (120 + 11 * np + 4 * cp2) + 0 ≤ (60 * (sz - at9) + 400); omega)⟩ ⟨Nat.le_of_ble_eq_true rfl, Nat.le_of_ble_eq_true rfl⟩ (fun v524 u522 H locs hw523 hP hD hS => ?_)
                  obtain ⟨w, _⟩ := u522
                  obtain ⟨hw523, hO⟩ := hw523
                  obtain rfl : v524 = some (.int (nI np)) := hw523
                  have hO : OKP G h0 a (upd (upd F 2 (nI sz)) 9 (nI at2)) (updR R 1 (.ref pq)) Z (updA B 10 f9) J K2 w := hO.to rfl
                  refine W.widen (k := (3 + 2 * np)) (n := (120 + 11 * np + 4 * cp2)) (by show (3 + 2 * np) + 0 ≤ (3 + 2 * np); omega) (by show (120 + 11 * np + 4 * cp2) + 0 ≤ (120 + 11 * np + 4 * cp2); omega) ?_
                  refine W.eq (g2 := F0 m 140 ls [.int (nI np)]) rfl ?_
                  refine lv_bipush (v := 8) hx hb dX8_head_140 (by decide) ?_
                  refine lv_icmp_lt (tgt := 157) hx hb dX8_head_142 (by decide) (fun c527 => ?_) (fun c527 => ?_)
                  · have n528 : np < 8 := (nI_ltI (a := np) (b := 8) (by omega) (by omega)).mp c527
                    refine lv_aload_n hx hb dX8_head_157 rfl (lv_at hl 7 rfl) ?_
                    refine lv_iconst (v := 1) hx hb dX8_head_158 (by decide) ?_
                    have hO : OKW G h0 a (upd (upd (upd (upd (upd F 2 (nI sz)) 9 (nI at9)) 9 (nI at2)) 2 (nI sz)) 9 (nI at2)) (updR R 1 (.ref pq)) Z (updA B 10 f9) J K2.1 (fun q99 x99 => x99 = rep G a K2 q99) w := hO.to rfl
                    obtain ⟨_, qr532, hqr533⟩ := hO.2.1 23 _ (sg_23 G h0 a _ _ _ _ _)
                    refine pn_V0 (G := G) (As := [.int 1]) (rest := []) hx hb hml hown hq hE hX pX0_al hP hD hS hA hl.1 (P_takeType l G h0 a (upd (upd (upd F 2 (nI sz)) 9 (nI at9)) 9 (nI at2)) (updR R 1 (.ref pq)) Z (updA B 10 f9) J K2.1 (fun q99 x99 => x99 = rep G a K2 q99) w 1 at2 sz (by omega) (by omega) hO hl0) (gV pw_825 pw_826 pw_827 pw_796 pw_821) hV_X8_takeType qr532 5 hqr533 rfl rfl rfl (Nat.le_of_ble_eq_true rfl) dX8_head_159 ⟨(by show (3 + 2 * np) + 1 ≤ (2 * (sz - at9) + 10); omega), (by show (120 + 11 * np + 4 * cp2) + 6 ≤ (60 * (sz - at9) + 400); omega)⟩ ⟨Nat.le_of_ble_eq_true rfl, Nat.le_of_ble_eq_true rfl⟩ (fun v531 u529 H locs hw530 hP hD hS => ?_) (fun ux ce9 q9 H9 locs9 hux hP9 hD9 hS9 hce hcv hcl => pb_out ux (ThQ.up (Thx.same (Thx.same (Thx.b (Thx.f Thx.rfl (by omega)) (by omega) (by decide)) rfl) rfl) hux) hnt hlocks hce hcv hcl hP9 hD9 hS9 (by show (3 + 2 * np) + 1 ≤ (2 * (sz - at9) + 10); omega) (by show (120 + 11 * np + 4 * cp2) + 6 ≤ (60 * (sz - at9) + 400); omega))
                    obtain ⟨w, at534, f535⟩ := u529
                    obtain ⟨hw530, h536, hO⟩ := hw530
                    have h536 : at2 + 1 ≤ at534 ∧ at534 ≤ sz := h536
                    obtain rfl : v531 = some (.int (nI at2)) := hw530
                    have hO : OKP G h0 a (upd (upd F 2 (nI sz)) 9 (nI at534)) (updR R 1 (.ref pq)) Z (updA B 10 f535) J K2 w := hO.to rfl
                    refine W.widen (k := (3 + 2 * np)) (n := (120 + 11 * np + 4 * cp2)) (by show (3 + 2 * np) + 0 ≤ (3 + 2 * np); omega) (by show (120 + 11 * np + 4 * cp2) + 0 ≤ (120 + 11 * np + 4 * cp2); omega) ?_
                    refine W.eq (g2 := F0 m 162 ls [.int (nI at2)]) rfl ?_
                    refine lv_istore (lv' := [(8, .int (nI at2)), (7, .int 1), (6, .int (nI i2)), (5, .int mo2), (4, .ref q2), (3, .int (nI tk)), (2, .int x1), (1, .ref d0), (0, .ref (a 3))]) hx hb dX8_head_162 hl (by decide) rfl (fun ls hl => ?_)
                    refine lv_aload hx hb dX8_head_164 (lv_at hl 4 rfl) ?_
                    refine p_get (v := .ref f2) (C := RX6) (Tc := TX6) (N := 12) (ci := 12) hx hb hq pin_wsX60 hown hE hP hO (by rw [hq2]; decide) (rep_3 hq2) rfl 4 (by decide) (hq _ pw_881) (fun _ h9 => h9) (congrArg (fun z => some (va_rf z)) hc62) dX8_head_166 ?_
                    refine lv_aload_n hx hb dX8_head_169 rfl (lv_at hl 8 rfl) ?_
                    refine lv_iload hx hb dX8_head_170 (lv_at hl 0 rfl) ?_
                    refine lv_aload_n hx hb dX8_head_172 rfl (lv_at hl 8 rfl) ?_
                    refine lv_bipush (v := 65) hx hb dX8_head_173 (by decide) ?_
                    have hO : OKW G h0 a (upd (upd (upd (upd (upd F 2 (nI sz)) 9 (nI at9)) 9 (nI at534)) 2 (nI sz)) 9 (nI at534)) (updR R 1 (.ref pq)) Z (updA B 10 f535) J K2.1 (fun q99 x99 => x99 = rep G a K2 q99) w := hO.to rfl
                    obtain ⟨_, qr540, hqr541⟩ := hO.2.1 23 _ (sg_23 G h0 a _ _ _ _ _)
                    refine pn_V0 (G := G) (As := [.int 65]) (rest := [.int (nI at2), .ref (a 3), .ref f2]) hx hb hml hown hq hE hX pX0_al hP hD hS hA hl.1 (P_take l G h0 a (upd (upd (upd F 2 (nI sz)) 9 (nI at9)) 9 (nI at534)) (updR R 1 (.ref pq)) Z (updA B 10 f535) J K2.1 (fun q99 x99 => x99 = rep G a K2 q99) w 65 at534 sz (by omega) (by omega) (by decide) hO hl0) (gV pw_793 pw_794 pw_795 pw_796 pw_781) hV_X8_take qr540 5 hqr541 rfl rfl rfl (Nat.le_of_ble_eq_true rfl) dX8_head_175 ⟨(by show (3 + 2 * np) + 1 ≤ (2 * (sz - at9) + 10); omega), (by show (120 + 11 * np + 4 * cp2) + 6 ≤ (60 * (sz - at9) + 400); omega)⟩ ⟨Nat.le_of_ble_eq_true rfl, Nat.le_of_ble_eq_true rfl⟩ (fun v539 u537 H locs hw538 hP hD hS => ?_) (fun ux ce9 q9 H9 locs9 hux hP9 hD9 hS9 hce hcv hcl => pb_out ux (ThQ.up (Thx.same (Thx.same (Thx.b (Thx.f Thx.rfl (by omega)) (by omega) (by decide)) rfl) rfl) hux) hnt hlocks hce hcv hcl hP9 hD9 hS9 (by show (3 + 2 * np) + 1 ≤ (2 * (sz - at9) + 10); omega) (by show (120 + 11 * np + 4 * cp2) + 6 ≤ (60 * (sz - at9) + 400); omega))
                    obtain ⟨w, _⟩ := u537
                    obtain ⟨hw538, h542, hO⟩ := hw538
                    have h542 : at534 + 1 ≤ sz := h542
                    obtain rfl : v539 = some (.int (nI at534)) := hw538
                    have hO : OKP G h0 a (upd (upd F 2 (nI sz)) 9 (nI (at534 + 1))) (updR R 1 (.ref pq)) Z (updA B 10 f535) J K2 w := hO.to rfl
                    refine W.widen (k := (3 + 2 * np)) (n := (120 + 11 * np + 4 * cp2)) (by show (3 + 2 * np) + 0 ≤ (3 + 2 * np); omega) (by show (120 + 11 * np + 4 * cp2) + 0 ≤ (120 + 11 * np + 4 * cp2); omega) ?_
                    refine W.eq (g2 := F0 m 178 ls [.int (nI at534), .int (nI at2), .ref (a 3), .ref f2]) rfl ?_
                    have hO : OKP G h0 a (upd (upd (upd F 2 (nI sz)) 9 (nI (at534 + 1))) 2 (nI sz)) (updR R 1 (.ref pq)) Z (updA B 10 f535) J K2 w := hO.to rfl
                    obtain ⟨_, qr546, hqr547⟩ := hO.2.1 23 _ (sg_23 G h0 a _ _ _ _ _)
                    refine pc_V0 (G := G) (As := [.int (nI at2), .int (nI at534)]) (rest := [.ref f2]) hx hb hml hown hq hE hX pX0_al hP hD hS hA hl.1 (P_variable l G h0 a (upd (upd F 2 (nI sz)) 9 (nI (at534 + 1))) (updR R 1 (.ref pq)) Z (updA B 10 f535) J K2 w (nI at2) (nI at534) sz 0 0 g2 (by omega) hwp2.1 (fun o9 h9 => absurd h9 (by omega)) (by omega) hO) (gV pw_888 pw_889 pw_890 pw_796 pw_869) hV_X8_variable qr546 5 hqr547 rfl rfl rfl (Nat.le_of_ble_eq_true rfl) dX8_head_178 ⟨(by show (3 + 2 * np) + 1 ≤ (2 * (sz - at9) + 10); omega), (by show (120 + 11 * np + 4 * cp2) + 11 ≤ (60 * (sz - at9) + 400); omega)⟩ ⟨Nat.le_of_ble_eq_true rfl, Nat.le_of_ble_eq_true rfl⟩ (fun v545 u543 H locs hw544 hP hD hS => ?_)
                    obtain ⟨w, r548, K549, g550⟩ := u543
                    obtain ⟨hw544, h551, h552, hO⟩ := hw544
                    have h551 : NwR K2 K549 g2 g550 r548 0 0 1 := h551
                    have h552 : K549.2.1 0 r548 = 36 := h552
                    obtain rfl : v545 = some (.ref r548) := hw544
                    have hf553 : K549.1 q2 = 3 := (((h551).2.1.1 q2 (by rw [hq2]; decide)).1).trans hq2
                    have hf554 : K549.1 d0 = 4 := (((h551).2.1.1 d0 (by rw [hd2]; decide)).1).trans hd2
                    have hf555 : K549.1 f2 = 5 := (((h551).2.1.1 f2 (by rw [ht2]; decide)).1).trans ht2
                    have hf556 : K549.2.2.1 6 q2 = some f2 := (((h551).2.1.1 q2 (by rw [hq2]; decide)).2.2.1 6).trans hc62
                    have hO : OKP G h0 a (upd (upd F 2 (nI sz)) 9 (nI (at534 + 1))) (updR R 1 (.ref pq)) Z (updA B 10 f535) J K549 w := hO.to rfl
                    refine W.widen (k := ((3 + 2 * np) + 1)) (n := ((120 + 11 * np + 4 * cp2) + 11)) (by show (3 + 2 * np) + 1 ≤ ((3 + 2 * np) + 1); omega) (by show (120 + 11 * np + 4 * cp2) + 11 ≤ ((120 + 11 * np + 4 * cp2) + 11); omega) ?_
                    refine W.eq (g2 := F0 m 181 ls [.ref r548, .ref f2]) rfl ?_
                    have hwp557 := WPr.nd hwp2 h551
                    have hps558 := PgS.nd hps2 hwp2 h551
                    have hf559 : K549.1 r548 = 1 := h551.2.2.1.2.1
                    have hlc560 : LsC G K549 f2 1 np it2 cp2 := (LsC.wx (fun p hp => (h551.2.1.1 p hp).1) (by decide) (h551.2.1.1 f2 (by rw [ht2]; decide)) (fun e he _ => h551.2.1.1 e (by rw [he]; decide)) hlc2)
                    have hO : OKP G h0 a (upd (upd (upd F 2 (nI sz)) 9 (nI at9)) 9 (nI (at534 + 1))) (updR R 1 (.ref pq)) Z (updA B 10 f535) J K549 w := hO.to rfl
                    obtain ⟨qr564, hqr565⟩ := p_recv hO (by rw [hf555]; decide) (rep_5 hf555)
                    refine pn_V0 (G := G) (As := [.ref r548]) (rest := []) hx hb hml hown hq hE hX pX0_al hP hD hS hA hl.1 (L_addC l G h0 a (upd (upd (upd F 2 (nI sz)) 9 (nI at9)) 9 (nI (at534 + 1))) (updR R 1 (.ref pq)) Z (updA B 10 f535) J K549 w f2 1 np it2 cp2 r548 hlc560 (by decide) hf559 (by omega) (by omega) hO hl0) (gV pw_885 pw_886 pw_887 pw_32 pw_868) hV_Jx4a65c_add_9ea2d qr564 10 hqr565 rfl rfl rfl (Nat.le_of_ble_eq_true rfl) dX8_head_181 ⟨(by show ((3 + 2 * np) + 1) + 1 ≤ (2 * (sz - at9) + 10); omega), (by show ((120 + 11 * np + 4 * cp2) + 11) + (10 + np + np / 2) ≤ (60 * (sz - at9) + 400); omega)⟩ ⟨Nat.le_of_ble_eq_true rfl, Nat.le_of_ble_eq_true rfl⟩ (fun v563 u561 H locs hw562 hP hD hS => ?_) (fun ux ce9 q9 H9 locs9 hux hP9 hD9 hS9 hce hcv hcl => pb_out ux (ThQ.up (Thx.b (Thx.f Thx.rfl (by omega)) (by omega) (by decide)) hux) hnt hlocks hce hcv hcl hP9 hD9 hS9 (by show ((3 + 2 * np) + 1) + 1 ≤ (2 * (sz - at9) + 10); omega) (by show ((120 + 11 * np + 4 * cp2) + 11) + (10 + np + np / 2) ≤ (60 * (sz - at9) + 400); omega))
                    obtain ⟨w, K566, d567⟩ := u561
                    obtain ⟨hw562, h568, h569, h570, h571, h572, hO⟩ := hw562
                    have h568 : LsC G K566 f2 1 (np + 1) (upQ it2 np r548) (cp2 + d567) := h568
                    have h569 : AdQ K549 K566 f2 := h569
                    have h570 : N6 K549 K566 := h570
                    have h571 : cp2 + d567 ≤ 10 + 2 * (np + 1) := h571
                    have h572 : d567 ≤ 10 + np / 2 := h572
                    obtain rfl : v563 = some (.int 1) := hw562
                    have hO : OKP G h0 a (upd (upd F 2 (nI sz)) 9 (nI (at534 + 1))) (updR R 1 (.ref pq)) Z (updA B 10 f535) J K566 w := hO.to rfl
                    refine W.widen (k := (((3 + 2 * np) + 1) + 1)) (n := (((120 + 11 * np + 4 * cp2) + 11) + (4 * d567))) (by show ((3 + 2 * np) + 1) + 1 ≤ (((3 + 2 * np) + 1) + 1); omega) (by show ((120 + 11 * np + 4 * cp2) + 11) + (4 * d567) ≤ (((120 + 11 * np + 4 * cp2) + 11) + (4 * d567)); omega) ?_
                    refine W.eq (g2 := F0 m 184 ls [.int 1]) rfl ?_
                    have hg573 : g550 3 f2 = 3 := (h551.2.1.2 f2 (by rw [ht2]; decide) 3).trans hr2
                    have hwp574 : WPr G K566 g550 := WPr.add hwp557 h569 h570 hf555 (by rw [hg573]; exact h568) (by rw [hg573]; show _ ≤ 5000 ∧ _; omega)
                    have hps575 : PgS G K566 g550 (a 1) pq dr ml nd nm cp it s2 := by have z9 := PgS.add hps558 hwp557.2.2.1 h569 h570 hf555 (fun z => by have z2 := hg573; rw [z, hps558.1.2.2.2.2.2.2.1] at z2; exact absurd z2 (by decide)) (by rw [szL_of h568, szL_of hlc560]) (by rw [hg573]; decide) (by rw [hg573]; decide); rw [hg573] at z9; exact z9
                    have hf576 : K566.1 q2 = 3 := (h569.1 q2 (by rw [hf553]; decide)).1.trans hf553
                    have hf577 : K566.1 d0 = 4 := (h569.1 d0 (by rw [hf554]; decide)).1.trans hf554
                    have hf578 : K566.1 f2 = 5 := (h569.1 f2 (by rw [hf555]; decide)).1.trans hf555
                    have hf579 : K566.1 r548 = 1 := (h569.1 r548 (by rw [hf559]; decide)).1.trans hf559
                    refine lv_pop hx hb dX8_head_184 rfl ?_
                    refine lv_aload_n hx hb dX8_head_185 rfl (lv_at hl 8 rfl) ?_
                    refine lv_bipush (v := 39) hx hb dX8_head_186 (by decide) ?_
                    have hO : OKW G h0 a (upd (upd (upd (upd F 2 (nI sz)) 9 (nI (at534 + 1))) 2 (nI sz)) 9 (nI (at534 + 1))) (updR R 1 (.ref pq)) Z (updA B 10 f535) J K566.1 (fun q99 x99 => x99 = rep G a K566 q99) w := hO.to rfl
                    obtain ⟨_, qr583, hqr584⟩ := hO.2.1 23 _ (sg_23 G h0 a _ _ _ _ _)
                    refine pc_V0 (G := G) (As := [.int 39]) (rest := []) hx hb hml hown hq hE hX pX0_al hP hD hS hA hl.1 (P_takeIf l G h0 a (upd (upd F 2 (nI sz)) 9 (nI (at534 + 1))) (updR R 1 (.ref pq)) Z (updA B 10 f535) J K566.1 (fun q99 x99 => x99 = rep G a K566 q99) w 39 (at534 + 1) sz (by omega) (by omega) (by decide) hO) (gV pw_797 pw_798 pw_799 pw_796 pw_789) hV_X8_takeIf qr583 5 hqr584 rfl rfl rfl (Nat.le_of_ble_eq_true rfl) dX8_head_188 ⟨(by show (((3 + 2 * np) + 1) + 1) + 0 ≤ (2 * (sz - at9) + 10); omega), (by show (((120 + 11 * np + 4 * cp2) + 11) + (4 * d567)) + 0 ≤ (60 * (sz - at9) + 400); omega)⟩ ⟨Nat.le_of_ble_eq_true rfl, Nat.le_of_ble_eq_true rfl⟩ (fun v582 u580 H locs hw581 hP hD hS => ?_)
                    obtain ⟨w, r585⟩ := u580
                    obtain ⟨hw581, h586, h587, hO⟩ := hw581
                    have h586 : r585 ≤ 1 := h586
                    have h587 : (at534 + 1) + r585 ≤ sz := h587
                    obtain rfl : v582 = some (.int (nI r585)) := hw581
                    have hO : OKP G h0 a (upd (upd F 2 (nI sz)) 9 (nI ((at534 + 1) + r585))) (updR R 1 (.ref pq)) Z (updA B 10 f535) J K566 w := hO.to rfl
                    refine W.widen (k := (((3 + 2 * np) + 1) + 1)) (n := (((120 + 11 * np + 4 * cp2) + 11) + (4 * d567))) (by show (((3 + 2 * np) + 1) + 1) + 0 ≤ (((3 + 2 * np) + 1) + 1); omega) (by show (((120 + 11 * np + 4 * cp2) + 11) + (4 * d567)) + 0 ≤ (((120 + 11 * np + 4 * cp2) + 11) + (4 * d567)); omega) ?_
                    refine W.eq (g2 := F0 m 191 ls [.int (nI r585)]) rfl ?_
                    refine lv_istore (lv' := [(5, .int (nI r585)), (8, .int (nI at2)), (7, .int 1), (6, .int (nI i2)), (4, .ref q2), (3, .int (nI tk)), (2, .int x1), (1, .ref d0), (0, .ref (a 3))]) hx hb dX8_head_191 hl (by decide) rfl (fun ls hl => ?_)
                    refine lv_iinc (v := (nI (i2 + 1))) (lv' := [(6, .int (nI (i2 + 1))), (5, .int (nI r585)), (8, .int (nI at2)), (7, .int 1), (4, .ref q2), (3, .int (nI tk)), (2, .int x1), (1, .ref d0), (0, .ref (a 3))]) hx hb dX8_head_193 hl (k := 3) rfl (nI_1 i2) (by decide) rfl (fun ls hl => ?_)
                    refine lv_goto (tgt := 77) hx hb dX8_head_196 (by decide) ?_
                    refine W.widen (k := (3 + 2 * (np + 1))) (n := (120 + 11 * (np + 1) + 4 * (cp2 + d567))) (by show (((3 + 2 * np) + 1) + 1) ≤ _; omega) (by show (((120 + 11 * np + 4 * cp2) + 11) + (4 * d567)) ≤ _; omega) ?_
                    have hO : OKP G h0 a (upd (upd F 2 (nI sz)) 9 (nI ((at534 + 1) + r585))) (updR R 1 (.ref pq)) Z (updA B 10 f535) J K566 w := hO.to rfl
                    exact ih_i (i2 + 1) ((at534 + 1) + r585) f535 (nI r585) K566 g550 q2 f2 (np + 1) (cp2 + d567) (upQ it2 np r548) s2 _ _ _ _ (by omega) (by omega) (by omega) hwp574 hps575 (by omega) hf576 hf577 (((AdQ.sm h569 (by rw [hf553]; decide) (fun z => by have z2 := hf553; rw [z, hf555] at z2; exact absurd z2 (by decide)) (by rw [hf553]; decide)).2.2.1 6).trans ((h551.2.1.1 q2 (by rw [hq2]; decide)).2.2.1 6 |>.trans hc62)) hg573 h568 (by omega) hP hD hS hO (lv_sub hl [0, 1, 4, 5, 6, 7, 8] rfl)
                  · have n588 : ¬ (np < 8) := fun h9 => c527 ((nI_ltI (a := np) (b := 8) (by omega) (by omega)).mpr h9)
                    refine lv_aload_n hx hb dX8_head_145 rfl (lv_at hl 7 rfl) ?_
                    refine c_get (v := .ref (a 1)) (C := RX8) (Tc := TX8) (N := 5) (ci := 5) hx hb hq pin_wsX80 hown hE hP hO 23 (sg_23 G h0 a _ _ _ _ _) rfl 0 (by decide) (hq _ pw_774) (fun _ h9 => h9) rfl dX8_head_146 ?_
                    refine lv_iconst (v := 2) hx hb dX8_head_149 (by decide) ?_
                    refine lv_aload_n hx hb dX8_head_150 rfl (lv_at hl 7 rfl) ?_
                    refine c_get (v := .int (nI at2)) (C := RX8) (Tc := TX8) (N := 5) (ci := 5) hx hb hq pin_wsX80 hown hE hP hO 23 (sg_23 G h0 a _ _ _ _ _) rfl 2 (by decide) (hq _ pw_776) (fun _ h9 => h9) rfl dX8_head_151 ?_
                    have hO : OKW G h0 a (upd (upd (upd (upd F 2 (nI sz)) 9 (nI at9)) 9 (nI at2)) 2 (nI sz)) (updR R 1 (.ref pq)) Z (updA B 10 f9) J K2.1 (fun q99 x99 => x99 = rep G a K2 q99) w := hO.to rfl
                    obtain ⟨_, qr592, hqr593⟩ := hO.2.1 2 _ (sg_2 G h0 a _ _ _ _ _)
                    refine pn_V0 (G := G) (As := [.int 2, .int (nI at2)]) (rest := []) hx hb hml hown hq hE hX pX0_al hP hD hS hA hl.1 (K_fail l G h0 a (upd (upd (upd F 2 (nI sz)) 9 (nI at9)) 9 (nI at2)) (updR R 1 (.ref pq)) Z (updA B 10 f9) J K2.1 (fun q99 x99 => x99 = rep G a K2 q99) w 2 (nI at2) sz (by omega) hO hl0) (gV pw_779 pw_65 pw_66 pw_59 pw_43) hV_X10_fail qr592 7 hqr593 rfl rfl rfl (Nat.le_of_ble_eq_true rfl) dX8_head_154 ⟨(by show (3 + 2 * np) + 1 ≤ (2 * (sz - at9) + 10); omega), (by show (120 + 11 * np + 4 * cp2) + 6 ≤ (60 * (sz - at9) + 400); omega)⟩ ⟨Nat.le_of_ble_eq_true rfl, Nat.le_of_ble_eq_true rfl⟩ (fun v591 u589 H locs hw590 hP hD hS => hw590.elim) (fun ux ce9 q9 H9 locs9 hux hP9 hD9 hS9 hce hcv hcl => pb_out ux (ThQ.up (Thx.same (Thx.b (Thx.f Thx.rfl (by omega)) (by omega) (by decide)) rfl) hux) hnt hlocks hce hcv hcl hP9 hD9 hS9 (by show (3 + 2 * np) + 1 ≤ (2 * (sz - at9) + 10); omega) (by show (120 + 11 * np + 4 * cp2) + 6 ≤ (60 * (sz - at9) + 400); omega))
                · have n594 : r517 = 0 := (nI_eq (a := r517) (b := 0) (by omega) (by omega)).mp c519
                  refine lv_aload_n hx hb dX8_head_111 rfl (lv_at hl 6 rfl) ?_
                  refine lv_bipush (v := 65) hx hb dX8_head_112 (by decide) ?_
                  have hO : OKW G h0 a (upd (upd (upd (upd F 2 (nI sz)) 9 (nI at2)) 2 (nI sz)) 9 (nI at2)) (updR R 1 (.ref pq)) Z (updA B 10 f9) J K2.1 (fun q99 x99 => x99 = rep G a K2 q99) w := hO.to rfl
                  obtain ⟨_, qr598, hqr599⟩ := hO.2.1 23 _ (sg_23 G h0 a _ _ _ _ _)
                  refine pc_V0 (G := G) (As := [.int 65]) (rest := []) hx hb hml hown hq hE hX pX0_al hP hD hS hA hl.1 (P_sees l G h0 a (upd (upd F 2 (nI sz)) 9 (nI at2)) (updR R 1 (.ref pq)) Z (updA B 10 f9) J K2.1 (fun q99 x99 => x99 = rep G a K2 q99) w 65 at2 sz (by omega) (by omega) hO) (gV pw_803 pw_804 pw_805 pw_796 pw_775) hV_X8_sees qr598 5 hqr599 rfl rfl rfl (Nat.le_of_ble_eq_true rfl) dX8_head_114 ⟨(by show (3 + 2 * np) + 0 ≤ (2 * (sz - at9) + 10); omega), (by show (120 + 11 * np + 4 * cp2) + 0 ≤ (60 * (sz - at9) + 400); omega)⟩ ⟨Nat.le_of_ble_eq_true rfl, Nat.le_of_ble_eq_true rfl⟩ (fun v597 u595 H locs hw596 hP hD hS => ?_)
                  obtain ⟨w, r600⟩ := u595
                  obtain ⟨hw596, h601, hO⟩ := hw596
                  have h601 : r600 ≤ 1 := h601
                  obtain rfl : v597 = some (.int (nI r600)) := hw596
                  have hO : OKP G h0 a (upd (upd F 2 (nI sz)) 9 (nI at2)) (updR R 1 (.ref pq)) Z (updA B 10 f9) J K2 w := hO.to rfl
                  refine W.widen (k := (3 + 2 * np)) (n := (120 + 11 * np + 4 * cp2)) (by show (3 + 2 * np) + 0 ≤ (3 + 2 * np); omega) (by show (120 + 11 * np + 4 * cp2) + 0 ≤ (120 + 11 * np + 4 * cp2); omega) ?_
                  refine W.eq (g2 := F0 m 117 ls [.int (nI r600)]) rfl ?_
                  refine lv_if_eq (tgt := 124) hx hb dX8_head_117 (by decide) (fun c602 => ?_) (fun c602 => ?_)
                  · have n603 : r600 = 0 := (nI_eq (a := r600) (b := 0) (by omega) (by omega)).mp c602
                    refine lv_iconst (v := 0) hx hb dX8_head_124 (by decide) ?_
                    refine lv_istore (lv' := [(7, .int 0), (6, .int (nI i2)), (5, .int mo2), (4, .ref q2), (3, .int (nI tk)), (2, .int x1), (1, .ref d0), (0, .ref (a 3))]) hx hb dX8_head_125 hl (by decide) rfl (fun ls hl => ?_)
                    refine lv_iload hx hb dX8_head_127 (lv_at hl 0 rfl) ?_
                    refine lv_if_eq (tgt := 157) hx hb dX8_head_129 (by decide) (fun c604 => ?_) (fun c604 => absurd c604 (by decide))
                    refine lv_aload_n hx hb dX8_head_157 rfl (lv_at hl 7 rfl) ?_
                    refine lv_iconst (v := 1) hx hb dX8_head_158 (by decide) ?_
                    have hO : OKW G h0 a (upd (upd (upd (upd (upd F 2 (nI sz)) 9 (nI at9)) 9 (nI at2)) 2 (nI sz)) 9 (nI at2)) (updR R 1 (.ref pq)) Z (updA B 10 f9) J K2.1 (fun q99 x99 => x99 = rep G a K2 q99) w := hO.to rfl
                    obtain ⟨_, qr608, hqr609⟩ := hO.2.1 23 _ (sg_23 G h0 a _ _ _ _ _)
                    refine pn_V0 (G := G) (As := [.int 1]) (rest := []) hx hb hml hown hq hE hX pX0_al hP hD hS hA hl.1 (P_takeType l G h0 a (upd (upd (upd F 2 (nI sz)) 9 (nI at9)) 9 (nI at2)) (updR R 1 (.ref pq)) Z (updA B 10 f9) J K2.1 (fun q99 x99 => x99 = rep G a K2 q99) w 1 at2 sz (by omega) (by omega) hO hl0) (gV pw_825 pw_826 pw_827 pw_796 pw_821) hV_X8_takeType qr608 5 hqr609 rfl rfl rfl (Nat.le_of_ble_eq_true rfl) dX8_head_159 ⟨(by show (3 + 2 * np) + 1 ≤ (2 * (sz - at9) + 10); omega), (by show (120 + 11 * np + 4 * cp2) + 6 ≤ (60 * (sz - at9) + 400); omega)⟩ ⟨Nat.le_of_ble_eq_true rfl, Nat.le_of_ble_eq_true rfl⟩ (fun v607 u605 H locs hw606 hP hD hS => ?_) (fun ux ce9 q9 H9 locs9 hux hP9 hD9 hS9 hce hcv hcl => pb_out ux (ThQ.up (Thx.same (Thx.same (Thx.b (Thx.f Thx.rfl (by omega)) (by omega) (by decide)) rfl) rfl) hux) hnt hlocks hce hcv hcl hP9 hD9 hS9 (by show (3 + 2 * np) + 1 ≤ (2 * (sz - at9) + 10); omega) (by show (120 + 11 * np + 4 * cp2) + 6 ≤ (60 * (sz - at9) + 400); omega))
                    obtain ⟨w, at610, f611⟩ := u605
                    obtain ⟨hw606, h612, hO⟩ := hw606
                    have h612 : at2 + 1 ≤ at610 ∧ at610 ≤ sz := h612
                    obtain rfl : v607 = some (.int (nI at2)) := hw606
                    have hO : OKP G h0 a (upd (upd F 2 (nI sz)) 9 (nI at610)) (updR R 1 (.ref pq)) Z (updA B 10 f611) J K2 w := hO.to rfl
                    refine W.widen (k := (3 + 2 * np)) (n := (120 + 11 * np + 4 * cp2)) (by show (3 + 2 * np) + 0 ≤ (3 + 2 * np); omega) (by show (120 + 11 * np + 4 * cp2) + 0 ≤ (120 + 11 * np + 4 * cp2); omega) ?_
                    refine W.eq (g2 := F0 m 162 ls [.int (nI at2)]) rfl ?_
                    refine lv_istore (lv' := [(8, .int (nI at2)), (7, .int 0), (6, .int (nI i2)), (5, .int mo2), (4, .ref q2), (3, .int (nI tk)), (2, .int x1), (1, .ref d0), (0, .ref (a 3))]) hx hb dX8_head_162 hl (by decide) rfl (fun ls hl => ?_)
                    refine lv_aload hx hb dX8_head_164 (lv_at hl 4 rfl) ?_
                    refine p_get (v := .ref f2) (C := RX6) (Tc := TX6) (N := 12) (ci := 12) hx hb hq pin_wsX60 hown hE hP hO (by rw [hq2]; decide) (rep_3 hq2) rfl 4 (by decide) (hq _ pw_881) (fun _ h9 => h9) (congrArg (fun z => some (va_rf z)) hc62) dX8_head_166 ?_
                    refine lv_aload_n hx hb dX8_head_169 rfl (lv_at hl 8 rfl) ?_
                    refine lv_iload hx hb dX8_head_170 (lv_at hl 0 rfl) ?_
                    refine lv_aload_n hx hb dX8_head_172 rfl (lv_at hl 8 rfl) ?_
                    refine lv_bipush (v := 65) hx hb dX8_head_173 (by decide) ?_
                    have hO : OKW G h0 a (upd (upd (upd (upd (upd F 2 (nI sz)) 9 (nI at9)) 9 (nI at610)) 2 (nI sz)) 9 (nI at610)) (updR R 1 (.ref pq)) Z (updA B 10 f611) J K2.1 (fun q99 x99 => x99 = rep G a K2 q99) w := hO.to rfl
                    obtain ⟨_, qr616, hqr617⟩ := hO.2.1 23 _ (sg_23 G h0 a _ _ _ _ _)
                    refine pn_V0 (G := G) (As := [.int 65]) (rest := [.int (nI at2), .ref (a 3), .ref f2]) hx hb hml hown hq hE hX pX0_al hP hD hS hA hl.1 (P_take l G h0 a (upd (upd (upd F 2 (nI sz)) 9 (nI at9)) 9 (nI at610)) (updR R 1 (.ref pq)) Z (updA B 10 f611) J K2.1 (fun q99 x99 => x99 = rep G a K2 q99) w 65 at610 sz (by omega) (by omega) (by decide) hO hl0) (gV pw_793 pw_794 pw_795 pw_796 pw_781) hV_X8_take qr616 5 hqr617 rfl rfl rfl (Nat.le_of_ble_eq_true rfl) dX8_head_175 ⟨(by show (3 + 2 * np) + 1 ≤ (2 * (sz - at9) + 10); omega), (by show (120 + 11 * np + 4 * cp2) + 6 ≤ (60 * (sz - at9) + 400); omega)⟩ ⟨Nat.le_of_ble_eq_true rfl, Nat.le_of_ble_eq_true rfl⟩ (fun v615 u613 H locs hw614 hP hD hS => ?_) (fun ux ce9 q9 H9 locs9 hux hP9 hD9 hS9 hce hcv hcl => pb_out ux (ThQ.up (Thx.same (Thx.same (Thx.b (Thx.f Thx.rfl (by omega)) (by omega) (by decide)) rfl) rfl) hux) hnt hlocks hce hcv hcl hP9 hD9 hS9 (by show (3 + 2 * np) + 1 ≤ (2 * (sz - at9) + 10); omega) (by show (120 + 11 * np + 4 * cp2) + 6 ≤ (60 * (sz - at9) + 400); omega))
                    obtain ⟨w, _⟩ := u613
                    obtain ⟨hw614, h618, hO⟩ := hw614
                    have h618 : at610 + 1 ≤ sz := h618
                    obtain rfl : v615 = some (.int (nI at610)) := hw614
                    have hO : OKP G h0 a (upd (upd F 2 (nI sz)) 9 (nI (at610 + 1))) (updR R 1 (.ref pq)) Z (updA B 10 f611) J K2 w := hO.to rfl
                    refine W.widen (k := (3 + 2 * np)) (n := (120 + 11 * np + 4 * cp2)) (by show (3 + 2 * np) + 0 ≤ (3 + 2 * np); omega) (by show (120 + 11 * np + 4 * cp2) + 0 ≤ (120 + 11 * np + 4 * cp2); omega) ?_
                    refine W.eq (g2 := F0 m 178 ls [.int (nI at610), .int (nI at2), .ref (a 3), .ref f2]) rfl ?_
                    have hO : OKP G h0 a (upd (upd (upd F 2 (nI sz)) 9 (nI (at610 + 1))) 2 (nI sz)) (updR R 1 (.ref pq)) Z (updA B 10 f611) J K2 w := hO.to rfl
                    obtain ⟨_, qr622, hqr623⟩ := hO.2.1 23 _ (sg_23 G h0 a _ _ _ _ _)
                    refine pc_V0 (G := G) (As := [.int (nI at2), .int (nI at610)]) (rest := [.ref f2]) hx hb hml hown hq hE hX pX0_al hP hD hS hA hl.1 (P_variable l G h0 a (upd (upd F 2 (nI sz)) 9 (nI (at610 + 1))) (updR R 1 (.ref pq)) Z (updA B 10 f611) J K2 w (nI at2) (nI at610) sz 0 0 g2 (by omega) hwp2.1 (fun o9 h9 => absurd h9 (by omega)) (by omega) hO) (gV pw_888 pw_889 pw_890 pw_796 pw_869) hV_X8_variable qr622 5 hqr623 rfl rfl rfl (Nat.le_of_ble_eq_true rfl) dX8_head_178 ⟨(by show (3 + 2 * np) + 1 ≤ (2 * (sz - at9) + 10); omega), (by show (120 + 11 * np + 4 * cp2) + 11 ≤ (60 * (sz - at9) + 400); omega)⟩ ⟨Nat.le_of_ble_eq_true rfl, Nat.le_of_ble_eq_true rfl⟩ (fun v621 u619 H locs hw620 hP hD hS => ?_)
                    obtain ⟨w, r624, K625, g626⟩ := u619
                    obtain ⟨hw620, h627, h628, hO⟩ := hw620
                    have h627 : NwR K2 K625 g2 g626 r624 0 0 1 := h627
                    have h628 : K625.2.1 0 r624 = 36 := h628
                    obtain rfl : v621 = some (.ref r624) := hw620
                    have hf629 : K625.1 q2 = 3 := (((h627).2.1.1 q2 (by rw [hq2]; decide)).1).trans hq2
                    have hf630 : K625.1 d0 = 4 := (((h627).2.1.1 d0 (by rw [hd2]; decide)).1).trans hd2
                    have hf631 : K625.1 f2 = 5 := (((h627).2.1.1 f2 (by rw [ht2]; decide)).1).trans ht2
                    have hf632 : K625.2.2.1 6 q2 = some f2 := (((h627).2.1.1 q2 (by rw [hq2]; decide)).2.2.1 6).trans hc62
                    have hO : OKP G h0 a (upd (upd F 2 (nI sz)) 9 (nI (at610 + 1))) (updR R 1 (.ref pq)) Z (updA B 10 f611) J K625 w := hO.to rfl
                    refine W.widen (k := ((3 + 2 * np) + 1)) (n := ((120 + 11 * np + 4 * cp2) + 11)) (by show (3 + 2 * np) + 1 ≤ ((3 + 2 * np) + 1); omega) (by show (120 + 11 * np + 4 * cp2) + 11 ≤ ((120 + 11 * np + 4 * cp2) + 11); omega) ?_
                    refine W.eq (g2 := F0 m 181 ls [.ref r624, .ref f2]) rfl ?_
                    have hwp633 := WPr.nd hwp2 h627
                    have hps634 := PgS.nd hps2 hwp2 h627
                    have hf635 : K625.1 r624 = 1 := h627.2.2.1.2.1
                    have hlc636 : LsC G K625 f2 1 np it2 cp2 := (LsC.wx (fun p hp => (h627.2.1.1 p hp).1) (by decide) (h627.2.1.1 f2 (by rw [ht2]; decide)) (fun e he _ => h627.2.1.1 e (by rw [he]; decide)) hlc2)
                    have hO : OKP G h0 a (upd (upd (upd F 2 (nI sz)) 9 (nI at9)) 9 (nI (at610 + 1))) (updR R 1 (.ref pq)) Z (updA B 10 f611) J K625 w := hO.to rfl
                    obtain ⟨qr640, hqr641⟩ := p_recv hO (by rw [hf631]; decide) (rep_5 hf631)
                    refine pn_V0 (G := G) (As := [.ref r624]) (rest := []) hx hb hml hown hq hE hX pX0_al hP hD hS hA hl.1 (L_addC l G h0 a (upd (upd (upd F 2 (nI sz)) 9 (nI at9)) 9 (nI (at610 + 1))) (updR R 1 (.ref pq)) Z (updA B 10 f611) J K625 w f2 1 np it2 cp2 r624 hlc636 (by decide) hf635 (by omega) (by omega) hO hl0) (gV pw_885 pw_886 pw_887 pw_32 pw_868) hV_Jx4a65c_add_9ea2d qr640 10 hqr641 rfl rfl rfl (Nat.le_of_ble_eq_true rfl) dX8_head_181 ⟨(by show ((3 + 2 * np) + 1) + 1 ≤ (2 * (sz - at9) + 10); omega), (by show ((120 + 11 * np + 4 * cp2) + 11) + (10 + np + np / 2) ≤ (60 * (sz - at9) + 400); omega)⟩ ⟨Nat.le_of_ble_eq_true rfl, Nat.le_of_ble_eq_true rfl⟩ (fun v639 u637 H locs hw638 hP hD hS => ?_) (fun ux ce9 q9 H9 locs9 hux hP9 hD9 hS9 hce hcv hcl => pb_out ux (ThQ.up (Thx.b (Thx.f Thx.rfl (by omega)) (by omega) (by decide)) hux) hnt hlocks hce hcv hcl hP9 hD9 hS9 (by show ((3 + 2 * np) + 1) + 1 ≤ (2 * (sz - at9) + 10); omega) (by show ((120 + 11 * np + 4 * cp2) + 11) + (10 + np + np / 2) ≤ (60 * (sz - at9) + 400); omega))
                    obtain ⟨w, K642, d643⟩ := u637
                    obtain ⟨hw638, h644, h645, h646, h647, h648, hO⟩ := hw638
                    have h644 : LsC G K642 f2 1 (np + 1) (upQ it2 np r624) (cp2 + d643) := h644
                    have h645 : AdQ K625 K642 f2 := h645
                    have h646 : N6 K625 K642 := h646
                    have h647 : cp2 + d643 ≤ 10 + 2 * (np + 1) := h647
                    have h648 : d643 ≤ 10 + np / 2 := h648
                    obtain rfl : v639 = some (.int 1) := hw638
                    have hO : OKP G h0 a (upd (upd F 2 (nI sz)) 9 (nI (at610 + 1))) (updR R 1 (.ref pq)) Z (updA B 10 f611) J K642 w := hO.to rfl
                    refine W.widen (k := (((3 + 2 * np) + 1) + 1)) (n := (((120 + 11 * np + 4 * cp2) + 11) + (4 * d643))) (by show ((3 + 2 * np) + 1) + 1 ≤ (((3 + 2 * np) + 1) + 1); omega) (by show ((120 + 11 * np + 4 * cp2) + 11) + (4 * d643) ≤ (((120 + 11 * np + 4 * cp2) + 11) + (4 * d643)); omega) ?_
                    refine W.eq (g2 := F0 m 184 ls [.int 1]) rfl ?_
                    have hg649 : g626 3 f2 = 3 := (h627.2.1.2 f2 (by rw [ht2]; decide) 3).trans hr2
                    have hwp650 : WPr G K642 g626 := WPr.add hwp633 h645 h646 hf631 (by rw [hg649]; exact h644) (by rw [hg649]; show _ ≤ 5000 ∧ _; omega)
                    have hps651 : PgS G K642 g626 (a 1) pq dr ml nd nm cp it s2 := by have z9 := PgS.add hps634 hwp633.2.2.1 h645 h646 hf631 (fun z => by have z2 := hg649; rw [z, hps634.1.2.2.2.2.2.2.1] at z2; exact absurd z2 (by decide)) (by rw [szL_of h644, szL_of hlc636]) (by rw [hg649]; decide) (by rw [hg649]; decide); rw [hg649] at z9; exact z9
                    have hf652 : K642.1 q2 = 3 := (h645.1 q2 (by rw [hf629]; decide)).1.trans hf629
                    have hf653 : K642.1 d0 = 4 := (h645.1 d0 (by rw [hf630]; decide)).1.trans hf630
                    have hf654 : K642.1 f2 = 5 := (h645.1 f2 (by rw [hf631]; decide)).1.trans hf631
                    have hf655 : K642.1 r624 = 1 := (h645.1 r624 (by rw [hf635]; decide)).1.trans hf635
                    refine lv_pop hx hb dX8_head_184 rfl ?_
                    refine lv_aload_n hx hb dX8_head_185 rfl (lv_at hl 8 rfl) ?_
                    refine lv_bipush (v := 39) hx hb dX8_head_186 (by decide) ?_
                    have hO : OKW G h0 a (upd (upd (upd (upd F 2 (nI sz)) 9 (nI (at610 + 1))) 2 (nI sz)) 9 (nI (at610 + 1))) (updR R 1 (.ref pq)) Z (updA B 10 f611) J K642.1 (fun q99 x99 => x99 = rep G a K642 q99) w := hO.to rfl
                    obtain ⟨_, qr659, hqr660⟩ := hO.2.1 23 _ (sg_23 G h0 a _ _ _ _ _)
                    refine pc_V0 (G := G) (As := [.int 39]) (rest := []) hx hb hml hown hq hE hX pX0_al hP hD hS hA hl.1 (P_takeIf l G h0 a (upd (upd F 2 (nI sz)) 9 (nI (at610 + 1))) (updR R 1 (.ref pq)) Z (updA B 10 f611) J K642.1 (fun q99 x99 => x99 = rep G a K642 q99) w 39 (at610 + 1) sz (by omega) (by omega) (by decide) hO) (gV pw_797 pw_798 pw_799 pw_796 pw_789) hV_X8_takeIf qr659 5 hqr660 rfl rfl rfl (Nat.le_of_ble_eq_true rfl) dX8_head_188 ⟨(by show (((3 + 2 * np) + 1) + 1) + 0 ≤ (2 * (sz - at9) + 10); omega), (by show (((120 + 11 * np + 4 * cp2) + 11) + (4 * d643)) + 0 ≤ (60 * (sz - at9) + 400); omega)⟩ ⟨Nat.le_of_ble_eq_true rfl, Nat.le_of_ble_eq_true rfl⟩ (fun v658 u656 H locs hw657 hP hD hS => ?_)
                    obtain ⟨w, r661⟩ := u656
                    obtain ⟨hw657, h662, h663, hO⟩ := hw657
                    have h662 : r661 ≤ 1 := h662
                    have h663 : (at610 + 1) + r661 ≤ sz := h663
                    obtain rfl : v658 = some (.int (nI r661)) := hw657
                    have hO : OKP G h0 a (upd (upd F 2 (nI sz)) 9 (nI ((at610 + 1) + r661))) (updR R 1 (.ref pq)) Z (updA B 10 f611) J K642 w := hO.to rfl
                    refine W.widen (k := (((3 + 2 * np) + 1) + 1)) (n := (((120 + 11 * np + 4 * cp2) + 11) + (4 * d643))) (by show (((3 + 2 * np) + 1) + 1) + 0 ≤ (((3 + 2 * np) + 1) + 1); omega) (by show (((120 + 11 * np + 4 * cp2) + 11) + (4 * d643)) + 0 ≤ (((120 + 11 * np + 4 * cp2) + 11) + (4 * d643)); omega) ?_
                    refine W.eq (g2 := F0 m 191 ls [.int (nI r661)]) rfl ?_
                    refine lv_istore (lv' := [(5, .int (nI r661)), (8, .int (nI at2)), (7, .int 0), (6, .int (nI i2)), (4, .ref q2), (3, .int (nI tk)), (2, .int x1), (1, .ref d0), (0, .ref (a 3))]) hx hb dX8_head_191 hl (by decide) rfl (fun ls hl => ?_)
                    refine lv_iinc (v := (nI (i2 + 1))) (lv' := [(6, .int (nI (i2 + 1))), (5, .int (nI r661)), (8, .int (nI at2)), (7, .int 0), (4, .ref q2), (3, .int (nI tk)), (2, .int x1), (1, .ref d0), (0, .ref (a 3))]) hx hb dX8_head_193 hl (k := 3) rfl (nI_1 i2) (by decide) rfl (fun ls hl => ?_)
                    refine lv_goto (tgt := 77) hx hb dX8_head_196 (by decide) ?_
                    refine W.widen (k := (3 + 2 * (np + 1))) (n := (120 + 11 * (np + 1) + 4 * (cp2 + d643))) (by show (((3 + 2 * np) + 1) + 1) ≤ _; omega) (by show (((120 + 11 * np + 4 * cp2) + 11) + (4 * d643)) ≤ _; omega) ?_
                    have hO : OKP G h0 a (upd (upd F 2 (nI sz)) 9 (nI ((at610 + 1) + r661))) (updR R 1 (.ref pq)) Z (updA B 10 f611) J K642 w := hO.to rfl
                    exact ih_i (i2 + 1) ((at610 + 1) + r661) f611 (nI r661) K642 g626 q2 f2 (np + 1) (cp2 + d643) (upQ it2 np r624) s2 _ _ _ _ (by omega) (by omega) (by omega) hwp650 hps651 (by omega) hf652 hf653 (((AdQ.sm h645 (by rw [hf629]; decide) (fun z => by have z2 := hf629; rw [z, hf631] at z2; exact absurd z2 (by decide)) (by rw [hf629]; decide)).2.2.1 6).trans ((h627.2.1.1 q2 (by rw [hq2]; decide)).2.2.1 6 |>.trans hc62)) hg649 h644 (by omega) hP hD hS hO (lv_sub hl [0, 1, 4, 5, 6, 7, 8] rfl)
                  · have n664 : ¬ (r600 = 0) := fun h9 => c602 ((nI_eq (a := r600) (b := 0) (by omega) (by omega)).mpr h9)
                    refine lv_iconst (v := 1) hx hb dX8_head_120 (by decide) ?_
                    refine lv_goto (tgt := 125) hx hb dX8_head_121 (by decide) ?_
                    refine lv_istore (lv' := [(7, .int 1), (6, .int (nI i2)), (5, .int mo2), (4, .ref q2), (3, .int (nI tk)), (2, .int x1), (1, .ref d0), (0, .ref (a 3))]) hx hb dX8_head_125 hl (by decide) rfl (fun ls hl => ?_)
                    refine lv_iload hx hb dX8_head_127 (lv_at hl 0 rfl) ?_
                    refine lv_if_eq (tgt := 157) hx hb dX8_head_129 (by decide) (fun c665 => absurd c665 (by decide)) (fun c665 => ?_)
                    refine lv_aload hx hb dX8_head_132 (lv_at hl 3 rfl) ?_
                    refine p_get (v := .ref f2) (C := RX6) (Tc := TX6) (N := 12) (ci := 12) hx hb hq pin_wsX60 hown hE hP hO (by rw [hq2]; decide) (rep_3 hq2) rfl 4 (by decide) (hq _ pw_881) (fun _ h9 => h9) (congrArg (fun z => some (va_rf z)) hc62) dX8_head_134 ?_
                    have hO : OKP G h0 a (upd (upd F 2 (nI sz)) 9 (nI at2)) (updR R 1 (.ref pq)) Z (updA B 10 f9) J K2 w := hO.to rfl
                    obtain ⟨qr669, hqr670⟩ := p_recv hO (by rw [ht2]; decide) (rep_5 ht2)
                    refine pc_V0 (G := G) (As := []) (rest := []) hx hb hml hown hq hE hX pX0_al hP hD hS hA hl.1 (L_size l G h0 a (upd (upd F 2 (nI sz)) 9 (nI at2)) (updR R 1 (.ref pq)) Z (updA B 10 f9) J K2 w f2 1 np it2 hlc2.ls hO) (gV pw_882 pw_87 pw_88 pw_32 pw_16) hV_Jx4a65c_size_8abf5 qr669 10 hqr670 rfl rfl rfl (Nat.le_of_ble_eq_true rfl) dX8_head_137 ⟨(by show (3 + 2 * np) + 0 ≤ (2 * (sz - at9) + 10); omega), (by show (120 + 11 * np + 4 * cp2) + 0 ≤ (60 * (sz - at9) + 400); omega)⟩ ⟨Nat.le_of_ble_eq_true rfl, Nat.le_of_ble_eq_true rfl⟩ (fun v668 u666 H locs hw667 hP hD hS => ?_)
                    obtain ⟨w, _⟩ := u666
                    obtain ⟨hw667, hO⟩ := hw667
                    obtain rfl : v668 = some (.int (nI np)) := hw667
                    have hO : OKP G h0 a (upd (upd F 2 (nI sz)) 9 (nI at2)) (updR R 1 (.ref pq)) Z (updA B 10 f9) J K2 w := hO.to rfl
                    refine W.widen (k := (3 + 2 * np)) (n := (120 + 11 * np + 4 * cp2)) (by show (3 + 2 * np) + 0 ≤ (3 + 2 * np); omega) (by show (120 + 11 * np + 4 * cp2) + 0 ≤ (120 + 11 * np + 4 * cp2); omega) ?_
                    refine W.eq (g2 := F0 m 140 ls [.int (nI np)]) rfl ?_
                    refine lv_bipush (v := 8) hx hb dX8_head_140 (by decide) ?_
                    refine lv_icmp_lt (tgt := 157) hx hb dX8_head_142 (by decide) (fun c671 => ?_) (fun c671 => ?_)
                    · have n672 : np < 8 := (nI_ltI (a := np) (b := 8) (by omega) (by omega)).mp c671
                      refine lv_aload_n hx hb dX8_head_157 rfl (lv_at hl 7 rfl) ?_
                      refine lv_iconst (v := 1) hx hb dX8_head_158 (by decide) ?_
                      have hO : OKW G h0 a (upd (upd (upd (upd (upd F 2 (nI sz)) 9 (nI at9)) 9 (nI at2)) 2 (nI sz)) 9 (nI at2)) (updR R 1 (.ref pq)) Z (updA B 10 f9) J K2.1 (fun q99 x99 => x99 = rep G a K2 q99) w := hO.to rfl
                      obtain ⟨_, qr676, hqr677⟩ := hO.2.1 23 _ (sg_23 G h0 a _ _ _ _ _)
                      refine pn_V0 (G := G) (As := [.int 1]) (rest := []) hx hb hml hown hq hE hX pX0_al hP hD hS hA hl.1 (P_takeType l G h0 a (upd (upd (upd F 2 (nI sz)) 9 (nI at9)) 9 (nI at2)) (updR R 1 (.ref pq)) Z (updA B 10 f9) J K2.1 (fun q99 x99 => x99 = rep G a K2 q99) w 1 at2 sz (by omega) (by omega) hO hl0) (gV pw_825 pw_826 pw_827 pw_796 pw_821) hV_X8_takeType qr676 5 hqr677 rfl rfl rfl (Nat.le_of_ble_eq_true rfl) dX8_head_159 ⟨(by show (3 + 2 * np) + 1 ≤ (2 * (sz - at9) + 10); omega), (by show (120 + 11 * np + 4 * cp2) + 6 ≤ (60 * (sz - at9) + 400); omega)⟩ ⟨Nat.le_of_ble_eq_true rfl, Nat.le_of_ble_eq_true rfl⟩ (fun v675 u673 H locs hw674 hP hD hS => ?_) (fun ux ce9 q9 H9 locs9 hux hP9 hD9 hS9 hce hcv hcl => pb_out ux (ThQ.up (Thx.same (Thx.same (Thx.b (Thx.f Thx.rfl (by omega)) (by omega) (by decide)) rfl) rfl) hux) hnt hlocks hce hcv hcl hP9 hD9 hS9 (by show (3 + 2 * np) + 1 ≤ (2 * (sz - at9) + 10); omega) (by show (120 + 11 * np + 4 * cp2) + 6 ≤ (60 * (sz - at9) + 400); omega))
                      obtain ⟨w, at678, f679⟩ := u673
                      obtain ⟨hw674, h680, hO⟩ := hw674
                      have h680 : at2 + 1 ≤ at678 ∧ at678 ≤ sz := h680
                      obtain rfl : v675 = some (.int (nI at2)) := hw674
                      have hO : OKP G h0 a (upd (upd F 2 (nI sz)) 9 (nI at678)) (updR R 1 (.ref pq)) Z (updA B 10 f679) J K2 w := hO.to rfl
                      refine W.widen (k := (3 + 2 * np)) (n := (120 + 11 * np + 4 * cp2)) (by show (3 + 2 * np) + 0 ≤ (3 + 2 * np); omega) (by show (120 + 11 * np + 4 * cp2) + 0 ≤ (120 + 11 * np + 4 * cp2); omega) ?_
                      refine W.eq (g2 := F0 m 162 ls [.int (nI at2)]) rfl ?_
                      refine lv_istore (lv' := [(8, .int (nI at2)), (7, .int 1), (6, .int (nI i2)), (5, .int mo2), (4, .ref q2), (3, .int (nI tk)), (2, .int x1), (1, .ref d0), (0, .ref (a 3))]) hx hb dX8_head_162 hl (by decide) rfl (fun ls hl => ?_)
                      refine lv_aload hx hb dX8_head_164 (lv_at hl 4 rfl) ?_
                      refine p_get (v := .ref f2) (C := RX6) (Tc := TX6) (N := 12) (ci := 12) hx hb hq pin_wsX60 hown hE hP hO (by rw [hq2]; decide) (rep_3 hq2) rfl 4 (by decide) (hq _ pw_881) (fun _ h9 => h9) (congrArg (fun z => some (va_rf z)) hc62) dX8_head_166 ?_
                      refine lv_aload_n hx hb dX8_head_169 rfl (lv_at hl 8 rfl) ?_
                      refine lv_iload hx hb dX8_head_170 (lv_at hl 0 rfl) ?_
                      refine lv_aload_n hx hb dX8_head_172 rfl (lv_at hl 8 rfl) ?_
                      refine lv_bipush (v := 65) hx hb dX8_head_173 (by decide) ?_
                      have hO : OKW G h0 a (upd (upd (upd (upd (upd F 2 (nI sz)) 9 (nI at9)) 9 (nI at678)) 2 (nI sz)) 9 (nI at678)) (updR R 1 (.ref pq)) Z (updA B 10 f679) J K2.1 (fun q99 x99 => x99 = rep G a K2 q99) w := hO.to rfl
                      obtain ⟨_, qr684, hqr685⟩ := hO.2.1 23 _ (sg_23 G h0 a _ _ _ _ _)
                      refine pn_V0 (G := G) (As := [.int 65]) (rest := [.int (nI at2), .ref (a 3), .ref f2]) hx hb hml hown hq hE hX pX0_al hP hD hS hA hl.1 (P_take l G h0 a (upd (upd (upd F 2 (nI sz)) 9 (nI at9)) 9 (nI at678)) (updR R 1 (.ref pq)) Z (updA B 10 f679) J K2.1 (fun q99 x99 => x99 = rep G a K2 q99) w 65 at678 sz (by omega) (by omega) (by decide) hO hl0) (gV pw_793 pw_794 pw_795 pw_796 pw_781) hV_X8_take qr684 5 hqr685 rfl rfl rfl (Nat.le_of_ble_eq_true rfl) dX8_head_175 ⟨(by show (3 + 2 * np) + 1 ≤ (2 * (sz - at9) + 10); omega), (by show (120 + 11 * np + 4 * cp2) + 6 ≤ (60 * (sz - at9) + 400); omega)⟩ ⟨Nat.le_of_ble_eq_true rfl, Nat.le_of_ble_eq_true rfl⟩ (fun v683 u681 H locs hw682 hP hD hS => ?_) (fun ux ce9 q9 H9 locs9 hux hP9 hD9 hS9 hce hcv hcl => pb_out ux (ThQ.up (Thx.same (Thx.same (Thx.b (Thx.f Thx.rfl (by omega)) (by omega) (by decide)) rfl) rfl) hux) hnt hlocks hce hcv hcl hP9 hD9 hS9 (by show (3 + 2 * np) + 1 ≤ (2 * (sz - at9) + 10); omega) (by show (120 + 11 * np + 4 * cp2) + 6 ≤ (60 * (sz - at9) + 400); omega))
                      obtain ⟨w, _⟩ := u681
                      obtain ⟨hw682, h686, hO⟩ := hw682
                      have h686 : at678 + 1 ≤ sz := h686
                      obtain rfl : v683 = some (.int (nI at678)) := hw682
                      have hO : OKP G h0 a (upd (upd F 2 (nI sz)) 9 (nI (at678 + 1))) (updR R 1 (.ref pq)) Z (updA B 10 f679) J K2 w := hO.to rfl
                      refine W.widen (k := (3 + 2 * np)) (n := (120 + 11 * np + 4 * cp2)) (by show (3 + 2 * np) + 0 ≤ (3 + 2 * np); omega) (by show (120 + 11 * np + 4 * cp2) + 0 ≤ (120 + 11 * np + 4 * cp2); omega) ?_
                      refine W.eq (g2 := F0 m 178 ls [.int (nI at678), .int (nI at2), .ref (a 3), .ref f2]) rfl ?_
                      have hO : OKP G h0 a (upd (upd (upd F 2 (nI sz)) 9 (nI (at678 + 1))) 2 (nI sz)) (updR R 1 (.ref pq)) Z (updA B 10 f679) J K2 w := hO.to rfl
                      obtain ⟨_, qr690, hqr691⟩ := hO.2.1 23 _ (sg_23 G h0 a _ _ _ _ _)
                      refine pc_V0 (G := G) (As := [.int (nI at2), .int (nI at678)]) (rest := [.ref f2]) hx hb hml hown hq hE hX pX0_al hP hD hS hA hl.1 (P_variable l G h0 a (upd (upd F 2 (nI sz)) 9 (nI (at678 + 1))) (updR R 1 (.ref pq)) Z (updA B 10 f679) J K2 w (nI at2) (nI at678) sz 0 0 g2 (by omega) hwp2.1 (fun o9 h9 => absurd h9 (by omega)) (by omega) hO) (gV pw_888 pw_889 pw_890 pw_796 pw_869) hV_X8_variable qr690 5 hqr691 rfl rfl rfl (Nat.le_of_ble_eq_true rfl) dX8_head_178 ⟨(by show (3 + 2 * np) + 1 ≤ (2 * (sz - at9) + 10); omega), (by show (120 + 11 * np + 4 * cp2) + 11 ≤ (60 * (sz - at9) + 400); omega)⟩ ⟨Nat.le_of_ble_eq_true rfl, Nat.le_of_ble_eq_true rfl⟩ (fun v689 u687 H locs hw688 hP hD hS => ?_)
                      obtain ⟨w, r692, K693, g694⟩ := u687
                      obtain ⟨hw688, h695, h696, hO⟩ := hw688
                      have h695 : NwR K2 K693 g2 g694 r692 0 0 1 := h695
                      have h696 : K693.2.1 0 r692 = 36 := h696
                      obtain rfl : v689 = some (.ref r692) := hw688
                      have hf697 : K693.1 q2 = 3 := (((h695).2.1.1 q2 (by rw [hq2]; decide)).1).trans hq2
                      have hf698 : K693.1 d0 = 4 := (((h695).2.1.1 d0 (by rw [hd2]; decide)).1).trans hd2
                      have hf699 : K693.1 f2 = 5 := (((h695).2.1.1 f2 (by rw [ht2]; decide)).1).trans ht2
                      have hf700 : K693.2.2.1 6 q2 = some f2 := (((h695).2.1.1 q2 (by rw [hq2]; decide)).2.2.1 6).trans hc62
                      have hO : OKP G h0 a (upd (upd F 2 (nI sz)) 9 (nI (at678 + 1))) (updR R 1 (.ref pq)) Z (updA B 10 f679) J K693 w := hO.to rfl
                      refine W.widen (k := ((3 + 2 * np) + 1)) (n := ((120 + 11 * np + 4 * cp2) + 11)) (by show (3 + 2 * np) + 1 ≤ ((3 + 2 * np) + 1); omega) (by show (120 + 11 * np + 4 * cp2) + 11 ≤ ((120 + 11 * np + 4 * cp2) + 11); omega) ?_
                      refine W.eq (g2 := F0 m 181 ls [.ref r692, .ref f2]) rfl ?_
                      have hwp701 := WPr.nd hwp2 h695
                      have hps702 := PgS.nd hps2 hwp2 h695
                      have hf703 : K693.1 r692 = 1 := h695.2.2.1.2.1
                      have hlc704 : LsC G K693 f2 1 np it2 cp2 := (LsC.wx (fun p hp => (h695.2.1.1 p hp).1) (by decide) (h695.2.1.1 f2 (by rw [ht2]; decide)) (fun e he _ => h695.2.1.1 e (by rw [he]; decide)) hlc2)
                      have hO : OKP G h0 a (upd (upd (upd F 2 (nI sz)) 9 (nI at9)) 9 (nI (at678 + 1))) (updR R 1 (.ref pq)) Z (updA B 10 f679) J K693 w := hO.to rfl
                      obtain ⟨qr708, hqr709⟩ := p_recv hO (by rw [hf699]; decide) (rep_5 hf699)
                      refine pn_V0 (G := G) (As := [.ref r692]) (rest := []) hx hb hml hown hq hE hX pX0_al hP hD hS hA hl.1 (L_addC l G h0 a (upd (upd (upd F 2 (nI sz)) 9 (nI at9)) 9 (nI (at678 + 1))) (updR R 1 (.ref pq)) Z (updA B 10 f679) J K693 w f2 1 np it2 cp2 r692 hlc704 (by decide) hf703 (by omega) (by omega) hO hl0) (gV pw_885 pw_886 pw_887 pw_32 pw_868) hV_Jx4a65c_add_9ea2d qr708 10 hqr709 rfl rfl rfl (Nat.le_of_ble_eq_true rfl) dX8_head_181 ⟨(by show ((3 + 2 * np) + 1) + 1 ≤ (2 * (sz - at9) + 10); omega), (by show ((120 + 11 * np + 4 * cp2) + 11) + (10 + np + np / 2) ≤ (60 * (sz - at9) + 400); omega)⟩ ⟨Nat.le_of_ble_eq_true rfl, Nat.le_of_ble_eq_true rfl⟩ (fun v707 u705 H locs hw706 hP hD hS => ?_) (fun ux ce9 q9 H9 locs9 hux hP9 hD9 hS9 hce hcv hcl => pb_out ux (ThQ.up (Thx.b (Thx.f Thx.rfl (by omega)) (by omega) (by decide)) hux) hnt hlocks hce hcv hcl hP9 hD9 hS9 (by show ((3 + 2 * np) + 1) + 1 ≤ (2 * (sz - at9) + 10); omega) (by show ((120 + 11 * np + 4 * cp2) + 11) + (10 + np + np / 2) ≤ (60 * (sz - at9) + 400); omega))
                      obtain ⟨w, K710, d711⟩ := u705
                      obtain ⟨hw706, h712, h713, h714, h715, h716, hO⟩ := hw706
                      have h712 : LsC G K710 f2 1 (np + 1) (upQ it2 np r692) (cp2 + d711) := h712
                      have h713 : AdQ K693 K710 f2 := h713
                      have h714 : N6 K693 K710 := h714
                      have h715 : cp2 + d711 ≤ 10 + 2 * (np + 1) := h715
                      have h716 : d711 ≤ 10 + np / 2 := h716
                      obtain rfl : v707 = some (.int 1) := hw706
                      have hO : OKP G h0 a (upd (upd F 2 (nI sz)) 9 (nI (at678 + 1))) (updR R 1 (.ref pq)) Z (updA B 10 f679) J K710 w := hO.to rfl
                      refine W.widen (k := (((3 + 2 * np) + 1) + 1)) (n := (((120 + 11 * np + 4 * cp2) + 11) + (4 * d711))) (by show ((3 + 2 * np) + 1) + 1 ≤ (((3 + 2 * np) + 1) + 1); omega) (by show ((120 + 11 * np + 4 * cp2) + 11) + (4 * d711) ≤ (((120 + 11 * np + 4 * cp2) + 11) + (4 * d711)); omega) ?_
                      refine W.eq (g2 := F0 m 184 ls [.int 1]) rfl ?_
                      have hg717 : g694 3 f2 = 3 := (h695.2.1.2 f2 (by rw [ht2]; decide) 3).trans hr2
                      have hwp718 : WPr G K710 g694 := WPr.add hwp701 h713 h714 hf699 (by rw [hg717]; exact h712) (by rw [hg717]; show _ ≤ 5000 ∧ _; omega)
                      have hps719 : PgS G K710 g694 (a 1) pq dr ml nd nm cp it s2 := by have z9 := PgS.add hps702 hwp701.2.2.1 h713 h714 hf699 (fun z => by have z2 := hg717; rw [z, hps702.1.2.2.2.2.2.2.1] at z2; exact absurd z2 (by decide)) (by rw [szL_of h712, szL_of hlc704]) (by rw [hg717]; decide) (by rw [hg717]; decide); rw [hg717] at z9; exact z9
                      have hf720 : K710.1 q2 = 3 := (h713.1 q2 (by rw [hf697]; decide)).1.trans hf697
                      have hf721 : K710.1 d0 = 4 := (h713.1 d0 (by rw [hf698]; decide)).1.trans hf698
                      have hf722 : K710.1 f2 = 5 := (h713.1 f2 (by rw [hf699]; decide)).1.trans hf699
                      have hf723 : K710.1 r692 = 1 := (h713.1 r692 (by rw [hf703]; decide)).1.trans hf703
                      refine lv_pop hx hb dX8_head_184 rfl ?_
                      refine lv_aload_n hx hb dX8_head_185 rfl (lv_at hl 8 rfl) ?_
                      refine lv_bipush (v := 39) hx hb dX8_head_186 (by decide) ?_
                      have hO : OKW G h0 a (upd (upd (upd (upd F 2 (nI sz)) 9 (nI (at678 + 1))) 2 (nI sz)) 9 (nI (at678 + 1))) (updR R 1 (.ref pq)) Z (updA B 10 f679) J K710.1 (fun q99 x99 => x99 = rep G a K710 q99) w := hO.to rfl
                      obtain ⟨_, qr727, hqr728⟩ := hO.2.1 23 _ (sg_23 G h0 a _ _ _ _ _)
                      refine pc_V0 (G := G) (As := [.int 39]) (rest := []) hx hb hml hown hq hE hX pX0_al hP hD hS hA hl.1 (P_takeIf l G h0 a (upd (upd F 2 (nI sz)) 9 (nI (at678 + 1))) (updR R 1 (.ref pq)) Z (updA B 10 f679) J K710.1 (fun q99 x99 => x99 = rep G a K710 q99) w 39 (at678 + 1) sz (by omega) (by omega) (by decide) hO) (gV pw_797 pw_798 pw_799 pw_796 pw_789) hV_X8_takeIf qr727 5 hqr728 rfl rfl rfl (Nat.le_of_ble_eq_true rfl) dX8_head_188 ⟨(by show (((3 + 2 * np) + 1) + 1) + 0 ≤ (2 * (sz - at9) + 10); omega), (by show (((120 + 11 * np + 4 * cp2) + 11) + (4 * d711)) + 0 ≤ (60 * (sz - at9) + 400); omega)⟩ ⟨Nat.le_of_ble_eq_true rfl, Nat.le_of_ble_eq_true rfl⟩ (fun v726 u724 H locs hw725 hP hD hS => ?_)
                      obtain ⟨w, r729⟩ := u724
                      obtain ⟨hw725, h730, h731, hO⟩ := hw725
                      have h730 : r729 ≤ 1 := h730
                      have h731 : (at678 + 1) + r729 ≤ sz := h731
                      obtain rfl : v726 = some (.int (nI r729)) := hw725
                      have hO : OKP G h0 a (upd (upd F 2 (nI sz)) 9 (nI ((at678 + 1) + r729))) (updR R 1 (.ref pq)) Z (updA B 10 f679) J K710 w := hO.to rfl
                      refine W.widen (k := (((3 + 2 * np) + 1) + 1)) (n := (((120 + 11 * np + 4 * cp2) + 11) + (4 * d711))) (by show (((3 + 2 * np) + 1) + 1) + 0 ≤ (((3 + 2 * np) + 1) + 1); omega) (by show (((120 + 11 * np + 4 * cp2) + 11) + (4 * d711)) + 0 ≤ (((120 + 11 * np + 4 * cp2) + 11) + (4 * d711)); omega) ?_
                      refine W.eq (g2 := F0 m 191 ls [.int (nI r729)]) rfl ?_
                      refine lv_istore (lv' := [(5, .int (nI r729)), (8, .int (nI at2)), (7, .int 1), (6, .int (nI i2)), (4, .ref q2), (3, .int (nI tk)), (2, .int x1), (1, .ref d0), (0, .ref (a 3))]) hx hb dX8_head_191 hl (by decide) rfl (fun ls hl => ?_)
                      refine lv_iinc (v := (nI (i2 + 1))) (lv' := [(6, .int (nI (i2 + 1))), (5, .int (nI r729)), (8, .int (nI at2)), (7, .int 1), (4, .ref q2), (3, .int (nI tk)), (2, .int x1), (1, .ref d0), (0, .ref (a 3))]) hx hb dX8_head_193 hl (k := 3) rfl (nI_1 i2) (by decide) rfl (fun ls hl => ?_)
                      refine lv_goto (tgt := 77) hx hb dX8_head_196 (by decide) ?_
                      refine W.widen (k := (3 + 2 * (np + 1))) (n := (120 + 11 * (np + 1) + 4 * (cp2 + d711))) (by show (((3 + 2 * np) + 1) + 1) ≤ _; omega) (by show (((120 + 11 * np + 4 * cp2) + 11) + (4 * d711)) ≤ _; omega) ?_
                      have hO : OKP G h0 a (upd (upd F 2 (nI sz)) 9 (nI ((at678 + 1) + r729))) (updR R 1 (.ref pq)) Z (updA B 10 f679) J K710 w := hO.to rfl
                      exact ih_i (i2 + 1) ((at678 + 1) + r729) f679 (nI r729) K710 g694 q2 f2 (np + 1) (cp2 + d711) (upQ it2 np r692) s2 _ _ _ _ (by omega) (by omega) (by omega) hwp718 hps719 (by omega) hf720 hf721 (((AdQ.sm h713 (by rw [hf697]; decide) (fun z => by have z2 := hf697; rw [z, hf699] at z2; exact absurd z2 (by decide)) (by rw [hf697]; decide)).2.2.1 6).trans ((h695.2.1.1 q2 (by rw [hq2]; decide)).2.2.1 6 |>.trans hc62)) hg717 h712 (by omega) hP hD hS hO (lv_sub hl [0, 1, 4, 5, 6, 7, 8] rfl)
                    · have n732 : ¬ (np < 8) := fun h9 => c671 ((nI_ltI (a := np) (b := 8) (by omega) (by omega)).mpr h9)
                      refine lv_aload_n hx hb dX8_head_145 rfl (lv_at hl 7 rfl) ?_
                      refine c_get (v := .ref (a 1)) (C := RX8) (Tc := TX8) (N := 5) (ci := 5) hx hb hq pin_wsX80 hown hE hP hO 23 (sg_23 G h0 a _ _ _ _ _) rfl 0 (by decide) (hq _ pw_774) (fun _ h9 => h9) rfl dX8_head_146 ?_
                      refine lv_iconst (v := 2) hx hb dX8_head_149 (by decide) ?_
                      refine lv_aload_n hx hb dX8_head_150 rfl (lv_at hl 7 rfl) ?_
                      refine c_get (v := .int (nI at2)) (C := RX8) (Tc := TX8) (N := 5) (ci := 5) hx hb hq pin_wsX80 hown hE hP hO 23 (sg_23 G h0 a _ _ _ _ _) rfl 2 (by decide) (hq _ pw_776) (fun _ h9 => h9) rfl dX8_head_151 ?_
                      have hO : OKW G h0 a (upd (upd (upd (upd F 2 (nI sz)) 9 (nI at9)) 9 (nI at2)) 2 (nI sz)) (updR R 1 (.ref pq)) Z (updA B 10 f9) J K2.1 (fun q99 x99 => x99 = rep G a K2 q99) w := hO.to rfl
                      obtain ⟨_, qr736, hqr737⟩ := hO.2.1 2 _ (sg_2 G h0 a _ _ _ _ _)
                      refine pn_V0 (G := G) (As := [.int 2, .int (nI at2)]) (rest := []) hx hb hml hown hq hE hX pX0_al hP hD hS hA hl.1 (K_fail l G h0 a (upd (upd (upd F 2 (nI sz)) 9 (nI at9)) 9 (nI at2)) (updR R 1 (.ref pq)) Z (updA B 10 f9) J K2.1 (fun q99 x99 => x99 = rep G a K2 q99) w 2 (nI at2) sz (by omega) hO hl0) (gV pw_779 pw_65 pw_66 pw_59 pw_43) hV_X10_fail qr736 7 hqr737 rfl rfl rfl (Nat.le_of_ble_eq_true rfl) dX8_head_154 ⟨(by show (3 + 2 * np) + 1 ≤ (2 * (sz - at9) + 10); omega), (by show (120 + 11 * np + 4 * cp2) + 6 ≤ (60 * (sz - at9) + 400); omega)⟩ ⟨Nat.le_of_ble_eq_true rfl, Nat.le_of_ble_eq_true rfl⟩ (fun v735 u733 H locs hw734 hP hD hS => hw734.elim) (fun ux ce9 q9 H9 locs9 hux hP9 hD9 hS9 hce hcv hcl => pb_out ux (ThQ.up (Thx.same (Thx.b (Thx.f Thx.rfl (by omega)) (by omega) (by decide)) rfl) hux) hnt hlocks hce hcv hcl hP9 hD9 hS9 (by show (3 + 2 * np) + 1 ≤ (2 * (sz - at9) + 10); omega) (by show (120 + 11 * np + 4 * cp2) + 6 ≤ (60 * (sz - at9) + 400); omega))
      refine W.widen (k := (3 + 2 * 0)) (n := (120 + 11 * 0 + 4 * 0)) (by show 3 ≤ _; omega) (by show ((12 + 3) + (4 * d39)) ≤ _; omega) ?_
      have hO : OKP G h0 a (upd (upd F 2 (nI sz)) 9 (nI (at9 + 1))) (updR R 1 (.ref pq)) Z (updA B 10 (B 10)) J K38 w := hO.to rfl
      exact loop_i (sz + 1) 0 (at9 + 1) (B 10) (1 : Int32) K38 (gM g q8 f25) q8 f25 0 0 (fun _ => 0) (s9 + 5) _ _ _ _ (by omega) (by omega) (by omega) hwp46 hps47 (by omega) hf48 hf50 hc6 hm7 hl6 (by omega) hP hD hS hO (lv_sub hl [0, 1, 2, 6, 5, 4, 3] rfl)
  · have n738 : ¬ (nlm < 30) := fun h9 => c6 ((nI_ltI (a := nlm) (b := 30) (by omega) (by omega)).mpr h9)
    refine lv_aload_n hx hb dX8_head_12 rfl (lv_at hl 0 rfl) ?_
    refine c_get (v := .ref (a 1)) (C := RX8) (Tc := TX8) (N := 5) (ci := 5) hx hb hq pin_wsX80 hown hE hP hO 23 (sg_23 G h0 a _ _ _ _ _) rfl 0 (by decide) (hq _ pw_774) (fun _ h9 => h9) rfl dX8_head_13 ?_
    refine lv_iconst (v := 2) hx hb dX8_head_16 (by decide) ?_
    refine lv_iload_n hx hb dX8_head_17 rfl (lv_at hl 3 rfl) ?_
    have hO : OKW G h0 a (upd (upd (upd F 2 (nI sz)) 9 (nI at9)) 2 (nI sz)) (updR R 1 (.ref pq)) Z B J K.1 (fun q99 x99 => x99 = rep G a K q99) w := hO.to rfl
    obtain ⟨_, qr742, hqr743⟩ := hO.2.1 2 _ (sg_2 G h0 a _ _ _ _ _)
    refine pn_V0 (G := G) (As := [.int 2, .int (nI tk)]) (rest := []) hx hb hml hown hq hE hX pX0_al hP hD hS hA hl.1 (K_fail l G h0 a (upd (upd F 2 (nI sz)) 9 (nI at9)) (updR R 1 (.ref pq)) Z B J K.1 (fun q99 x99 => x99 = rep G a K q99) w 2 (nI tk) sz (by omega) hO hl0) (gV pw_779 pw_65 pw_66 pw_59 pw_43) hV_X10_fail qr742 7 hqr743 rfl rfl rfl (Nat.le_of_ble_eq_true rfl) dX8_head_18 ⟨(by show 0 + 1 ≤ (2 * (sz - at9) + 10); omega), (by show 0 + 6 ≤ (60 * (sz - at9) + 400); omega)⟩ ⟨Nat.le_of_ble_eq_true rfl, Nat.le_of_ble_eq_true rfl⟩ (fun v741 u739 H locs hw740 hP hD hS => hw740.elim) (fun ux ce9 q9 H9 locs9 hux hP9 hD9 hS9 hce hcv hcl => pb_out ux (ThQ.up (Thx.same Thx.rfl rfl) hux) hnt hlocks hce hcv hcl hP9 hD9 hS9 (by show 0 + 1 ≤ (2 * (sz - at9) + 10); omega) (by show 0 + 6 ≤ (60 * (sz - at9) + 400); omega))
