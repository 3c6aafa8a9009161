theorem dX8_head_0 : decode cX8_head 0 = .ok (.aload_n 1, 1) := by decide +kernel
theorem dX8_head_1 : decode cX8_head 1 = .ok (.getfield 154, 3) := by decide +kernel
theorem dX8_head_4 : decode cX8_head 4 = .ok (.invokevirtual 107, 3) := by decide +kernel
theorem dX8_head_7 : decode cX8_head 7 = .ok (.bipush 30, 2) := by decide +kernel
theorem dX8_head_9 : decode cX8_head 9 = .ok (.if_icmp .lt 12, 3) := by decide +kernel
theorem dX8_head_21 : decode cX8_head 21 = .ok (.new 112, 3) := by decide +kernel
theorem dX8_head_24 : decode cX8_head 24 = .ok (.dup, 1) := by decide +kernel
theorem dX8_head_25 : decode cX8_head 25 = .ok (.aload_n 1, 1) := by decide +kernel
theorem dX8_head_26 : decode cX8_head 26 = .ok (.aload_n 0, 1) := by decide +kernel
theorem dX8_head_27 : decode cX8_head 27 = .ok (.getfield 7, 3) := by decide +kernel
theorem dX8_head_30 : decode cX8_head 30 = .ok (.iload_n 3, 1) := by decide +kernel
theorem dX8_head_31 : decode cX8_head 31 = .ok (.invokevirtual 148, 3) := by decide +kernel
theorem dX8_head_34 : decode cX8_head 34 = .ok (.iload_n 3, 1) := by decide +kernel
theorem dX8_head_35 : decode cX8_head 35 = .ok (.iload_n 2, 1) := by decide +kernel
theorem dX8_head_36 : decode cX8_head 36 = .ok (.invokespecial 155, 3) := by decide +kernel
theorem dX8_head_39 : decode cX8_head 39 = .ok (.astore 4, 2) := by decide +kernel
theorem dX8_head_41 : decode cX8_head 41 = .ok (.aload_n 1, 1) := by decide +kernel
theorem dX8_head_42 : decode cX8_head 42 = .ok (.getfield 154, 3) := by decide +kernel
theorem dX8_head_45 : decode cX8_head 45 = .ok (.aload 4, 2) := by decide +kernel
theorem dX8_head_47 : decode cX8_head 47 = .ok (.invokevirtual 116, 3) := by decide +kernel
theorem dX8_head_50 : decode cX8_head 50 = .ok (.pop, 1) := by decide +kernel
theorem dX8_head_51 : decode cX8_head 51 = .ok (.aload_n 0, 1) := by decide +kernel
theorem dX8_head_52 : decode cX8_head 52 = .ok (.bipush 34, 2) := by decide +kernel
theorem dX8_head_54 : decode cX8_head 54 = .ok (.invokevirtual 53, 3) := by decide +kernel
theorem dX8_head_57 : decode cX8_head 57 = .ok (.pop, 1) := by decide +kernel
theorem dX8_head_58 : decode cX8_head 58 = .ok (.aload_n 0, 1) := by decide +kernel
theorem dX8_head_59 : decode cX8_head 59 = .ok (.bipush 35, 2) := by decide +kernel
theorem dX8_head_61 : decode cX8_head 61 = .ok (.invokevirtual 36, 3) := by decide +kernel
theorem dX8_head_64 : decode cX8_head 64 = .ok (.ifCond .ne 7, 3) := by decide +kernel
theorem dX8_head_71 : decode cX8_head 71 = .ok (.iconst 0, 1) := by decide +kernel
theorem dX8_head_72 : decode cX8_head 72 = .ok (.istore 5, 2) := by decide +kernel
theorem dX8_head_74 : decode cX8_head 74 = .ok (.iconst 0, 1) := by decide +kernel
theorem dX8_head_75 : decode cX8_head 75 = .ok (.istore 6, 2) := by decide +kernel
theorem dX8_head_77 : decode cX8_head 77 = .ok (.iload 6, 2) := by decide +kernel
theorem dX8_head_79 : decode cX8_head 79 = .ok (.aload_n 0, 1) := by decide +kernel
theorem dX8_head_80 : decode cX8_head 80 = .ok (.getfield 7, 3) := by decide +kernel
theorem dX8_head_83 : decode cX8_head 83 = .ok (.getfield 27, 3) := by decide +kernel
theorem dX8_head_86 : decode cX8_head 86 = .ok (.if_icmp .ge 113, 3) := by decide +kernel
theorem dX8_head_199 : decode cX8_head 199 = .ok (.aload_n 0, 1) := by decide +kernel
theorem dX8_head_200 : decode cX8_head 200 = .ok (.bipush 35, 2) := by decide +kernel
theorem dX8_head_202 : decode cX8_head 202 = .ok (.invokevirtual 53, 3) := by decide +kernel
theorem dX8_head_205 : decode cX8_head 205 = .ok (.pop, 1) := by decide +kernel
theorem dX8_head_206 : decode cX8_head 206 = .ok (.aload 4, 2) := by decide +kernel
theorem dX8_head_208 : decode cX8_head 208 = .ok (.areturn, 1) := by decide +kernel
theorem dX8_head_89 : decode cX8_head 89 = .ok (.iload 5, 2) := by decide +kernel
theorem dX8_head_91 : decode cX8_head 91 = .ok (.ifCond .eq 108, 3) := by decide +kernel
theorem dX8_head_94 : decode cX8_head 94 = .ok (.aload_n 0, 1) := by decide +kernel
theorem dX8_head_95 : decode cX8_head 95 = .ok (.bipush 13, 2) := by decide +kernel
theorem dX8_head_97 : decode cX8_head 97 = .ok (.invokevirtual 36, 3) := by decide +kernel
theorem dX8_head_100 : decode cX8_head 100 = .ok (.ifCond .ne 20, 3) := by decide +kernel
theorem dX8_head_120 : decode cX8_head 120 = .ok (.iconst 1, 1) := by decide +kernel
theorem dX8_head_121 : decode cX8_head 121 = .ok (.goto 4, 3) := by decide +kernel
theorem dX8_head_125 : decode cX8_head 125 = .ok (.istore 7, 2) := by decide +kernel
theorem dX8_head_127 : decode cX8_head 127 = .ok (.iload 7, 2) := by decide +kernel
theorem dX8_head_129 : decode cX8_head 129 = .ok (.ifCond .eq 28, 3) := by decide +kernel
theorem dX8_head_132 : decode cX8_head 132 = .ok (.aload 4, 2) := by decide +kernel
theorem dX8_head_134 : decode cX8_head 134 = .ok (.getfield 158, 3) := by decide +kernel
theorem dX8_head_137 : decode cX8_head 137 = .ok (.invokevirtual 107, 3) := by decide +kernel
theorem dX8_head_140 : decode cX8_head 140 = .ok (.bipush 8, 2) := by decide +kernel
theorem dX8_head_142 : decode cX8_head 142 = .ok (.if_icmp .lt 15, 3) := by decide +kernel
theorem dX8_head_157 : decode cX8_head 157 = .ok (.aload_n 0, 1) := by decide +kernel
theorem dX8_head_158 : decode cX8_head 158 = .ok (.iconst 1, 1) := by decide +kernel
theorem dX8_head_159 : decode cX8_head 159 = .ok (.invokevirtual 132, 3) := by decide +kernel
theorem dX8_head_162 : decode cX8_head 162 = .ok (.istore 8, 2) := by decide +kernel
theorem dX8_head_164 : decode cX8_head 164 = .ok (.aload 4, 2) := by decide +kernel
theorem dX8_head_166 : decode cX8_head 166 = .ok (.getfield 158, 3) := by decide +kernel
theorem dX8_head_169 : decode cX8_head 169 = .ok (.aload_n 0, 1) := by decide +kernel
theorem dX8_head_170 : decode cX8_head 170 = .ok (.iload 8, 2) := by decide +kernel
theorem dX8_head_172 : decode cX8_head 172 = .ok (.aload_n 0, 1) := by decide +kernel
theorem dX8_head_173 : decode cX8_head 173 = .ok (.bipush 65, 2) := by decide +kernel
theorem dX8_head_175 : decode cX8_head 175 = .ok (.invokevirtual 53, 3) := by decide +kernel
theorem dX8_head_178 : decode cX8_head 178 = .ok (.invokevirtual 139, 3) := by decide +kernel
theorem dX8_head_181 : decode cX8_head 181 = .ok (.invokevirtual 116, 3) := by decide +kernel
theorem dX8_head_184 : decode cX8_head 184 = .ok (.pop, 1) := by decide +kernel
theorem dX8_head_185 : decode cX8_head 185 = .ok (.aload_n 0, 1) := by decide +kernel
theorem dX8_head_186 : decode cX8_head 186 = .ok (.bipush 39, 2) := by decide +kernel
theorem dX8_head_188 : decode cX8_head 188 = .ok (.invokevirtual 80, 3) := by decide +kernel
theorem dX8_head_191 : decode cX8_head 191 = .ok (.istore 5, 2) := by decide +kernel
theorem dX8_head_193 : decode cX8_head 193 = .ok (.iinc 6 1, 3) := by decide +kernel
theorem dX8_head_196 : decode cX8_head 196 = .ok (.goto (-119), 3) := by decide +kernel
theorem dX8_head_145 : decode cX8_head 145 = .ok (.aload_n 0, 1) := by decide +kernel
theorem dX8_head_146 : decode cX8_head 146 = .ok (.getfield 7, 3) := by decide +kernel
theorem dX8_head_149 : decode cX8_head 149 = .ok (.iconst 2, 1) := by decide +kernel
theorem dX8_head_150 : decode cX8_head 150 = .ok (.aload_n 0, 1) := by decide +kernel
theorem dX8_head_151 : decode cX8_head 151 = .ok (.getfield 17, 3) := by decide +kernel
theorem dX8_head_154 : decode cX8_head 154 = .ok (.invokevirtual 60, 3) := by decide +kernel
theorem dX8_head_103 : decode cX8_head 103 = .ok (.aload_n 0, 1) := by decide +kernel
theorem dX8_head_104 : decode cX8_head 104 = .ok (.iconst 1, 1) := by decide +kernel
theorem dX8_head_105 : decode cX8_head 105 = .ok (.invokevirtual 36, 3) := by decide +kernel
theorem dX8_head_108 : decode cX8_head 108 = .ok (.ifCond .ne 12, 3) := by decide +kernel
theorem dX8_head_111 : decode cX8_head 111 = .ok (.aload_n 0, 1) := by decide +kernel
theorem dX8_head_112 : decode cX8_head 112 = .ok (.bipush 65, 2) := by decide +kernel
theorem dX8_head_114 : decode cX8_head 114 = .ok (.invokevirtual 36, 3) := by decide +kernel
theorem dX8_head_117 : decode cX8_head 117 = .ok (.ifCond .eq 7, 3) := by decide +kernel
theorem dX8_head_124 : decode cX8_head 124 = .ok (.iconst 0, 1) := by decide +kernel
theorem dX8_head_67 : decode cX8_head 67 = .ok (.iconst 1, 1) := by decide +kernel
theorem dX8_head_68 : decode cX8_head 68 = .ok (.goto 4, 3) := by decide +kernel
theorem dX8_head_12 : decode cX8_head 12 = .ok (.aload_n 0, 1) := by decide +kernel
theorem dX8_head_13 : decode cX8_head 13 = .ok (.getfield 7, 3) := by decide +kernel
theorem dX8_head_16 : decode cX8_head 16 = .ok (.iconst 2, 1) := by decide +kernel
theorem dX8_head_17 : decode cX8_head 17 = .ok (.iload_n 3, 1) := by decide +kernel
theorem dX8_head_18 : decode cX8_head 18 = .ok (.invokevirtual 60, 3) := by decide +kernel
theorem hS_X6_init : yX6_init.cls ≠ "java/lang/invoke/MethodHandle" ∧ yX6_init.cls ≠ "java/lang/invoke/VarHandle" ∧ (parseMethodDescriptor yX6_init.desc).map (fun d => d.parameters.length) = some 4 := by decide +kernel
set_option maxHeartbeats 40000000 in
set_option maxRecDepth 100000 in
theorem P_head (l : Launch) (G : pT) (h0 : Nat) (a : Nat → Nat) (F : Nat → Int32) (R : Nat → Value) (Z : Int64) (B : Nat → Nat → Int32) (J : Nat → Nat → Int64) (K : PK) (w : va_W) (pq : Nat) (dr : Nat) (ml : Nat) (nd : Nat) (nm : Nat) (cp : Nat) (it : Nat → Nat) (s9 : Nat) (d0 : Nat) (tk : Nat) (x1 : Int32) (at9 : Nat) (sz : Nat) (g : Nat → Nat → Nat) (hsz : sz ≤ 5000) (hat : at9 ≤ sz) (hwp : WPr G K g) (hps : PgS G K g (a 1) pq dr ml nd nm cp it s9) (hpz : PzK G K g nm it none) (hd0 : K.1 d0 = 4) (htk : tk ≤ sz) (hg5 : g 5 d0 = 0) (hO : OKP G h0 a (upd (upd F 2 (nI sz)) 9 (nI at9)) (updR R 1 (.ref pq)) Z B J K w) (hl0 : l.stackTraces = false) : PBn l G pX0 yX8_head cX8_head 9 (some (.object "JinjaTongue$Method")) ({ frames := 8, cells := (2 * (sz - at9) + 10), slots := (60 * (sz - at9) + 400), locals := 191 }) [.ref (a 3), .ref d0, .int x1, .int (nI tk)] w (fun (v : Option Value) (u : va_W × (PK × (Nat → Nat → Nat) × Nat × Nat × (Nat → Int32))) => v = some (.ref u.2.2.2.1) ∧ (WPr G u.2.1 u.2.2.1) ∧ (PgS G u.2.1 u.2.2.1 (a 1) pq dr ml nd nm cp it (s9 + 3 + (u.2.2.2.2.1 - at9))) ∧ (u.2.1.1 u.2.2.2.1 = 3) ∧ (u.2.1.1 d0 = 4) ∧ (at9 + 2 ≤ u.2.2.2.2.1 ∧ u.2.2.2.2.1 ≤ sz) ∧ (Onc u.2.1 dr nd u.2.2.2.1) ∧ (PzK G u.2.1 u.2.2.1 nm it (omx K d0 u.2.2.2.1)) ∧ (MeI G u.2.1 d0 u.2.2.2.1) ∧ (u.2.1.2.1 9 u.2.2.2.1 = -1) ∧ (u.2.1.2.1 18 d0 = K.2.1 18 d0) ∧ (u.2.2.1 5 d0 = 0) ∧ (NwT (B 7) sz (B 10) u.2.2.2.2.2 K u.2.1 at9 u.2.2.2.2.1) ∧ (OKP G h0 a (upd (upd F 2 (nI sz)) 9 (nI u.2.2.2.2.1)) (updR R 1 (.ref pq)) Z (updA B 10 u.2.2.2.2.2) J u.2.1 u.1)) (fun u => u.1) (fun (u : va_W × (PK × (Nat → Nat → Nat) × Nat × Nat × (Nat → Int32))) => (u.2.2.2.2.1 - at9 + 3)) (fun (u : va_W × (PK × (Nat → Nat → Nat) × Nat × Nat × (Nat → Int32))) => (60 * (u.2.2.2.2.1 - at9) + 60)) (fun (u : va_W × (Nat → Int32) × (Nat → Value) × (Nat → Nat → Int32)) => ThQ G h0 a (upd (upd F 2 (nI sz)) 9 (nI at9)) (updR R 1 (.ref pq)) Z B J u) (fun u => u.1) := by
  intro sz
  refine vx_ofW (cc := cX8_head) (maxL := 9) (ret := (some (.object "JinjaTongue$Method"))) (by decide) rfl ?_
  intro p e s m args below meth c s₁ B9 hml hnt hv
  obtain ⟨rfl, hsz, hP, hD0, hE, hX⟩ := hv
  have hx := B9.exec
  have hb := B9.bytes
  have hr := B9.returns
  have hts := atoms_spec (ws := Cond.code yX8_head cX8_head 9 (some (.object "JinjaTongue$Method")) :: pw) B9.pre
  have hq : ∀ w ∈ pw, w.before _ s = true := fun w h => hts w (List.mem_cons_of_mem _ h)
  have hown : s.vm.findClass RX8 = some m.cls := findClass_of_methodNamed B9.named
  have hlocks := B9.notSynchronized
  subst hsz
  have hD := hD0.self (sz := s.heap.size)
  have hA : ∀ q : Nat, s.heap.size ≤ q → va_A w s.heap.size q := fun q h => Or.inr h
  generalize va_A w s.heap.size = A at hD hE hA ⊢
  have hS : va_S A s.heap s.heap [] := va_S.rf
  have hl := lv_entry ([.ref (a 3), .ref d0, .int x1, .int (nI tk)]) (n := 9) (Nat.le_of_ble_eq_true rfl)
  rw [lg_entry_eq]
  generalize (lg_sl ([.ref (a 3), .ref d0, .int x1, .int (nI tk)]) ++ List.replicate (9 - (lg_sl ([.ref (a 3), .ref d0, .int x1, .int (nI tk)])).length) Slot.unset).toArray = ls at hl ⊢
  have hl : lv_has ls 9 [(0, .ref (a 3)), (1, .ref d0), (2, .int x1), (3, .int (nI tk))] := hl
  have htk0 : NwT (B 7) sz (B 10) (B 10) K K at9 at9 := NwT.nil
  obtain ⟨lm, hflm, htlm, hrlm, holm⟩ := (hwp.2.2.1 d0 hd0).2.1
  obtain ⟨nlm, itlm, cplm, hlclm, hnblm, hcblm⟩ := hwp.2.1 lm htlm
  rw [hrlm] at hlclm hnblm
  have hnclm := hlclm.2.2.1
  have hnblm : nlm ≤ 30 := hnblm
  have hlclm : LsC G K lm 3 nlm itlm cplm := hlclm
  refine lv_aload_n hx hb dX8_head_0 rfl (lv_at hl 1 rfl) ?_
  refine p_get (v := .ref lm) (C := RX2) (Tc := TX2) (N := 13) (ci := 2) hx hb hq pin_wsX20 hown hE hP hO (by rw [hd0]; decide) (rep_4 hd0) rfl 8 (by decide) (hq _ pw_877) (fun _ h9 => h9) (congrArg (fun z => some (va_rf z)) hflm) dX8_head_1 ?_
  have hO : OKP G h0 a (upd (upd F 2 (nI sz)) 9 (nI at9)) (updR R 1 (.ref pq)) Z B J K w := hO.to rfl
  obtain ⟨qr4, hqr5⟩ := p_recv hO (by rw [htlm]; decide) (rep_5 htlm)
  refine pc_V0 (G := G) (As := []) (rest := []) hx hb hml hown hq hE hX pX0_al hP hD hS hA hl.1 (L_size l G h0 a (upd (upd F 2 (nI sz)) 9 (nI at9)) (updR R 1 (.ref pq)) Z B J K w lm 3 nlm itlm hlclm.ls hO) (gV pw_882 pw_87 pw_88 pw_32 pw_16) hV_Jx4a65c_size_8abf5 qr4 10 hqr5 rfl rfl rfl (Nat.le_of_ble_eq_true rfl) dX8_head_4 ⟨(by show 0 + 0 ≤ (2 * (sz - at9) + 10); omega), (by show 0 + 0 ≤ (60 * (sz - at9) + 400); omega)⟩ ⟨Nat.le_of_ble_eq_true rfl, Nat.le_of_ble_eq_true rfl⟩ (fun v3 u1 H locs hw2 hP hD hS => ?_)
  obtain ⟨w, _⟩ := u1
  obtain ⟨hw2, hO⟩ := hw2
  obtain rfl : v3 = some (.int (nI nlm)) := hw2
  have hO : OKP G h0 a (upd (upd F 2 (nI sz)) 9 (nI at9)) (updR R 1 (.ref pq)) Z B J K w := hO.to rfl
  refine W.widen (k := 0) (n := 0) (Nat.le_of_ble_eq_true rfl) (Nat.le_of_ble_eq_true rfl) ?_
  refine W.eq (g2 := F0 m 7 ls [.int (nI nlm)]) rfl ?_
  refine lv_bipush (v := 30) hx hb dX8_head_7 (by decide) ?_
  refine lv_icmp_lt (tgt := 21) hx hb dX8_head_9 (by decide) (fun c6 => ?_) (fun c6 => ?_)
  · have n7 : nlm < 30 := (nI_ltI (a := nlm) (b := 30) (by omega) (by omega)).mp c6
    refine p_new (s9 := 3) (C := RX6) (T := TX6) (N := 12) (ci := 12) (fs := [.null, .int 0, .int 0, .int 0, .null, .null, .int 0, .int 0, .int 0, .int 0, .int 0, .int 0]) hx hb hq pin_wsX60 tyX6 tyX6_ok hown (hq _ pw_878) (hq _ pw_879) (hq _ pw_880) hE hP hD hS hA hO rfl nw_X6 (by decide) (fun q => by rw [rep_3 (show (kN K q 3 0).1 q = 3 from if_pos rfl)]; unfold fsMethod kN; simp only [if_true]; rfl) (by show 0 + 1 ≤ (2 * (sz - at9) + 10); omega) (by show 0 + 12 ≤ (60 * (sz - at9) + 400); omega) dX8_head_21 (fun q8 H w hq9 hP hD hS hO => ?_)
    have hf10 : (kN K q8 3 0).1 d0 = 4 := (if_neg (fun z => by have z2 := hd0; rw [z, hq9] at z2; exact absurd z2 (by decide))).trans hd0
    have hf11 : (kN K q8 3 0).2.2.1 9 d0 = some lm := (if_neg (fun z => by have z2 := hd0; rw [z, hq9] at z2; exact absurd z2 (by decide))).trans hflm
    have hf12 : (kN K q8 3 0).1 lm = 5 := (if_neg (fun z => by have z2 := htlm; rw [z, hq9] at z2; exact absurd z2 (by decide))).trans htlm
    have hf13 : (kN K q8 3 0).1 q8 = 3 := if_pos rfl
    refine W.widen (k := 1) (n := 12) (by show 0 + 1 ≤ 1; omega) (by show 0 + 12 ≤ 12; omega) ?_
    refine lv_dup hx hb dX8_head_24 rfl ?_
    refine lv_aload_n hx hb dX8_head_25 rfl (lv_at hl 1 rfl) ?_
    refine lv_aload_n hx hb dX8_head_26 rfl (lv_at hl 0 rfl) ?_
    refine c_get (v := .ref (a 1)) (C := RX8) (Tc := TX8) (N := 5) (ci := 5) hx hb hq pin_wsX80 hown hE hP hO 23 (sg_23 G h0 a _ _ _ _ _) rfl 0 (by decide) (hq _ pw_774) (fun _ h9 => h9) rfl dX8_head_27 ?_
    refine lv_iload_n hx hb dX8_head_30 rfl (lv_at hl 3 rfl) ?_
    have hO : OKW G h0 a (upd (upd (upd F 2 (nI sz)) 9 (nI at9)) 2 (nI sz)) (updR R 1 (.ref pq)) Z B J ((kN K q8 3 0).1) (fun q99 x99 => x99 = rep G a (kN K q8 3 0) q99) w := hO.to rfl
    obtain ⟨_, qr17, hqr18⟩ := hO.2.1 2 _ (sg_2 G h0 a _ _ _ _ _)
    refine pc_V0 (G := G) (As := [.int (nI tk)]) (rest := [.ref d0, .ref q8, .ref q8]) hx hb hml hown hq hE hX pX0_al hP hD hS hA hl.1 (K_valueAt l G h0 a (upd (upd F 2 (nI sz)) 9 (nI at9)) (updR R 1 (.ref pq)) Z B J ((kN K q8 3 0).1) (fun q99 x99 => x99 = rep G a (kN K q8 3 0) q99) w (nI tk) sz (by omega) hO) (gV pw_876 pw_57 pw_58 pw_59 pw_39) hV_X10_valueAt qr17 7 hqr18 rfl rfl rfl (Nat.le_of_ble_eq_true rfl) dX8_head_31 ⟨(by show 1 + 0 ≤ (2 * (sz - at9) + 10); omega), (by show 12 + 0 ≤ (60 * (sz - at9) + 400); omega)⟩ ⟨Nat.le_of_ble_eq_true rfl, Nat.le_of_ble_eq_true rfl⟩ (fun v16 u14 H locs hw15 hP hD hS => ?_)
    obtain ⟨w, r19⟩ := u14
    obtain ⟨hw15, hO⟩ := hw15
    obtain rfl : v16 = some (.int r19) := hw15
    have hO : OKP G h0 a (upd (upd F 2 (nI sz)) 9 (nI at9)) (updR R 1 (.ref pq)) Z B J (kN K q8 3 0) w := hO.to rfl
    refine W.widen (k := 1) (n := 12) (by show 1 + 0 ≤ 1; omega) (by show 12 + 0 ≤ 12; omega) ?_
    refine W.eq (g2 := F0 m 34 ls [.int r19, .ref d0, .ref q8, .ref q8]) rfl ?_
    refine lv_iload_n hx hb dX8_head_34 rfl (lv_at hl 3 rfl) ?_
    refine lv_iload_n hx hb dX8_head_35 rfl (lv_at hl 2 rfl) ?_
    have hO : OKP G h0 a (upd (upd F 2 (nI sz)) 9 (nI at9)) (updR R 1 (.ref pq)) Z B J (kN K q8 3 0) w := hO.to rfl
    obtain ⟨qr23, hqr24⟩ := p_recv hO (by rw [hf13]; decide) (rep_3 hf13)
    refine pc_I0 (G := G) (As := [.ref d0, .int r19, .int (nI tk), .int x1]) (rest := [.ref q8]) hx hb hml hown hq hE hX pX0_al hP hD hS hA hl.1 (M_init l G h0 a (upd (upd F 2 (nI sz)) 9 (nI at9)) (updR R 1 (.ref pq)) Z B J (kN K q8 3 0) w q8 d0 r19 (nI tk) x1 hf13 hO) pw_883 pw_884 pw_880 pw_764 rfl hS_X6_init rfl (Nat.le_of_ble_eq_true rfl) dX8_head_36 ⟨(by show 1 + 1 ≤ (2 * (sz - at9) + 10); omega), (by show 12 + 3 ≤ (60 * (sz - at9) + 400); omega)⟩ ⟨Nat.le_of_ble_eq_true rfl, Nat.le_of_ble_eq_true rfl⟩ (fun v22 u20 H locs hw21 hP hD hS => ?_)
    obtain ⟨w, f25⟩ := u20
    obtain ⟨hw21, h26, hO⟩ := hw21
    have h26 : (kI (kI (kI (kC (kN K q8 3 0) 5 q8 (some d0)) 6 q8 r19) 7 q8 (nI tk)) 8 q8 x1).1 f25 = 0 := h26
    obtain rfl : v22 = none := hw21
    have hO : OKP G h0 a (upd (upd F 2 (nI sz)) 9 (nI at9)) (updR R 1 (.ref pq)) Z B J (kI (addL G (kI (kI (kI (kC (kN K q8 3 0) 5 q8 (some d0)) 6 q8 r19) 7 q8 (nI tk)) 8 q8 x1) q8 6 f25) 9 q8 (-1)) w := hO.to rfl
    refine W.widen (k := 2) (n := (12 + 3)) (by show 1 + 1 ≤ 2; omega) (by show 12 + 3 ≤ (12 + 3); omega) ?_
    refine W.eq (g2 := F0 m 39 ls [.ref q8]) rfl ?_
    change OKP G h0 a (upd (upd F 2 (nI sz)) 9 (nI at9)) (updR R 1 (.ref pq)) Z B J (mkM G K q8 d0 r19 (nI tk) x1 f25) w at hO
    have hmm := WPr.meth (x1 := r19) (x2 := (nI tk)) (x3 := x1) hwp hq9 hd0 h26
    obtain ⟨K27, hK28⟩ : ∃ z : PK, z = (mkM G K q8 d0 r19 (nI tk) x1 f25) := ⟨_, rfl⟩
    rw [← hK28] at hO
    rw [← hK28] at hmm
    obtain ⟨hm1, hm2, hm3, hm4, hm5, hm6, hm7, hm8, hm9⟩ := hmm
    have hm07 : K27.2.2.1 7 q8 = none := by rw [hK28]; exact mkM_7 h26
    have hps1 := PgS.ext hps hwp hm2 (fun p hp h0 => by rcases hm9 p h0 with z | z | z; (· rw [hp] at z; exact absurd z (by decide)); (· rw [z]; exact hm4); (· rw [z, hm6] at hp; exact absurd hp (by decide))) (fun p hp h0 => by rcases hm9 p h0 with z | z | z; (· rw [hp] at z; exact absurd z (by decide)); (· rw [z, hm3] at hp; exact absurd hp (by decide)); (· rw [z, hm6] at hp; exact absurd hp (by decide)))
    have hpz1 : PzK G K27 (gM g q8 f25) nm it none := PzK.ext hpz hwp hm2 (fun p hp h0 => (by rcases hm9 p h0 with z | z | z; (· rw [hp] at z; exact absurd z (by decide)); (· rw [z, hm3] at hp; exact absurd hp (by decide)); (· rw [z, hm6] at hp; exact absurd hp (by decide)))) (fun p hp h0 n jt z8 => by
      obtain ⟨lp, cp, f1, f2⟩ := z8
      rcases hm9 p h0 with z | z | z
      · rw [hp] at z; exact absurd z (by decide)
      · rw [z] at f1
        have e9 := Option.some.inj (hm5.symm.trans f1)
        subst e9
        have e8 := (f2.same9 hm8).1
        omega
      · rw [z, hm6] at hp; exact absurd hp (by decide))
    have hm15 : K27.2.2.1 5 q8 = some d0 := by rw [hK28]; exact mkM_5 h26
    have htk29 : NwT (B 7) sz (B 10) (B 10) K K27 at9 at9 := (NwT.ext htk0 (fun p hp => ⟨(hm2 p hp).1.1, fun _ f => (hm2 p hp).1.2.1 f⟩) (fun p h0 hp => by rcases hm9 p h0 with z | z | z; (· rw [hp] at z; exact absurd z (by decide)); (· rw [z, hm3] at hp; exact absurd hp (by decide)); (· rw [z, hm6] at hp; exact absurd hp (by decide))))
    have hf30 : K27.1 d0 = 4 := (hm2 d0 (by rw [hd0]; decide)).1.1.trans hd0
    have hf31 : K27.1 lm = 5 := (hm2 lm (by rw [htlm]; decide)).1.1.trans htlm
    have hf32 : K27.2.2.1 9 d0 = some lm := ((hm2 d0 (by rw [hd0]; decide)).1.2.2.1 9).trans hflm
    refine lv_astore (lv' := [(4, .ref q8), (0, .ref (a 3)), (1, .ref d0), (2, .int x1), (3, .int (nI tk))]) hx hb dX8_head_39 hl (by decide) rfl (fun ls hl => ?_)
    refine lv_aload_n hx hb dX8_head_41 rfl (lv_at hl 2 rfl) ?_
    refine p_get (v := .ref lm) (C := RX2) (Tc := TX2) (N := 13) (ci := 2) hx hb hq pin_wsX20 hown hE hP hO (by rw [hf30]; decide) (rep_4 hf30) rfl 8 (by decide) (hq _ pw_877) (fun _ h9 => h9) (congrArg (fun z => some (va_rf z)) hf32) dX8_head_42 ?_
    refine lv_aload hx hb dX8_head_45 (lv_at hl 0 rfl) ?_
    have hlc33 : LsC G K27 lm 3 nlm itlm cplm := (LsC.wx (fun p hp => (hm2 p hp).1.1) (by decide) (hm2 lm (by rw [htlm]; decide)).1 (fun e he _ => (hm2 e (by rw [he]; decide)).1) hlclm)
    have hO : OKP G h0 a (upd (upd F 2 (nI sz)) 9 (nI at9)) (updR R 1 (.ref pq)) Z B J K27 w := hO.to rfl
    obtain ⟨qr37, hqr38⟩ := p_recv hO (by rw [hf31]; decide) (rep_5 hf31)
    refine pn_V0 (G := G) (As := [.ref q8]) (rest := []) hx hb hml hown hq hE hX pX0_al hP hD hS hA hl.1 (L_addC l G h0 a (upd (upd F 2 (nI sz)) 9 (nI at9)) (updR R 1 (.ref pq)) Z B J K27 w lm 3 nlm itlm cplm q8 hlc33 (by decide) hm3 (by omega) (by omega) hO hl0) (gV pw_885 pw_886 pw_887 pw_32 pw_868) hV_Jx4a65c_add_9ea2d qr37 10 hqr38 rfl rfl rfl (Nat.le_of_ble_eq_true rfl) dX8_head_47 ⟨(by show 2 + 1 ≤ (2 * (sz - at9) + 10); omega), (by show (12 + 3) + (10 + nlm + nlm / 2) ≤ (60 * (sz - at9) + 400); omega)⟩ ⟨Nat.le_of_ble_eq_true rfl, Nat.le_of_ble_eq_true rfl⟩ (fun v36 u34 H locs hw35 hP hD hS => ?_) (fun ux ce9 q9 H9 locs9 hux hP9 hD9 hS9 hce hcv hcl => pb_out ux (ThQ.up Thx.rfl RhX.rfl hux) hnt hlocks hce hcv hcl hP9 hD9 hS9 (by show 2 + 1 ≤ (2 * (sz - at9) + 10); omega) (by show (12 + 3) + (10 + nlm + nlm / 2) ≤ (60 * (sz - at9) + 400); omega))
    obtain ⟨w, K39, d40⟩ := u34
    obtain ⟨hw35, h41, h42, h43, h44, h45, hO⟩ := hw35
    have h41 : LsC G K39 lm 3 (nlm + 1) (upQ itlm nlm q8) (cplm + d40) := h41
    have h42 : AdQ K27 K39 lm := h42
    have h43 : N6 K27 K39 := h43
    have h44 : cplm + d40 ≤ 10 + 2 * (nlm + 1) := h44
    have h45 : d40 ≤ 10 + nlm / 2 := h45
    obtain rfl : v36 = some (.int 1) := hw35
    have hO : OKP G h0 a (upd (upd F 2 (nI sz)) 9 (nI at9)) (updR R 1 (.ref pq)) Z B J K39 w := hO.to rfl
    refine W.widen (k := 3) (n := ((12 + 3) + (4 * d40))) (by show 2 + 1 ≤ 3; omega) (by show (12 + 3) + (4 * d40) ≤ ((12 + 3) + (4 * d40)); omega) ?_
    refine W.eq (g2 := F0 m 50 ls [.int 1]) rfl ?_
    have htk46 : NwT (B 7) sz (B 10) (B 10) K K39 at9 at9 := (NwT.ad htk29 h42 h43 hf31)
    have hg47 : (gM g q8 f25) 3 lm = 2 := ((hm2 lm (by rw [htlm]; decide)).2 3).trans hrlm
    have hwp48 : WPr G K39 (gM g q8 f25) := WPr.add hm1 h42 h43 hf31 (by rw [hg47]; exact h41) (by rw [hg47]; show _ ≤ 30 ∧ _; omega)
    have hps49 : PgS G K39 (gM g q8 f25) (a 1) pq dr ml nd nm cp it (s9 + 5) := by have z9 := PgS.add hps1 hm1 h42 h43 hf31 (fun z => by have z2 := hg47; rw [z, hps1.1.2.2.2.2.2.2.1] at z2; exact absurd z2 (by decide)) (by rw [szL_of h41, szL_of hlc33]) (by rw [hg47]; decide) (by rw [hg47]; decide) (fun _ => ⟨_, _, _, _, _, hlc33, h41, ((AdQ.sm h42 (p := q8) (by rw [hm3]; decide) (fun z => by have z2 := hm3; rw [z, hf31] at z2; exact absurd z2 (by decide)) (by rw [hm3]; decide)).2.2.1 7).trans hm07⟩); rw [hg47] at z9; exact z9
    have hf50 : K39.1 q8 = 3 := (h42.1 q8 (by rw [hm3]; decide)).1.trans hm3
    have hf51 : K39.1 f25 = 5 := (h42.1 f25 (by rw [hm6]; decide)).1.trans hm6
    have hf52 : K39.1 d0 = 4 := (h42.1 d0 (by rw [hf30]; decide)).1.trans hf30
    have hf53 : K39.1 lm = 5 := (h42.1 lm (by rw [hf31]; decide)).1.trans hf31
    have hon0 : Onc K39 dr nd q8 := Nat.le_trans (tb_two hps1.2.1 hps1.1.2.2.2.2.2.2.2.2.2 hm1 hps1.1.2.2.2.1 h42 hf31 hlc33 h41 (dlt q8)) (by rw [tb_ext (wt := dlt q8) (wt1 := dlt q8) hps.2.1 hwp hps.1.2.2.2.1 (fun p hp => (hm2 p hp).1) (fun _ _ => rfl), Onc.new hps.2.1 hwp hq9]; unfold dlt; rw [if_pos rfl]; decide)
    have hc6 : K39.2.2.1 6 q8 = some f25 := ((AdQ.sm h42 (p := q8) (by rw [hm3]; decide) (fun z => by have z2 := hm3; rw [z, (hm2 lm (by rw [htlm]; decide)).1.1, htlm] at z2; exact absurd z2 (by decide)) (by rw [hm3]; decide)).2.2.1 6).trans hm5
    have hne6 : ¬ f25 = lm := fun z => by have z2 := hm7; rw [z] at z2; have z3 := hg47; rw [z, z2] at z3; exact absurd z3 (by decide)
    have hl6 : LsC G K39 f25 1 0 (fun _ => 0) 0 := LsC.wx (fun p hp => (h42.1 p hp).1) (by decide) (AdQ.sm h42 (by rw [hm6]; decide) hne6 (by rw [hm6]; decide)) (fun e he h17 => h42.2 e (by rw [he]; decide) (fun z => by rw [z, (hm2 lm (by rw [htlm]; decide)).1.1, htlm] at he; exact absurd he (by decide)) (fun z => hne6 (Option.some.inj (h17.symm.trans z.2)))) hm8
    have hpzM := PzK.addM (om := omx K d0 q8) hpz1 hm1 h42 h43 ((hm2 d0 (by rw [hd0]; decide)).1.1.trans hd0) (((hm2 d0 (by rw [hd0]; decide)).1.2.2.1 9).trans hflm) hlc33 h41 hm3 hm15 hm07 (((hm2 d0 (by rw [hd0]; decide)).2 5).trans hg5) (fun z => omx.c (((hm2 d0 (by rw [hd0]; decide)).1.2.1 18).symm.trans z))
    have h9M : K39.2.1 9 q8 = -1 := ((AdQ.sm h42 (p := q8) (by rw [hm3]; decide) (fun z => by have z2 := hm3; rw [z, hf31] at z2; exact absurd z2 (by decide)) (by rw [hm3]; decide)).2.1 9).trans hm4
    have h18M : K39.2.1 18 d0 = K.2.1 18 d0 := ((AdQ.sm h42 (p := d0) (by rw [(hm2 d0 (by rw [hd0]; decide)).1.1, hd0]; decide) (fun z => by have z2 := ((hm2 d0 (by rw [hd0]; decide)).1.1.trans hd0); rw [z, hf31] at z2; exact absurd z2 (by decide)) (by rw [(hm2 d0 (by rw [hd0]; decide)).1.1, hd0]; decide)).2.1 18).trans ((hm2 d0 (by rw [hd0]; decide)).1.2.1 18)
    refine lv_pop hx hb dX8_head_50 rfl ?_
    refine lv_aload_n hx hb dX8_head_51 rfl (lv_at hl 1 rfl) ?_
    refine lv_bipush (v := 34) hx hb dX8_head_52 (by decide) ?_
    have hO : OKW G h0 a (upd (upd (upd (upd F 2 (nI sz)) 9 (nI at9)) 2 (nI sz)) 9 (nI at9)) (updR R 1 (.ref pq)) Z B J K39.1 (fun q99 x99 => x99 = rep G a K39 q99) w := hO.to rfl
    obtain ⟨_, qr57, hqr58⟩ := hO.2.1 23 _ (sg_23 G h0 a _ _ _ _ _)
    refine pn_V0 (G := G) (As := [.int 34]) (rest := []) hx hb hml hown hq hE hX pX0_al hP hD hS hA hl.1 (P_take l G h0 a (upd (upd F 2 (nI sz)) 9 (nI at9)) (updR R 1 (.ref pq)) Z B J K39.1 (fun q99 x99 => x99 = rep G a K39 q99) w 34 at9 sz (by omega) (by omega) (by decide) hO hl0) (gV pw_793 pw_794 pw_795 pw_796 pw_781) hV_X8_take qr57 5 hqr58 rfl rfl rfl (Nat.le_of_ble_eq_true rfl) dX8_head_54 ⟨(by show 3 + 1 ≤ (2 * (sz - at9) + 10); omega), (by show ((12 + 3) + (4 * d40)) + 6 ≤ (60 * (sz - at9) + 400); omega)⟩ ⟨Nat.le_of_ble_eq_true rfl, Nat.le_of_ble_eq_true rfl⟩ (fun v56 u54 H locs hw55 hP hD hS => ?_) (fun ux ce9 q9 H9 locs9 hux hP9 hD9 hS9 hce hcv hcl => pb_out ux (ThQ.up (Thx.same (Thx.same Thx.rfl rfl) rfl) RhX.rfl hux) hnt hlocks hce hcv hcl hP9 hD9 hS9 (by show 3 + 1 ≤ (2 * (sz - at9) + 10); omega) (by show ((12 + 3) + (4 * d40)) + 6 ≤ (60 * (sz - at9) + 400); omega))
    obtain ⟨w, _⟩ := u54
    obtain ⟨hw55, h59, h60, hO⟩ := hw55
    have h59 : at9 + 1 ≤ sz := h59
    have h60 : tkN ((B 7)) sz 67 (nI at9) = 34 := h60
    obtain rfl : v56 = some (.int (nI at9)) := hw55
    have hO : OKP G h0 a (upd (upd F 2 (nI sz)) 9 (nI (at9 + 1))) (updR R 1 (.ref pq)) Z B J K39 w := hO.to rfl
    refine W.widen (k := 3) (n := ((12 + 3) + (4 * d40))) (by show 3 + 0 ≤ 3; omega) (by show ((12 + 3) + (4 * d40)) + 0 ≤ ((12 + 3) + (4 * d40)); omega) ?_
    refine W.eq (g2 := F0 m 57 ls [.int (nI at9)]) rfl ?_
    refine lv_pop hx hb dX8_head_57 rfl ?_
    refine lv_aload_n hx hb dX8_head_58 rfl (lv_at hl 1 rfl) ?_
    refine lv_bipush (v := 35) hx hb dX8_head_59 (by decide) ?_
    have hO : OKW G h0 a (upd (upd (upd (upd F 2 (nI sz)) 9 (nI (at9 + 1))) 2 (nI sz)) 9 (nI (at9 + 1))) (updR R 1 (.ref pq)) Z B J K39.1 (fun q99 x99 => x99 = rep G a K39 q99) w := hO.to rfl
    obtain ⟨_, qr64, hqr65⟩ := hO.2.1 23 _ (sg_23 G h0 a _ _ _ _ _)
    refine pc_V0 (G := G) (As := [.int 35]) (rest := []) hx hb hml hown hq hE hX pX0_al hP hD hS hA hl.1 (P_sees l G h0 a (upd (upd F 2 (nI sz)) 9 (nI (at9 + 1))) (updR R 1 (.ref pq)) Z B J K39.1 (fun q99 x99 => x99 = rep G a K39 q99) w 35 (at9 + 1) sz (by omega) (by omega) hO) (gV pw_803 pw_804 pw_805 pw_796 pw_775) hV_X8_sees qr64 5 hqr65 rfl rfl rfl (Nat.le_of_ble_eq_true rfl) dX8_head_61 ⟨(by show 3 + 0 ≤ (2 * (sz - at9) + 10); omega), (by show ((12 + 3) + (4 * d40)) + 0 ≤ (60 * (sz - at9) + 400); omega)⟩ ⟨Nat.le_of_ble_eq_true rfl, Nat.le_of_ble_eq_true rfl⟩ (fun v63 u61 H locs hw62 hP hD hS => ?_)
    obtain ⟨w, r66⟩ := u61
    obtain ⟨hw62, h67, h68, hO⟩ := hw62
    have h67 : r66 ≤ 1 := h67
    have h68 : SeQ ((B 7)) sz (at9 + 1) 35 r66 := h68
    obtain rfl : v63 = some (.int (nI r66)) := hw62
    have hO : OKP G h0 a (upd (upd F 2 (nI sz)) 9 (nI (at9 + 1))) (updR R 1 (.ref pq)) Z B J K39 w := hO.to rfl
    refine W.widen (k := 3) (n := ((12 + 3) + (4 * d40))) (by show 3 + 0 ≤ 3; omega) (by show ((12 + 3) + (4 * d40)) + 0 ≤ ((12 + 3) + (4 * d40)); omega) ?_
    refine W.eq (g2 := F0 m 64 ls [.int (nI r66)]) rfl ?_
    refine lv_if_ne (tgt := 71) hx hb dX8_head_64 (by decide) (fun c69 => ?_) (fun c69 => ?_)
    · have n70 : ¬ (r66 = 0) := fun h9 => c69 ((nI_eq (a := r66) (b := 0) (by omega) (by omega)).mpr h9)
      refine lv_iconst (v := 0) hx hb dX8_head_71 (by decide) ?_
      refine lv_istore (lv' := [(5, .int 0), (4, .ref q8), (0, .ref (a 3)), (1, .ref d0), (2, .int x1), (3, .int (nI tk))]) hx hb dX8_head_72 hl (by decide) rfl (fun ls hl => ?_)
      refine lv_iconst (v := 0) hx hb dX8_head_74 (by decide) ?_
      refine lv_istore (lv' := [(6, .int 0), (5, .int 0), (4, .ref q8), (0, .ref (a 3)), (1, .ref d0), (2, .int x1), (3, .int (nI tk))]) hx hb dX8_head_75 hl (by decide) rfl (fun ls hl => ?_)
      have loop_i : ∀ (n_i : Nat) (i2 : Nat) (at2 : Nat) (f9 : Nat → Int32) (mo2 : Int32) (K2 : PK) (g2 : Nat → Nat → Nat) (q2 : Nat) (f2 : Nat) (np : Nat) (cp2 : Nat) (it2 : Nat → Nat) (s2 : Nat) (H : Heap) (locs : List Loc) (ls : Array Slot) (w : va_W), i2 ≤ sz → sz + 1 ≤ i2 + n_i → (at9 + 1 + 2 * np ≤ at2 ∧ at2 ≤ sz) → (WPr G K2 g2) → (PgS G K2 g2 (a 1) pq dr ml nd nm cp it s2) → (s2 ≤ s9 + 5) → (K2.1 q2 = 3) → (K2.1 d0 = 4) → (K2.2.2.1 6 q2 = some f2) → (g2 3 f2 = 3) → (LsC G K2 f2 1 np it2 cp2) → (cp2 ≤ 10 + 2 * np) → (Onc K2 dr nd q2) → (PzK G K2 g2 nm it (omx K d0 q2)) → (MeI G K2 d0 q2) → (K2.2.1 9 q2 = -1) → (K2.2.1 18 d0 = K.2.1 18 d0) → (g2 5 d0 = 0) → (NwT (B 7) sz (B 10) f9 K K2 at9 at2) → va_P G.1 pCl w H → va_D A w → va_S A s.heap H locs → OKP G h0 a (upd (upd F 2 (nI sz)) 9 (nI at2)) (updR R 1 (.ref pq)) Z (updA B 10 f9) J K2 w → lv_has ls 9 [(6, .int (nI i2)), (5, .int mo2), (4, .ref q2), (3, .int (nI tk)), (2, .int x1), (1, .ref d0), (0, .ref (a 3))] → W p l e (headSpec (Cond.code yX8_head cX8_head 9 (some (.object "JinjaTongue$Method")) :: pw) ({ frames := 8, cells := (2 * (sz - at9) + 10), slots := (60 * (sz - at9) + 400), locals := 191 } : Room)).room s m ([.ref (a 3), .ref d0, .int x1, .int (nI tk)] : List Value).toArray below meth c H locs (3 + 2 * np) (120 + 11 * np + 4 * cp2) (vx_MQ below (pQn G A (fun (v : Option Value) (u : va_W × (PK × (Nat → Nat → Nat) × Nat × Nat × (Nat → Int32))) => v = some (.ref u.2.2.2.1) ∧ (WPr G u.2.1 u.2.2.1) ∧ (PgS G u.2.1 u.2.2.1 (a 1) pq dr ml nd nm cp it (s9 + 3 + (u.2.2.2.2.1 - at9))) ∧ (u.2.1.1 u.2.2.2.1 = 3) ∧ (u.2.1.1 d0 = 4) ∧ (at9 + 2 ≤ u.2.2.2.2.1 ∧ u.2.2.2.2.1 ≤ sz) ∧ (Onc u.2.1 dr nd u.2.2.2.1) ∧ (PzK G u.2.1 u.2.2.1 nm it (omx K d0 u.2.2.2.1)) ∧ (MeI G u.2.1 d0 u.2.2.2.1) ∧ (u.2.1.2.1 9 u.2.2.2.1 = -1) ∧ (u.2.1.2.1 18 d0 = K.2.1 18 d0) ∧ (u.2.2.1 5 d0 = 0) ∧ (NwT (B 7) sz (B 10) u.2.2.2.2.2 K u.2.1 at9 u.2.2.2.2.1) ∧ (OKP G h0 a (upd (upd F 2 (nI sz)) 9 (nI u.2.2.2.2.1)) (updR R 1 (.ref pq)) Z (updA B 10 u.2.2.2.2.2) J u.2.1 u.1)) (fun u => u.1) (fun (u : va_W × (PK × (Nat → Nat → Nat) × Nat × Nat × (Nat → Int32))) => (u.2.2.2.2.1 - at9 + 3)) (fun (u : va_W × (PK × (Nat → Nat → Nat) × Nat × Nat × (Nat → Int32))) => (60 * (u.2.2.2.2.1 - at9) + 60))) (pXX G A (fun (u : va_W × (Nat → Int32) × (Nat → Value) × (Nat → Nat → Int32)) => ThQ G h0 a (upd (upd F 2 (nI sz)) 9 (nI at9)) (updR R 1 (.ref pq)) Z B J u) (fun u => u.1)) ([.ref (a 3), .ref d0, .int x1, .int (nI tk)] : List Value).toArray s ({ frames := 8, cells := (2 * (sz - at9) + 10), slots := (60 * (sz - at9) + 400), locals := 191 } : Room).cells ({ frames := 8, cells := (2 * (sz - at9) + 10), slots := (60 * (sz - at9) + 400), locals := 191 } : Room).slots A) (F0 m 77 ls []) := by
        intro n_i
        induction n_i with
        | zero => intro i2 at2 f9 mo2 K2 g2 q2 f2 np cp2 it2 s2 H locs ls w hk_i hn_i; omega
        | succ n_i ih_i =>
          intro i2 at2 f9 mo2 K2 g2 q2 f2 np cp2 it2 s2 H locs ls w hk_i hn_i hat2 hwp2 hps2 hs2 hq2 hd2 hc62 hr2 hlc2 hcb2 hon2 hpz2 hme2 h92 h18k2 hg52 htki hP hD hS hO hl
          have ht2 := hlc2.1
          refine lv_iload hx hb dX8_head_77 (lv_at hl 0 rfl) ?_
          refine lv_aload_n hx hb dX8_head_79 rfl (lv_at hl 6 rfl) ?_
          refine c_get (v := .ref (a 1)) (C := RX8) (Tc := TX8) (N := 5) (ci := 5) hx hb hq pin_wsX80 hown hE hP hO 23 (sg_23 G h0 a _ _ _ _ _) rfl 0 (by decide) (hq _ pw_774) (fun _ h9 => h9) rfl dX8_head_80 ?_
          refine c_get (v := .int (nI sz)) (C := RX10) (Tc := TX10) (N := 15) (ci := 7) hx hb hq pin_wsX100 hown hE hP hO 2 (sg_2 G h0 a _ _ _ _ _) rfl 8 (by decide) (hq _ pw_792) (fun _ h9 => h9) rfl dX8_head_83 ?_
          refine lv_icmp_ge (tgt := 199) hx hb dX8_head_86 (by decide) (fun c71 => ?_) (fun c71 => ?_)
          · have n72 : sz ≤ i2 := (nI_leI (a := sz) (b := i2) (by omega) (by omega)).mp c71
            refine lv_aload_n hx hb dX8_head_199 rfl (lv_at hl 6 rfl) ?_
            refine lv_bipush (v := 35) hx hb dX8_head_200 (by decide) ?_
            have hO : OKW G h0 a (upd (upd (upd (upd (upd F 2 (nI sz)) 9 (nI at9)) 9 (nI at2)) 2 (nI sz)) 9 (nI at2)) (updR R 1 (.ref pq)) Z (updA B 10 f9) J K2.1 (fun q99 x99 => x99 = rep G a K2 q99) w := hO.to rfl
            obtain ⟨_, qr76, hqr77⟩ := hO.2.1 23 _ (sg_23 G h0 a _ _ _ _ _)
            refine pn_V0 (G := G) (As := [.int 35]) (rest := []) hx hb hml hown hq hE hX pX0_al hP hD hS hA hl.1 (P_take l G h0 a (upd (upd (upd F 2 (nI sz)) 9 (nI at9)) 9 (nI at2)) (updR R 1 (.ref pq)) Z (updA B 10 f9) J K2.1 (fun q99 x99 => x99 = rep G a K2 q99) w 35 at2 sz (by omega) (by omega) (by decide) hO hl0) (gV pw_793 pw_794 pw_795 pw_796 pw_781) hV_X8_take qr76 5 hqr77 rfl rfl rfl (Nat.le_of_ble_eq_true rfl) dX8_head_202 ⟨(by show (3 + 2 * np) + 1 ≤ (2 * (sz - at9) + 10); omega), (by show (120 + 11 * np + 4 * cp2) + 6 ≤ (60 * (sz - at9) + 400); omega)⟩ ⟨Nat.le_of_ble_eq_true rfl, Nat.le_of_ble_eq_true rfl⟩ (fun v75 u73 H locs hw74 hP hD hS => ?_) (fun ux ce9 q9 H9 locs9 hux hP9 hD9 hS9 hce hcv hcl => pb_out ux (ThQ.up (Thx.same (Thx.same (Thx.b (Thx.f Thx.rfl (by omega)) (by omega) (by decide)) rfl) rfl) RhX.rfl hux) hnt hlocks hce hcv hcl hP9 hD9 hS9 (by show (3 + 2 * np) + 1 ≤ (2 * (sz - at9) + 10); omega) (by show (120 + 11 * np + 4 * cp2) + 6 ≤ (60 * (sz - at9) + 400); omega))
            obtain ⟨w, _⟩ := u73
            obtain ⟨hw74, h78, h79, hO⟩ := hw74
            have h78 : at2 + 1 ≤ sz := h78
            have h79 : tkN ((B 7)) sz 67 (nI at2) = 35 := h79
            obtain rfl : v75 = some (.int (nI at2)) := hw74
            have hO : OKP G h0 a (upd (upd F 2 (nI sz)) 9 (nI (at2 + 1))) (updR R 1 (.ref pq)) Z (updA B 10 f9) J K2 w := hO.to rfl
            refine W.widen (k := (3 + 2 * np)) (n := (120 + 11 * np + 4 * cp2)) (by show (3 + 2 * np) + 0 ≤ (3 + 2 * np); omega) (by show (120 + 11 * np + 4 * cp2) + 0 ≤ (120 + 11 * np + 4 * cp2); omega) ?_
            refine W.eq (g2 := F0 m 205 ls [.int (nI at2)]) rfl ?_
            refine lv_pop hx hb dX8_head_205 rfl ?_
            refine lv_aload hx hb dX8_head_206 (lv_at hl 2 rfl) ?_
            refine W_size (fun hz1 hz2 => ?_)
            refine vx_ret ?_
            have hz80 : WPr G K2 g2 := hwp2
            have hz81 : PgS G K2 g2 (a 1) pq dr ml nd nm cp it (s9 + 3 + ((at2 + 1) - at9)) := (PgS.up hps2 (by omega))
            have hz82 : K2.1 q2 = 3 := hq2
            have hz83 : K2.1 d0 = 4 := hd2
            have hz84 : at9 + 2 ≤ (at2 + 1) ∧ (at2 + 1) ≤ sz := (by omega)
            have hz85 : Onc K2 dr nd q2 := hon2
            have hz86 : PzK G K2 g2 nm it (omx K d0 q2) := hpz2
            have hz87 : MeI G K2 d0 q2 := hme2
            have hz88 : K2.2.1 9 q2 = -1 := h92
            have hz89 : K2.2.1 18 d0 = K.2.1 18 d0 := h18k2
            have hz90 : g2 5 d0 = 0 := hg52
            have hz91 : NwT (B 7) sz (B 10) f9 K K2 at9 (at2 + 1) := (NwT.le htki (by omega))
            have hO : OKP G h0 a (upd (upd F 2 (nI sz)) 9 (nI (at2 + 1))) (updR R 1 (.ref pq)) Z (updA B 10 f9) J K2 w := hO.to rfl
            refine W.widen (k := (2 * (sz - at9) + 10)) (n := (60 * (sz - at9) + 400)) (by omega) (by omega) ?_
            have hzz1 : H.size ≤ s.heap.size + (((at2 + 1) - at9 + 3)) := (by have z : (3 + 2 * np) ≤ ((at2 + 1) - at9 + 3) := (by omega); omega)
            have hzz2 : hSl H ≤ hSl s.heap + ((60 * ((at2 + 1) - at9) + 60)) := (by have z : (120 + 11 * np + 4 * cp2) ≤ (60 * ((at2 + 1) - at9) + 60) := (by omega); omega)
            exact W.aret (v := .ref q2) hx hb hr (Or.inl ⟨_, rfl⟩) (Or.inr ⟨_, rfl⟩) (fun t99 ht99 hW99 => ⟨⟨_, (w, (K2, g2, q2, (at2 + 1), f9)), rfl, ⟨rfl, hz80, hz81, hz82, hz83, hz84, hz85, hz86, hz87, hz88, hz89, hz90, hz91, hO⟩, by rw [ht99]; exact hP, hD, by rw [ht99]; exact hzz1, by rw [ht99]; exact hzz2⟩, hS.F ht99⟩) hS.2.2 dX8_head_208
          · have n92 : ¬ (sz ≤ i2) := fun h9 => c71 ((nI_leI (a := sz) (b := i2) (by omega) (by omega)).mpr h9)
            refine lv_iload hx hb dX8_head_89 (lv_at hl 1 rfl) ?_
            refine lv_if_eq (tgt := 199) hx hb dX8_head_91 (by decide) (fun c93 => ?_) (fun c93 => ?_)
            · refine lv_aload_n hx hb dX8_head_199 rfl (lv_at hl 6 rfl) ?_
              refine lv_bipush (v := 35) hx hb dX8_head_200 (by decide) ?_
              have hO : OKW G h0 a (upd (upd (upd (upd (upd F 2 (nI sz)) 9 (nI at9)) 9 (nI at2)) 2 (nI sz)) 9 (nI at2)) (updR R 1 (.ref pq)) Z (updA B 10 f9) J K2.1 (fun q99 x99 => x99 = rep G a K2 q99) w := hO.to rfl
              obtain ⟨_, qr97, hqr98⟩ := hO.2.1 23 _ (sg_23 G h0 a _ _ _ _ _)
              refine pn_V0 (G := G) (As := [.int 35]) (rest := []) hx hb hml hown hq hE hX pX0_al hP hD hS hA hl.1 (P_take l G h0 a (upd (upd (upd F 2 (nI sz)) 9 (nI at9)) 9 (nI at2)) (updR R 1 (.ref pq)) Z (updA B 10 f9) J K2.1 (fun q99 x99 => x99 = rep G a K2 q99) w 35 at2 sz (by omega) (by omega) (by decide) hO hl0) (gV pw_793 pw_794 pw_795 pw_796 pw_781) hV_X8_take qr97 5 hqr98 rfl rfl rfl (Nat.le_of_ble_eq_true rfl) dX8_head_202 ⟨(by show (3 + 2 * np) + 1 ≤ (2 * (sz - at9) + 10); omega), (by show (120 + 11 * np + 4 * cp2) + 6 ≤ (60 * (sz - at9) + 400); omega)⟩ ⟨Nat.le_of_ble_eq_true rfl, Nat.le_of_ble_eq_true rfl⟩ (fun v96 u94 H locs hw95 hP hD hS => ?_) (fun ux ce9 q9 H9 locs9 hux hP9 hD9 hS9 hce hcv hcl => pb_out ux (ThQ.up (Thx.same (Thx.same (Thx.b (Thx.f Thx.rfl (by omega)) (by omega) (by decide)) rfl) rfl) RhX.rfl hux) hnt hlocks hce hcv hcl hP9 hD9 hS9 (by show (3 + 2 * np) + 1 ≤ (2 * (sz - at9) + 10); omega) (by show (120 + 11 * np + 4 * cp2) + 6 ≤ (60 * (sz - at9) + 400); omega))
              obtain ⟨w, _⟩ := u94
              obtain ⟨hw95, h99, h100, hO⟩ := hw95
              have h99 : at2 + 1 ≤ sz := h99
              have h100 : tkN ((B 7)) sz 67 (nI at2) = 35 := h100
              obtain rfl : v96 = some (.int (nI at2)) := hw95
              have hO : OKP G h0 a (upd (upd F 2 (nI sz)) 9 (nI (at2 + 1))) (updR R 1 (.ref pq)) Z (updA B 10 f9) J K2 w := hO.to rfl
              refine W.widen (k := (3 + 2 * np)) (n := (120 + 11 * np + 4 * cp2)) (by show (3 + 2 * np) + 0 ≤ (3 + 2 * np); omega) (by show (120 + 11 * np + 4 * cp2) + 0 ≤ (120 + 11 * np + 4 * cp2); omega) ?_
              refine W.eq (g2 := F0 m 205 ls [.int (nI at2)]) rfl ?_
              refine lv_pop hx hb dX8_head_205 rfl ?_
              refine lv_aload hx hb dX8_head_206 (lv_at hl 2 rfl) ?_
              refine W_size (fun hz1 hz2 => ?_)
              refine vx_ret ?_
              have hz101 : WPr G K2 g2 := hwp2
              have hz102 : PgS G K2 g2 (a 1) pq dr ml nd nm cp it (s9 + 3 + ((at2 + 1) - at9)) := (PgS.up hps2 (by omega))
              have hz103 : K2.1 q2 = 3 := hq2
              have hz104 : K2.1 d0 = 4 := hd2
              have hz105 : at9 + 2 ≤ (at2 + 1) ∧ (at2 + 1) ≤ sz := (by omega)
              have hz106 : Onc K2 dr nd q2 := hon2
              have hz107 : PzK G K2 g2 nm it (omx K d0 q2) := hpz2
              have hz108 : MeI G K2 d0 q2 := hme2
              have hz109 : K2.2.1 9 q2 = -1 := h92
              have hz110 : K2.2.1 18 d0 = K.2.1 18 d0 := h18k2
              have hz111 : g2 5 d0 = 0 := hg52
              have hz112 : NwT (B 7) sz (B 10) f9 K K2 at9 (at2 + 1) := (NwT.le htki (by omega))
              have hO : OKP G h0 a (upd (upd F 2 (nI sz)) 9 (nI (at2 + 1))) (updR R 1 (.ref pq)) Z (updA B 10 f9) J K2 w := hO.to rfl
              refine W.widen (k := (2 * (sz - at9) + 10)) (n := (60 * (sz - at9) + 400)) (by omega) (by omega) ?_
              have hzz1 : H.size ≤ s.heap.size + (((at2 + 1) - at9 + 3)) := (by have z : (3 + 2 * np) ≤ ((at2 + 1) - at9 + 3) := (by omega); omega)
              have hzz2 : hSl H ≤ hSl s.heap + ((60 * ((at2 + 1) - at9) + 60)) := (by have z : (120 + 11 * np + 4 * cp2) ≤ (60 * ((at2 + 1) - at9) + 60) := (by omega); omega)
              exact W.aret (v := .ref q2) hx hb hr (Or.inl ⟨_, rfl⟩) (Or.inr ⟨_, rfl⟩) (fun t99 ht99 hW99 => ⟨⟨_, (w, (K2, g2, q2, (at2 + 1), f9)), rfl, ⟨rfl, hz101, hz102, hz103, hz104, hz105, hz106, hz107, hz108, hz109, hz110, hz111, hz112, hO⟩, by rw [ht99]; exact hP, hD, by rw [ht99]; exact hzz1, by rw [ht99]; exact hzz2⟩, hS.F ht99⟩) hS.2.2 dX8_head_208
            · refine lv_aload_n hx hb dX8_head_94 rfl (lv_at hl 6 rfl) ?_
              refine lv_bipush (v := 13) hx hb dX8_head_95 (by decide) ?_
              have hO : OKW G h0 a (upd (upd (upd (upd F 2 (nI sz)) 9 (nI at2)) 2 (nI sz)) 9 (nI at2)) (updR R 1 (.ref pq)) Z (updA B 10 f9) J K2.1 (fun q99 x99 => x99 = rep G a K2 q99) w := hO.to rfl
              obtain ⟨_, qr116, hqr117⟩ := hO.2.1 23 _ (sg_23 G h0 a _ _ _ _ _)
              refine pc_V0 (G := G) (As := [.int 13]) (rest := []) hx hb hml hown hq hE hX pX0_al hP hD hS hA hl.1 (P_sees l G h0 a (upd (upd F 2 (nI sz)) 9 (nI at2)) (updR R 1 (.ref pq)) Z (updA B 10 f9) J K2.1 (fun q99 x99 => x99 = rep G a K2 q99) w 13 at2 sz (by omega) (by omega) hO) (gV pw_803 pw_804 pw_805 pw_796 pw_775) hV_X8_sees qr116 5 hqr117 rfl rfl rfl (Nat.le_of_ble_eq_true rfl) dX8_head_97 ⟨(by show (3 + 2 * np) + 0 ≤ (2 * (sz - at9) + 10); omega), (by show (120 + 11 * np + 4 * cp2) + 0 ≤ (60 * (sz - at9) + 400); omega)⟩ ⟨Nat.le_of_ble_eq_true rfl, Nat.le_of_ble_eq_true rfl⟩ (fun v115 u113 H locs hw114 hP hD hS => ?_)
              obtain ⟨w, r118⟩ := u113
              obtain ⟨hw114, h119, h120, hO⟩ := hw114
              have h119 : r118 ≤ 1 := h119
              have h120 : SeQ ((B 7)) sz at2 13 r118 := h120
              obtain rfl : v115 = some (.int (nI r118)) := hw114
              have hO : OKP G h0 a (upd (upd F 2 (nI sz)) 9 (nI at2)) (updR R 1 (.ref pq)) Z (updA B 10 f9) J K2 w := hO.to rfl
              refine W.widen (k := (3 + 2 * np)) (n := (120 + 11 * np + 4 * cp2)) (by show (3 + 2 * np) + 0 ≤ (3 + 2 * np); omega) (by show (120 + 11 * np + 4 * cp2) + 0 ≤ (120 + 11 * np + 4 * cp2); omega) ?_
              refine W.eq (g2 := F0 m 100 ls [.int (nI r118)]) rfl ?_
              refine lv_if_ne (tgt := 120) hx hb dX8_head_100 (by decide) (fun c121 => ?_) (fun c121 => ?_)
              · have n122 : ¬ (r118 = 0) := fun h9 => c121 ((nI_eq (a := r118) (b := 0) (by omega) (by omega)).mpr h9)
                refine lv_iconst (v := 1) hx hb dX8_head_120 (by decide) ?_
                refine lv_goto (tgt := 125) hx hb dX8_head_121 (by decide) ?_
                refine lv_istore (lv' := [(7, .int 1), (6, .int (nI i2)), (5, .int mo2), (4, .ref q2), (3, .int (nI tk)), (2, .int x1), (1, .ref d0), (0, .ref (a 3))]) hx hb dX8_head_125 hl (by decide) rfl (fun ls hl => ?_)
                refine lv_iload hx hb dX8_head_127 (lv_at hl 0 rfl) ?_
                refine lv_if_eq (tgt := 157) hx hb dX8_head_129 (by decide) (fun c123 => absurd c123 (by decide)) (fun c123 => ?_)
                refine lv_aload hx hb dX8_head_132 (lv_at hl 3 rfl) ?_
                refine p_get (v := .ref f2) (C := RX6) (Tc := TX6) (N := 12) (ci := 12) hx hb hq pin_wsX60 hown hE hP hO (by rw [hq2]; decide) (rep_3 hq2) rfl 4 (by decide) (hq _ pw_881) (fun _ h9 => h9) (congrArg (fun z => some (va_rf z)) hc62) dX8_head_134 ?_
                have hO : OKP G h0 a (upd (upd F 2 (nI sz)) 9 (nI at2)) (updR R 1 (.ref pq)) Z (updA B 10 f9) J K2 w := hO.to rfl
                obtain ⟨qr127, hqr128⟩ := p_recv hO (by rw [ht2]; decide) (rep_5 ht2)
                refine pc_V0 (G := G) (As := []) (rest := []) hx hb hml hown hq hE hX pX0_al hP hD hS hA hl.1 (L_size l G h0 a (upd (upd F 2 (nI sz)) 9 (nI at2)) (updR R 1 (.ref pq)) Z (updA B 10 f9) J K2 w f2 1 np it2 hlc2.ls hO) (gV pw_882 pw_87 pw_88 pw_32 pw_16) hV_Jx4a65c_size_8abf5 qr127 10 hqr128 rfl rfl rfl (Nat.le_of_ble_eq_true rfl) dX8_head_137 ⟨(by show (3 + 2 * np) + 0 ≤ (2 * (sz - at9) + 10); omega), (by show (120 + 11 * np + 4 * cp2) + 0 ≤ (60 * (sz - at9) + 400); omega)⟩ ⟨Nat.le_of_ble_eq_true rfl, Nat.le_of_ble_eq_true rfl⟩ (fun v126 u124 H locs hw125 hP hD hS => ?_)
                obtain ⟨w, _⟩ := u124
                obtain ⟨hw125, hO⟩ := hw125
                obtain rfl : v126 = some (.int (nI np)) := hw125
                have hO : OKP G h0 a (upd (upd F 2 (nI sz)) 9 (nI at2)) (updR R 1 (.ref pq)) Z (updA B 10 f9) J K2 w := hO.to rfl
                refine W.widen (k := (3 + 2 * np)) (n := (120 + 11 * np + 4 * cp2)) (by show (3 + 2 * np) + 0 ≤ (3 + 2 * np); omega) (by show (120 + 11 * np + 4 * cp2) + 0 ≤ (120 + 11 * np + 4 * cp2); omega) ?_
                refine W.eq (g2 := F0 m 140 ls [.int (nI np)]) rfl ?_
                refine lv_bipush (v := 8) hx hb dX8_head_140 (by decide) ?_
                refine lv_icmp_lt (tgt := 157) hx hb dX8_head_142 (by decide) (fun c129 => ?_) (fun c129 => ?_)
                · have n130 : np < 8 := (nI_ltI (a := np) (b := 8) (by omega) (by omega)).mp c129
                  refine lv_aload_n hx hb dX8_head_157 rfl (lv_at hl 7 rfl) ?_
                  refine lv_iconst (v := 1) hx hb dX8_head_158 (by decide) ?_
                  have hO : OKW G h0 a (upd (upd (upd (upd (upd F 2 (nI sz)) 9 (nI at9)) 9 (nI at2)) 2 (nI sz)) 9 (nI at2)) (updR R 1 (.ref pq)) Z (updA B 10 f9) J K2.1 (fun q99 x99 => x99 = rep G a K2 q99) w := hO.to rfl
                  obtain ⟨_, qr134, hqr135⟩ := hO.2.1 23 _ (sg_23 G h0 a _ _ _ _ _)
                  refine pn_V0 (G := G) (As := [.int 1]) (rest := []) hx hb hml hown hq hE hX pX0_al hP hD hS hA hl.1 (P_takeType l G h0 a (upd (upd (upd F 2 (nI sz)) 9 (nI at9)) 9 (nI at2)) (updR R 1 (.ref pq)) Z (updA B 10 f9) J K2.1 (fun q99 x99 => x99 = rep G a K2 q99) w 1 at2 sz (by omega) (by omega) hO hl0) (gV pw_825 pw_826 pw_827 pw_796 pw_821) hV_X8_takeType qr134 5 hqr135 rfl rfl rfl (Nat.le_of_ble_eq_true rfl) dX8_head_159 ⟨(by show (3 + 2 * np) + 1 ≤ (2 * (sz - at9) + 10); omega), (by show (120 + 11 * np + 4 * cp2) + 6 ≤ (60 * (sz - at9) + 400); omega)⟩ ⟨Nat.le_of_ble_eq_true rfl, Nat.le_of_ble_eq_true rfl⟩ (fun v133 u131 H locs hw132 hP hD hS => ?_) (fun ux ce9 q9 H9 locs9 hux hP9 hD9 hS9 hce hcv hcl => pb_out ux (ThQ.up (Thx.same (Thx.same (Thx.b (Thx.f Thx.rfl (by omega)) (by omega) (by decide)) rfl) rfl) RhX.rfl hux) hnt hlocks hce hcv hcl hP9 hD9 hS9 (by show (3 + 2 * np) + 1 ≤ (2 * (sz - at9) + 10); omega) (by show (120 + 11 * np + 4 * cp2) + 6 ≤ (60 * (sz - at9) + 400); omega))
                  obtain ⟨w, at136, f137⟩ := u131
                  obtain ⟨hw132, h138, h139, h140, h141, hO⟩ := hw132
                  have h138 : at2 + 1 ≤ at136 ∧ at136 ≤ sz := h138
                  have h139 : RoS (f9) f137 at2 := h139
                  have h140 : TtQ ((B 7)) sz f137 at2 := h140
                  have h141 : (1 : Int32) = 0 → at136 = at2 + 1 := h141
                  obtain rfl : v133 = some (.int (nI at2)) := hw132
                  have hO : OKP G h0 a (upd (upd F 2 (nI sz)) 9 (nI at136)) (updR R 1 (.ref pq)) Z (updA B 10 f137) J K2 w := hO.to rfl
                  refine W.widen (k := (3 + 2 * np)) (n := (120 + 11 * np + 4 * cp2)) (by show (3 + 2 * np) + 0 ≤ (3 + 2 * np); omega) (by show (120 + 11 * np + 4 * cp2) + 0 ≤ (120 + 11 * np + 4 * cp2); omega) ?_
                  refine W.eq (g2 := F0 m 162 ls [.int (nI at2)]) rfl ?_
                  have htk142 : NwT (B 7) sz (B 10) f137 K K2 at9 at2 := (NwT.role htki h139 (by omega))
                  refine lv_istore (lv' := [(8, .int (nI at2)), (7, .int 1), (6, .int (nI i2)), (5, .int mo2), (4, .ref q2), (3, .int (nI tk)), (2, .int x1), (1, .ref d0), (0, .ref (a 3))]) hx hb dX8_head_162 hl (by decide) rfl (fun ls hl => ?_)
                  refine lv_aload hx hb dX8_head_164 (lv_at hl 4 rfl) ?_
                  refine p_get (v := .ref f2) (C := RX6) (Tc := TX6) (N := 12) (ci := 12) hx hb hq pin_wsX60 hown hE hP hO (by rw [hq2]; decide) (rep_3 hq2) rfl 4 (by decide) (hq _ pw_881) (fun _ h9 => h9) (congrArg (fun z => some (va_rf z)) hc62) dX8_head_166 ?_
                  refine lv_aload_n hx hb dX8_head_169 rfl (lv_at hl 8 rfl) ?_
                  refine lv_iload hx hb dX8_head_170 (lv_at hl 0 rfl) ?_
                  refine lv_aload_n hx hb dX8_head_172 rfl (lv_at hl 8 rfl) ?_
                  refine lv_bipush (v := 65) hx hb dX8_head_173 (by decide) ?_
                  have hO : OKW G h0 a (upd (upd (upd (upd (upd F 2 (nI sz)) 9 (nI at9)) 9 (nI at136)) 2 (nI sz)) 9 (nI at136)) (updR R 1 (.ref pq)) Z (updA B 10 f137) J K2.1 (fun q99 x99 => x99 = rep G a K2 q99) w := hO.to rfl
                  obtain ⟨_, qr146, hqr147⟩ := hO.2.1 23 _ (sg_23 G h0 a _ _ _ _ _)
                  refine pn_V0 (G := G) (As := [.int 65]) (rest := [.int (nI at2), .ref (a 3), .ref f2]) hx hb hml hown hq hE hX pX0_al hP hD hS hA hl.1 (P_take l G h0 a (upd (upd (upd F 2 (nI sz)) 9 (nI at9)) 9 (nI at136)) (updR R 1 (.ref pq)) Z (updA B 10 f137) J K2.1 (fun q99 x99 => x99 = rep G a K2 q99) w 65 at136 sz (by omega) (by omega) (by decide) hO hl0) (gV pw_793 pw_794 pw_795 pw_796 pw_781) hV_X8_take qr146 5 hqr147 rfl rfl rfl (Nat.le_of_ble_eq_true rfl) dX8_head_175 ⟨(by show (3 + 2 * np) + 1 ≤ (2 * (sz - at9) + 10); omega), (by show (120 + 11 * np + 4 * cp2) + 6 ≤ (60 * (sz - at9) + 400); omega)⟩ ⟨Nat.le_of_ble_eq_true rfl, Nat.le_of_ble_eq_true rfl⟩ (fun v145 u143 H locs hw144 hP hD hS => ?_) (fun ux ce9 q9 H9 locs9 hux hP9 hD9 hS9 hce hcv hcl => pb_out ux (ThQ.up (Thx.same (Thx.same (Thx.b (Thx.f Thx.rfl (by omega)) (by omega) (by decide)) rfl) rfl) RhX.rfl hux) hnt hlocks hce hcv hcl hP9 hD9 hS9 (by show (3 + 2 * np) + 1 ≤ (2 * (sz - at9) + 10); omega) (by show (120 + 11 * np + 4 * cp2) + 6 ≤ (60 * (sz - at9) + 400); omega))
                  obtain ⟨w, _⟩ := u143
                  obtain ⟨hw144, h148, h149, hO⟩ := hw144
                  have h148 : at136 + 1 ≤ sz := h148
                  have h149 : tkN ((B 7)) sz 67 (nI at136) = 65 := h149
                  obtain rfl : v145 = some (.int (nI at136)) := hw144
                  have hO : OKP G h0 a (upd (upd F 2 (nI sz)) 9 (nI (at136 + 1))) (updR R 1 (.ref pq)) Z (updA B 10 f137) J K2 w := hO.to rfl
                  refine W.widen (k := (3 + 2 * np)) (n := (120 + 11 * np + 4 * cp2)) (by show (3 + 2 * np) + 0 ≤ (3 + 2 * np); omega) (by show (120 + 11 * np + 4 * cp2) + 0 ≤ (120 + 11 * np + 4 * cp2); omega) ?_
                  refine W.eq (g2 := F0 m 178 ls [.int (nI at136), .int (nI at2), .ref (a 3), .ref f2]) rfl ?_
                  have hO : OKP G h0 a (upd (upd (upd F 2 (nI sz)) 9 (nI (at136 + 1))) 2 (nI sz)) (updR R 1 (.ref pq)) Z (updA B 10 f137) J K2 w := hO.to rfl
                  obtain ⟨_, qr153, hqr154⟩ := hO.2.1 23 _ (sg_23 G h0 a _ _ _ _ _)
                  refine pc_V0 (G := G) (As := [.int (nI at2), .int (nI at136)]) (rest := [.ref f2]) hx hb hml hown hq hE hX pX0_al hP hD hS hA hl.1 (P_variable l G h0 a (upd (upd F 2 (nI sz)) 9 (nI (at136 + 1))) (updR R 1 (.ref pq)) Z (updA B 10 f137) J K2 w (nI at2) (nI at136) sz 0 (rK 0 1 0 0 0 0) g2 (by omega) hwp2.1 (fun o9 h9 => absurd h9 (by omega)) (Itv.of (by omega)) hO) (gV pw_888 pw_889 pw_890 pw_796 pw_869) hV_X8_variable qr153 5 hqr154 rfl rfl rfl (Nat.le_of_ble_eq_true rfl) dX8_head_178 ⟨(by show (3 + 2 * np) + 1 ≤ (2 * (sz - at9) + 10); omega), (by show (120 + 11 * np + 4 * cp2) + 11 ≤ (60 * (sz - at9) + 400); omega)⟩ ⟨Nat.le_of_ble_eq_true rfl, Nat.le_of_ble_eq_true rfl⟩ (fun v152 u150 H locs hw151 hP hD hS => ?_)
                  obtain ⟨w, r155, K156, g157⟩ := u150
                  obtain ⟨hw151, h158, h159, h160, hO⟩ := hw151
                  have h158 : NwR K2 K156 g2 g157 r155 0 (rK 0 1 0 0 0 0) 1 := h158
                  have h159 : K156.2.1 0 r155 = 36 := h159
                  have h160 : VaT K2 K156 := h160
                  obtain rfl : v152 = some (.ref r155) := hw151
                  have hf161 : K156.1 q2 = 3 := (((h158).2.1.1 q2 (by rw [hq2]; decide)).1).trans hq2
                  have hf162 : K156.1 d0 = 4 := (((h158).2.1.1 d0 (by rw [hd2]; decide)).1).trans hd2
                  have hf163 : K156.1 f2 = 5 := (((h158).2.1.1 f2 (by rw [ht2]; decide)).1).trans ht2
                  have hf164 : K156.2.2.1 6 q2 = some f2 := (((h158).2.1.1 q2 (by rw [hq2]; decide)).2.2.1 6).trans hc62
                  have hO : OKP G h0 a (upd (upd F 2 (nI sz)) 9 (nI (at136 + 1))) (updR R 1 (.ref pq)) Z (updA B 10 f137) J K156 w := hO.to rfl
                  refine W.widen (k := ((3 + 2 * np) + 1)) (n := ((120 + 11 * np + 4 * cp2) + 11)) (by show (3 + 2 * np) + 1 ≤ ((3 + 2 * np) + 1); omega) (by show (120 + 11 * np + 4 * cp2) + 11 ≤ ((120 + 11 * np + 4 * cp2) + 11); omega) ?_
                  refine W.eq (g2 := F0 m 181 ls [.ref r155, .ref f2]) rfl ?_
                  have htk165 : NwT (B 7) sz (B 10) f137 K K156 at9 (at136 + 1) := (NwT.call (NwT.le htk142 (show _ ≤ (at136 + 1) by omega)) (h160 (B 7) f137 sz (at136 + 1)) (Nat.le_refl _))
                  have hwp166 := WPr.nd hwp2 h158
                  have hps167 := PgS.nd hps2 hwp2 h158
                  have hf168 : K156.1 r155 = 1 := h158.2.2.1.2.1
                  have hpz169 := PzK.nds hpz2 hwp2 h158.2.1 h158.new1
                  have hlc170 : LsC G K156 f2 1 np it2 cp2 := (LsC.wx (fun p hp => (h158.2.1.1 p hp).1) (by decide) (h158.2.1.1 f2 (by rw [ht2]; decide)) (fun e he _ => h158.2.1.1 e (by rw [he]; decide)) hlc2)
                  have hO : OKP G h0 a (upd (upd (upd F 2 (nI sz)) 9 (nI at9)) 9 (nI (at136 + 1))) (updR R 1 (.ref pq)) Z (updA B 10 f137) J K156 w := hO.to rfl
                  obtain ⟨qr174, hqr175⟩ := p_recv hO (by rw [hf163]; decide) (rep_5 hf163)
                  refine pn_V0 (G := G) (As := [.ref r155]) (rest := []) hx hb hml hown hq hE hX pX0_al hP hD hS hA hl.1 (L_addC l G h0 a (upd (upd (upd F 2 (nI sz)) 9 (nI at9)) 9 (nI (at136 + 1))) (updR R 1 (.ref pq)) Z (updA B 10 f137) J K156 w f2 1 np it2 cp2 r155 hlc170 (by decide) hf168 (by omega) (by omega) hO hl0) (gV pw_885 pw_886 pw_887 pw_32 pw_868) hV_Jx4a65c_add_9ea2d qr174 10 hqr175 rfl rfl rfl (Nat.le_of_ble_eq_true rfl) dX8_head_181 ⟨(by show ((3 + 2 * np) + 1) + 1 ≤ (2 * (sz - at9) + 10); omega), (by show ((120 + 11 * np + 4 * cp2) + 11) + (10 + np + np / 2) ≤ (60 * (sz - at9) + 400); omega)⟩ ⟨Nat.le_of_ble_eq_true rfl, Nat.le_of_ble_eq_true rfl⟩ (fun v173 u171 H locs hw172 hP hD hS => ?_) (fun ux ce9 q9 H9 locs9 hux hP9 hD9 hS9 hce hcv hcl => pb_out ux (ThQ.up (Thx.b (Thx.f Thx.rfl (by omega)) (by omega) (by decide)) RhX.rfl hux) hnt hlocks hce hcv hcl hP9 hD9 hS9 (by show ((3 + 2 * np) + 1) + 1 ≤ (2 * (sz - at9) + 10); omega) (by show ((120 + 11 * np + 4 * cp2) + 11) + (10 + np + np / 2) ≤ (60 * (sz - at9) + 400); omega))
                  obtain ⟨w, K176, d177⟩ := u171
                  obtain ⟨hw172, h178, h179, h180, h181, h182, hO⟩ := hw172
                  have h178 : LsC G K176 f2 1 (np + 1) (upQ it2 np r155) (cp2 + d177) := h178
                  have h179 : AdQ K156 K176 f2 := h179
                  have h180 : N6 K156 K176 := h180
                  have h181 : cp2 + d177 ≤ 10 + 2 * (np + 1) := h181
                  have h182 : d177 ≤ 10 + np / 2 := h182
                  obtain rfl : v173 = some (.int 1) := hw172
                  have hO : OKP G h0 a (upd (upd F 2 (nI sz)) 9 (nI (at136 + 1))) (updR R 1 (.ref pq)) Z (updA B 10 f137) J K176 w := hO.to rfl
                  refine W.widen (k := (((3 + 2 * np) + 1) + 1)) (n := (((120 + 11 * np + 4 * cp2) + 11) + (4 * d177))) (by show ((3 + 2 * np) + 1) + 1 ≤ (((3 + 2 * np) + 1) + 1); omega) (by show ((120 + 11 * np + 4 * cp2) + 11) + (4 * d177) ≤ (((120 + 11 * np + 4 * cp2) + 11) + (4 * d177)); omega) ?_
                  refine W.eq (g2 := F0 m 184 ls [.int 1]) rfl ?_
                  have htk183 : NwT (B 7) sz (B 10) f137 K K176 at9 (at136 + 1) := (NwT.ad htk165 h179 h180 hf163)
                  have hg184 : g157 3 f2 = 3 := (h158.2.1.2 f2 (by rw [ht2]; decide) 3).trans hr2
                  have hwp185 : WPr G K176 g157 := WPr.add hwp166 h179 h180 hf163 (by rw [hg184]; exact h178) (by rw [hg184]; show _ ≤ 5000 ∧ _; omega)
                  have hps186 : PgS G K176 g157 (a 1) pq dr ml nd nm cp it s2 := by have z9 := PgS.add hps167 hwp166 h179 h180 hf163 (fun z => by have z2 := hg184; rw [z, hps167.1.2.2.2.2.2.2.1] at z2; exact absurd z2 (by decide)) (by rw [szL_of h178, szL_of hlc170]) (by rw [hg184]; decide) (by rw [hg184]; decide) (fun z => by rw [hg184] at z; exact absurd z (by decide)); rw [hg184] at z9; exact z9
                  have hf187 : K176.1 q2 = 3 := (h179.1 q2 (by rw [hf161]; decide)).1.trans hf161
                  have hf188 : K176.1 d0 = 4 := (h179.1 d0 (by rw [hf162]; decide)).1.trans hf162
                  have hf189 : K176.1 f2 = 5 := (h179.1 f2 (by rw [hf163]; decide)).1.trans hf163
                  have hf190 : K176.1 r155 = 1 := (h179.1 r155 (by rw [hf168]; decide)).1.trans hf168
                  have hon9 : Onc K176 dr nd q2 := Onc.add (Onc.ext hon2 hps2.2.1 hwp2 hps2.1.2.2.2.1 h158.2.1.1) hps167.2.1 hwp166 hps167.1.2.2.2.1 h179 hf163 (by rw [hg184]; decide)
                  have hpzP := PzK.addP hpz169 hwp166 h179 h180 ((h158.2.1.1 q2 (by rw [hq2]; decide)).1.trans hq2) (((h158.2.1.1 q2 (by rw [hq2]; decide)).2.2.1 6).trans hc62) h178 (by omega)
                  have hmeP := MeI.ad (MeI.sm hme2 hd2 h158.2.1.1) hwp166 ((h158.2.1.1 d0 (by rw [hd2]; decide)).1.trans hd2) h179 hf163 (by rw [hg184]; decide)
                  have h9P : K176.2.1 9 q2 = -1 := ((AdQ.sm h179 (p := q2) (by rw [((h158.2.1.1 q2 (by rw [hq2]; decide)).1.trans hq2)]; decide) (fun z => by have z2 := ((h158.2.1.1 q2 (by rw [hq2]; decide)).1.trans hq2); rw [z, hf163] at z2; exact absurd z2 (by decide)) (by rw [((h158.2.1.1 q2 (by rw [hq2]; decide)).1.trans hq2)]; decide)).2.1 9).trans (((h158.2.1.1 q2 (by rw [hq2]; decide)).2.1 9).trans h92)
                  have h18P : K176.2.1 18 d0 = K.2.1 18 d0 := ((AdQ.sm h179 (p := d0) (by rw [((h158.2.1.1 d0 (by rw [hd2]; decide)).1.trans hd2)]; decide) (fun z => by have z2 := ((h158.2.1.1 d0 (by rw [hd2]; decide)).1.trans hd2); rw [z, hf163] at z2; exact absurd z2 (by decide)) (by rw [((h158.2.1.1 d0 (by rw [hd2]; decide)).1.trans hd2)]; decide)).2.1 18).trans (((h158.2.1.1 d0 (by rw [hd2]; decide)).2.1 18).trans h18k2)
                  have hg5P : g157 5 d0 = 0 := (h158.2.1.2 d0 (by rw [hd2]; decide) 5).trans hg52
                  refine lv_pop hx hb dX8_head_184 rfl ?_
                  refine lv_aload_n hx hb dX8_head_185 rfl (lv_at hl 8 rfl) ?_
                  refine lv_bipush (v := 39) hx hb dX8_head_186 (by decide) ?_
                  have hO : OKW G h0 a (upd (upd (upd (upd F 2 (nI sz)) 9 (nI (at136 + 1))) 2 (nI sz)) 9 (nI (at136 + 1))) (updR R 1 (.ref pq)) Z (updA B 10 f137) J K176.1 (fun q99 x99 => x99 = rep G a K176 q99) w := hO.to rfl
                  obtain ⟨_, qr194, hqr195⟩ := hO.2.1 23 _ (sg_23 G h0 a _ _ _ _ _)
                  refine pc_V0 (G := G) (As := [.int 39]) (rest := []) hx hb hml hown hq hE hX pX0_al hP hD hS hA hl.1 (P_takeIf l G h0 a (upd (upd F 2 (nI sz)) 9 (nI (at136 + 1))) (updR R 1 (.ref pq)) Z (updA B 10 f137) J K176.1 (fun q99 x99 => x99 = rep G a K176 q99) w 39 (at136 + 1) sz (by omega) (by omega) (by decide) hO) (gV pw_797 pw_798 pw_799 pw_796 pw_789) hV_X8_takeIf qr194 5 hqr195 rfl rfl rfl (Nat.le_of_ble_eq_true rfl) dX8_head_188 ⟨(by show (((3 + 2 * np) + 1) + 1) + 0 ≤ (2 * (sz - at9) + 10); omega), (by show (((120 + 11 * np + 4 * cp2) + 11) + (4 * d177)) + 0 ≤ (60 * (sz - at9) + 400); omega)⟩ ⟨Nat.le_of_ble_eq_true rfl, Nat.le_of_ble_eq_true rfl⟩ (fun v193 u191 H locs hw192 hP hD hS => ?_)
                  obtain ⟨w, r196⟩ := u191
                  obtain ⟨hw192, h197, h198, h199, hO⟩ := hw192
                  have h197 : r196 ≤ 1 := h197
                  have h198 : (at136 + 1) + r196 ≤ sz := h198
                  have h199 : SeQ ((B 7)) sz (at136 + 1) 39 r196 := h199
                  obtain rfl : v193 = some (.int (nI r196)) := hw192
                  have hO : OKP G h0 a (upd (upd F 2 (nI sz)) 9 (nI ((at136 + 1) + r196))) (updR R 1 (.ref pq)) Z (updA B 10 f137) J K176 w := hO.to rfl
                  refine W.widen (k := (((3 + 2 * np) + 1) + 1)) (n := (((120 + 11 * np + 4 * cp2) + 11) + (4 * d177))) (by show (((3 + 2 * np) + 1) + 1) + 0 ≤ (((3 + 2 * np) + 1) + 1); omega) (by show (((120 + 11 * np + 4 * cp2) + 11) + (4 * d177)) + 0 ≤ (((120 + 11 * np + 4 * cp2) + 11) + (4 * d177)); omega) ?_
                  refine W.eq (g2 := F0 m 191 ls [.int (nI r196)]) rfl ?_
                  refine lv_istore (lv' := [(5, .int (nI r196)), (8, .int (nI at2)), (7, .int 1), (6, .int (nI i2)), (4, .ref q2), (3, .int (nI tk)), (2, .int x1), (1, .ref d0), (0, .ref (a 3))]) hx hb dX8_head_191 hl (by decide) rfl (fun ls hl => ?_)
                  refine lv_iinc (v := (nI (i2 + 1))) (lv' := [(6, .int (nI (i2 + 1))), (5, .int (nI r196)), (8, .int (nI at2)), (7, .int 1), (4, .ref q2), (3, .int (nI tk)), (2, .int x1), (1, .ref d0), (0, .ref (a 3))]) hx hb dX8_head_193 hl (k := 3) rfl (nI_1 i2) (by decide) rfl (fun ls hl => ?_)
                  refine lv_goto (tgt := 77) hx hb dX8_head_196 (by decide) ?_
                  refine W.widen (k := (3 + 2 * (np + 1))) (n := (120 + 11 * (np + 1) + 4 * (cp2 + d177))) (by show (((3 + 2 * np) + 1) + 1) ≤ _; omega) (by show (((120 + 11 * np + 4 * cp2) + 11) + (4 * d177)) ≤ _; omega) ?_
                  have hO : OKP G h0 a (upd (upd F 2 (nI sz)) 9 (nI ((at136 + 1) + r196))) (updR R 1 (.ref pq)) Z (updA B 10 f137) J K176 w := hO.to rfl
                  exact ih_i (i2 + 1) ((at136 + 1) + r196) f137 (nI r196) K176 g157 q2 f2 (np + 1) (cp2 + d177) (upQ it2 np r155) s2 _ _ _ _ (by omega) (by omega) (by omega) hwp185 hps186 (by omega) hf187 hf188 (((AdQ.sm h179 (by rw [hf161]; decide) (fun z => by have z2 := hf161; rw [z, hf163] at z2; exact absurd z2 (by decide)) (by rw [hf161]; decide)).2.2.1 6).trans ((h158.2.1.1 q2 (by rw [hq2]; decide)).2.2.1 6 |>.trans hc62)) hg184 h178 (by omega) hon9 hpzP hmeP h9P h18P hg5P (NwT.le htk183 (by omega)) hP hD hS hO (lv_sub hl [0, 1, 4, 5, 6, 7, 8] rfl)
                · have n200 : ¬ (np < 8) := fun h9 => c129 ((nI_ltI (a := np) (b := 8) (by omega) (by omega)).mpr h9)
                  refine lv_aload_n hx hb dX8_head_145 rfl (lv_at hl 7 rfl) ?_
                  refine c_get (v := .ref (a 1)) (C := RX8) (Tc := TX8) (N := 5) (ci := 5) hx hb hq pin_wsX80 hown hE hP hO 23 (sg_23 G h0 a _ _ _ _ _) rfl 0 (by decide) (hq _ pw_774) (fun _ h9 => h9) rfl dX8_head_146 ?_
                  refine lv_iconst (v := 2) hx hb dX8_head_149 (by decide) ?_
                  refine lv_aload_n hx hb dX8_head_150 rfl (lv_at hl 7 rfl) ?_
                  refine c_get (v := .int (nI at2)) (C := RX8) (Tc := TX8) (N := 5) (ci := 5) hx hb hq pin_wsX80 hown hE hP hO 23 (sg_23 G h0 a _ _ _ _ _) rfl 2 (by decide) (hq _ pw_776) (fun _ h9 => h9) rfl dX8_head_151 ?_
                  have hO : OKW G h0 a (upd (upd (upd (upd F 2 (nI sz)) 9 (nI at9)) 9 (nI at2)) 2 (nI sz)) (updR R 1 (.ref pq)) Z (updA B 10 f9) J K2.1 (fun q99 x99 => x99 = rep G a K2 q99) w := hO.to rfl
                  obtain ⟨_, qr204, hqr205⟩ := hO.2.1 2 _ (sg_2 G h0 a _ _ _ _ _)
                  refine pn_V0 (G := G) (As := [.int 2, .int (nI at2)]) (rest := []) hx hb hml hown hq hE hX pX0_al hP hD hS hA hl.1 (K_fail l G h0 a (upd (upd (upd F 2 (nI sz)) 9 (nI at9)) 9 (nI at2)) (updR R 1 (.ref pq)) Z (updA B 10 f9) J K2.1 (fun q99 x99 => x99 = rep G a K2 q99) w 2 (nI at2) sz (by omega) hO hl0) (gV pw_779 pw_65 pw_66 pw_59 pw_43) hV_X10_fail qr204 7 hqr205 rfl rfl rfl (Nat.le_of_ble_eq_true rfl) dX8_head_154 ⟨(by show (3 + 2 * np) + 1 ≤ (2 * (sz - at9) + 10); omega), (by show (120 + 11 * np + 4 * cp2) + 6 ≤ (60 * (sz - at9) + 400); omega)⟩ ⟨Nat.le_of_ble_eq_true rfl, Nat.le_of_ble_eq_true rfl⟩ (fun v203 u201 H locs hw202 hP hD hS => hw202.elim) (fun ux ce9 q9 H9 locs9 hux hP9 hD9 hS9 hce hcv hcl => pb_out ux (ThQ.up (Thx.same (Thx.b (Thx.f Thx.rfl (by omega)) (by omega) (by decide)) rfl) RhX.rfl hux) hnt hlocks hce hcv hcl hP9 hD9 hS9 (by show (3 + 2 * np) + 1 ≤ (2 * (sz - at9) + 10); omega) (by show (120 + 11 * np + 4 * cp2) + 6 ≤ (60 * (sz - at9) + 400); omega))
              · have n206 : r118 = 0 := (nI_eq (a := r118) (b := 0) (by omega) (by omega)).mp c121
                refine lv_aload_n hx hb dX8_head_103 rfl (lv_at hl 6 rfl) ?_
                refine lv_iconst (v := 1) hx hb dX8_head_104 (by decide) ?_
                have hO : OKW G h0 a (upd (upd (upd (upd F 2 (nI sz)) 9 (nI at2)) 2 (nI sz)) 9 (nI at2)) (updR R 1 (.ref pq)) Z (updA B 10 f9) J K2.1 (fun q99 x99 => x99 = rep G a K2 q99) w := hO.to rfl
                obtain ⟨_, qr210, hqr211⟩ := hO.2.1 23 _ (sg_23 G h0 a _ _ _ _ _)
                refine pc_V0 (G := G) (As := [.int 1]) (rest := []) hx hb hml hown hq hE hX pX0_al hP hD hS hA hl.1 (P_sees l G h0 a (upd (upd F 2 (nI sz)) 9 (nI at2)) (updR R 1 (.ref pq)) Z (updA B 10 f9) J K2.1 (fun q99 x99 => x99 = rep G a K2 q99) w 1 at2 sz (by omega) (by omega) hO) (gV pw_803 pw_804 pw_805 pw_796 pw_775) hV_X8_sees qr210 5 hqr211 rfl rfl rfl (Nat.le_of_ble_eq_true rfl) dX8_head_105 ⟨(by show (3 + 2 * np) + 0 ≤ (2 * (sz - at9) + 10); omega), (by show (120 + 11 * np + 4 * cp2) + 0 ≤ (60 * (sz - at9) + 400); omega)⟩ ⟨Nat.le_of_ble_eq_true rfl, Nat.le_of_ble_eq_true rfl⟩ (fun v209 u207 H locs hw208 hP hD hS => ?_)
                obtain ⟨w, r212⟩ := u207
                obtain ⟨hw208, h213, h214, hO⟩ := hw208
                have h213 : r212 ≤ 1 := h213
                have h214 : SeQ ((B 7)) sz at2 1 r212 := h214
                obtain rfl : v209 = some (.int (nI r212)) := hw208
                have hO : OKP G h0 a (upd (upd F 2 (nI sz)) 9 (nI at2)) (updR R 1 (.ref pq)) Z (updA B 10 f9) J K2 w := hO.to rfl
                refine W.widen (k := (3 + 2 * np)) (n := (120 + 11 * np + 4 * cp2)) (by show (3 + 2 * np) + 0 ≤ (3 + 2 * np); omega) (by show (120 + 11 * np + 4 * cp2) + 0 ≤ (120 + 11 * np + 4 * cp2); omega) ?_
                refine W.eq (g2 := F0 m 108 ls [.int (nI r212)]) rfl ?_
                refine lv_if_ne (tgt := 120) hx hb dX8_head_108 (by decide) (fun c215 => ?_) (fun c215 => ?_)
                · have n216 : ¬ (r212 = 0) := fun h9 => c215 ((nI_eq (a := r212) (b := 0) (by omega) (by omega)).mpr h9)
                  refine lv_iconst (v := 1) hx hb dX8_head_120 (by decide) ?_
                  refine lv_goto (tgt := 125) hx hb dX8_head_121 (by decide) ?_
                  refine lv_istore (lv' := [(7, .int 1), (6, .int (nI i2)), (5, .int mo2), (4, .ref q2), (3, .int (nI tk)), (2, .int x1), (1, .ref d0), (0, .ref (a 3))]) hx hb dX8_head_125 hl (by decide) rfl (fun ls hl => ?_)
                  refine lv_iload hx hb dX8_head_127 (lv_at hl 0 rfl) ?_
                  refine lv_if_eq (tgt := 157) hx hb dX8_head_129 (by decide) (fun c217 => absurd c217 (by decide)) (fun c217 => ?_)
                  refine lv_aload hx hb dX8_head_132 (lv_at hl 3 rfl) ?_
                  refine p_get (v := .ref f2) (C := RX6) (Tc := TX6) (N := 12) (ci := 12) hx hb hq pin_wsX60 hown hE hP hO (by rw [hq2]; decide) (rep_3 hq2) rfl 4 (by decide) (hq _ pw_881) (fun _ h9 => h9) (congrArg (fun z => some (va_rf z)) hc62) dX8_head_134 ?_
                  have hO : OKP G h0 a (upd (upd F 2 (nI sz)) 9 (nI at2)) (updR R 1 (.ref pq)) Z (updA B 10 f9) J K2 w := hO.to rfl
                  obtain ⟨qr221, hqr222⟩ := p_recv hO (by rw [ht2]; decide) (rep_5 ht2)
                  refine pc_V0 (G := G) (As := []) (rest := []) hx hb hml hown hq hE hX pX0_al hP hD hS hA hl.1 (L_size l G h0 a (upd (upd F 2 (nI sz)) 9 (nI at2)) (updR R 1 (.ref pq)) Z (updA B 10 f9) J K2 w f2 1 np it2 hlc2.ls hO) (gV pw_882 pw_87 pw_88 pw_32 pw_16) hV_Jx4a65c_size_8abf5 qr221 10 hqr222 rfl rfl rfl (Nat.le_of_ble_eq_true rfl) dX8_head_137 ⟨(by show (3 + 2 * np) + 0 ≤ (2 * (sz - at9) + 10); omega), (by show (120 + 11 * np + 4 * cp2) + 0 ≤ (60 * (sz - at9) + 400); omega)⟩ ⟨Nat.le_of_ble_eq_true rfl, Nat.le_of_ble_eq_true rfl⟩ (fun v220 u218 H locs hw219 hP hD hS => ?_)
                  obtain ⟨w, _⟩ := u218
                  obtain ⟨hw219, hO⟩ := hw219
                  obtain rfl : v220 = some (.int (nI np)) := hw219
                  have hO : OKP G h0 a (upd (upd F 2 (nI sz)) 9 (nI at2)) (updR R 1 (.ref pq)) Z (updA B 10 f9) J K2 w := hO.to rfl
                  refine W.widen (k := (3 + 2 * np)) (n := (120 + 11 * np + 4 * cp2)) (by show (3 + 2 * np) + 0 ≤ (3 + 2 * np); omega) (by show (120 + 11 * np + 4 * cp2) + 0 ≤ (120 + 11 * np + 4 * cp2); omega) ?_
                  refine W.eq (g2 := F0 m 140 ls [.int (nI np)]) rfl ?_
                  refine lv_bipush (v := 8) hx hb dX8_head_140 (by decide) ?_
                  refine lv_icmp_lt (tgt := 157) hx hb dX8_head_142 (by decide) (fun c223 => ?_) (fun c223 => ?_)
                  · have n224 : np < 8 := (nI_ltI (a := np) (b := 8) (by omega) (by omega)).mp c223
                    refine lv_aload_n hx hb dX8_head_157 rfl (lv_at hl 7 rfl) ?_
                    refine lv_iconst (v := 1) hx hb dX8_head_158 (by decide) ?_
                    have hO : OKW G h0 a (upd (upd (upd (upd (upd F 2 (nI sz)) 9 (nI at9)) 9 (nI at2)) 2 (nI sz)) 9 (nI at2)) (updR R 1 (.ref pq)) Z (updA B 10 f9) J K2.1 (fun q99 x99 => x99 = rep G a K2 q99) w := hO.to rfl
                    obtain ⟨_, qr228, hqr229⟩ := hO.2.1 23 _ (sg_23 G h0 a _ _ _ _ _)
                    refine pn_V0 (G := G) (As := [.int 1]) (rest := []) hx hb hml hown hq hE hX pX0_al hP hD hS hA hl.1 (P_takeType l G h0 a (upd (upd (upd F 2 (nI sz)) 9 (nI at9)) 9 (nI at2)) (updR R 1 (.ref pq)) Z (updA B 10 f9) J K2.1 (fun q99 x99 => x99 = rep G a K2 q99) w 1 at2 sz (by omega) (by omega) hO hl0) (gV pw_825 pw_826 pw_827 pw_796 pw_821) hV_X8_takeType qr228 5 hqr229 rfl rfl rfl (Nat.le_of_ble_eq_true rfl) dX8_head_159 ⟨(by show (3 + 2 * np) + 1 ≤ (2 * (sz - at9) + 10); omega), (by show (120 + 11 * np + 4 * cp2) + 6 ≤ (60 * (sz - at9) + 400); omega)⟩ ⟨Nat.le_of_ble_eq_true rfl, Nat.le_of_ble_eq_true rfl⟩ (fun v227 u225 H locs hw226 hP hD hS => ?_) (fun ux ce9 q9 H9 locs9 hux hP9 hD9 hS9 hce hcv hcl => pb_out ux (ThQ.up (Thx.same (Thx.same (Thx.b (Thx.f Thx.rfl (by omega)) (by omega) (by decide)) rfl) rfl) RhX.rfl hux) hnt hlocks hce hcv hcl hP9 hD9 hS9 (by show (3 + 2 * np) + 1 ≤ (2 * (sz - at9) + 10); omega) (by show (120 + 11 * np + 4 * cp2) + 6 ≤ (60 * (sz - at9) + 400); omega))
                    obtain ⟨w, at230, f231⟩ := u225
                    obtain ⟨hw226, h232, h233, h234, h235, hO⟩ := hw226
                    have h232 : at2 + 1 ≤ at230 ∧ at230 ≤ sz := h232
                    have h233 : RoS (f9) f231 at2 := h233
                    have h234 : TtQ ((B 7)) sz f231 at2 := h234
                    have h235 : (1 : Int32) = 0 → at230 = at2 + 1 := h235
                    obtain rfl : v227 = some (.int (nI at2)) := hw226
                    have hO : OKP G h0 a (upd (upd F 2 (nI sz)) 9 (nI at230)) (updR R 1 (.ref pq)) Z (updA B 10 f231) J K2 w := hO.to rfl
                    refine W.widen (k := (3 + 2 * np)) (n := (120 + 11 * np + 4 * cp2)) (by show (3 + 2 * np) + 0 ≤ (3 + 2 * np); omega) (by show (120 + 11 * np + 4 * cp2) + 0 ≤ (120 + 11 * np + 4 * cp2); omega) ?_
                    refine W.eq (g2 := F0 m 162 ls [.int (nI at2)]) rfl ?_
                    have htk236 : NwT (B 7) sz (B 10) f231 K K2 at9 at2 := (NwT.role htki h233 (by omega))
                    refine lv_istore (lv' := [(8, .int (nI at2)), (7, .int 1), (6, .int (nI i2)), (5, .int mo2), (4, .ref q2), (3, .int (nI tk)), (2, .int x1), (1, .ref d0), (0, .ref (a 3))]) hx hb dX8_head_162 hl (by decide) rfl (fun ls hl => ?_)
                    refine lv_aload hx hb dX8_head_164 (lv_at hl 4 rfl) ?_
                    refine p_get (v := .ref f2) (C := RX6) (Tc := TX6) (N := 12) (ci := 12) hx hb hq pin_wsX60 hown hE hP hO (by rw [hq2]; decide) (rep_3 hq2) rfl 4 (by decide) (hq _ pw_881) (fun _ h9 => h9) (congrArg (fun z => some (va_rf z)) hc62) dX8_head_166 ?_
                    refine lv_aload_n hx hb dX8_head_169 rfl (lv_at hl 8 rfl) ?_
                    refine lv_iload hx hb dX8_head_170 (lv_at hl 0 rfl) ?_
                    refine lv_aload_n hx hb dX8_head_172 rfl (lv_at hl 8 rfl) ?_
                    refine lv_bipush (v := 65) hx hb dX8_head_173 (by decide) ?_
                    have hO : OKW G h0 a (upd (upd (upd (upd (upd F 2 (nI sz)) 9 (nI at9)) 9 (nI at230)) 2 (nI sz)) 9 (nI at230)) (updR R 1 (.ref pq)) Z (updA B 10 f231) J K2.1 (fun q99 x99 => x99 = rep G a K2 q99) w := hO.to rfl
                    obtain ⟨_, qr240, hqr241⟩ := hO.2.1 23 _ (sg_23 G h0 a _ _ _ _ _)
                    refine pn_V0 (G := G) (As := [.int 65]) (rest := [.int (nI at2), .ref (a 3), .ref f2]) hx hb hml hown hq hE hX pX0_al hP hD hS hA hl.1 (P_take l G h0 a (upd (upd (upd F 2 (nI sz)) 9 (nI at9)) 9 (nI at230)) (updR R 1 (.ref pq)) Z (updA B 10 f231) J K2.1 (fun q99 x99 => x99 = rep G a K2 q99) w 65 at230 sz (by omega) (by omega) (by decide) hO hl0) (gV pw_793 pw_794 pw_795 pw_796 pw_781) hV_X8_take qr240 5 hqr241 rfl rfl rfl (Nat.le_of_ble_eq_true rfl) dX8_head_175 ⟨(by show (3 + 2 * np) + 1 ≤ (2 * (sz - at9) + 10); omega), (by show (120 + 11 * np + 4 * cp2) + 6 ≤ (60 * (sz - at9) + 400); omega)⟩ ⟨Nat.le_of_ble_eq_true rfl, Nat.le_of_ble_eq_true rfl⟩ (fun v239 u237 H locs hw238 hP hD hS => ?_) (fun ux ce9 q9 H9 locs9 hux hP9 hD9 hS9 hce hcv hcl => pb_out ux (ThQ.up (Thx.same (Thx.same (Thx.b (Thx.f Thx.rfl (by omega)) (by omega) (by decide)) rfl) rfl) RhX.rfl hux) hnt hlocks hce hcv hcl hP9 hD9 hS9 (by show (3 + 2 * np) + 1 ≤ (2 * (sz - at9) + 10); omega) (by show (120 + 11 * np + 4 * cp2) + 6 ≤ (60 * (sz - at9) + 400); omega))
                    obtain ⟨w, _⟩ := u237
                    obtain ⟨hw238, h242, h243, hO⟩ := hw238
                    have h242 : at230 + 1 ≤ sz := h242
                    have h243 : tkN ((B 7)) sz 67 (nI at230) = 65 := h243
                    obtain rfl : v239 = some (.int (nI at230)) := hw238
                    have hO : OKP G h0 a (upd (upd F 2 (nI sz)) 9 (nI (at230 + 1))) (updR R 1 (.ref pq)) Z (updA B 10 f231) J K2 w := hO.to rfl
                    refine W.widen (k := (3 + 2 * np)) (n := (120 + 11 * np + 4 * cp2)) (by show (3 + 2 * np) + 0 ≤ (3 + 2 * np); omega) (by show (120 + 11 * np + 4 * cp2) + 0 ≤ (120 + 11 * np + 4 * cp2); omega) ?_
                    refine W.eq (g2 := F0 m 178 ls [.int (nI at230), .int (nI at2), .ref (a 3), .ref f2]) rfl ?_
                    have hO : OKP G h0 a (upd (upd (upd F 2 (nI sz)) 9 (nI (at230 + 1))) 2 (nI sz)) (updR R 1 (.ref pq)) Z (updA B 10 f231) J K2 w := hO.to rfl
                    obtain ⟨_, qr247, hqr248⟩ := hO.2.1 23 _ (sg_23 G h0 a _ _ _ _ _)
                    refine pc_V0 (G := G) (As := [.int (nI at2), .int (nI at230)]) (rest := [.ref f2]) hx hb hml hown hq hE hX pX0_al hP hD hS hA hl.1 (P_variable l G h0 a (upd (upd F 2 (nI sz)) 9 (nI (at230 + 1))) (updR R 1 (.ref pq)) Z (updA B 10 f231) J K2 w (nI at2) (nI at230) sz 0 (rK 0 1 0 0 0 0) g2 (by omega) hwp2.1 (fun o9 h9 => absurd h9 (by omega)) (Itv.of (by omega)) hO) (gV pw_888 pw_889 pw_890 pw_796 pw_869) hV_X8_variable qr247 5 hqr248 rfl rfl rfl (Nat.le_of_ble_eq_true rfl) dX8_head_178 ⟨(by show (3 + 2 * np) + 1 ≤ (2 * (sz - at9) + 10); omega), (by show (120 + 11 * np + 4 * cp2) + 11 ≤ (60 * (sz - at9) + 400); omega)⟩ ⟨Nat.le_of_ble_eq_true rfl, Nat.le_of_ble_eq_true rfl⟩ (fun v246 u244 H locs hw245 hP hD hS => ?_)
                    obtain ⟨w, r249, K250, g251⟩ := u244
                    obtain ⟨hw245, h252, h253, h254, hO⟩ := hw245
                    have h252 : NwR K2 K250 g2 g251 r249 0 (rK 0 1 0 0 0 0) 1 := h252
                    have h253 : K250.2.1 0 r249 = 36 := h253
                    have h254 : VaT K2 K250 := h254
                    obtain rfl : v246 = some (.ref r249) := hw245
                    have hf255 : K250.1 q2 = 3 := (((h252).2.1.1 q2 (by rw [hq2]; decide)).1).trans hq2
                    have hf256 : K250.1 d0 = 4 := (((h252).2.1.1 d0 (by rw [hd2]; decide)).1).trans hd2
                    have hf257 : K250.1 f2 = 5 := (((h252).2.1.1 f2 (by rw [ht2]; decide)).1).trans ht2
                    have hf258 : K250.2.2.1 6 q2 = some f2 := (((h252).2.1.1 q2 (by rw [hq2]; decide)).2.2.1 6).trans hc62
                    have hO : OKP G h0 a (upd (upd F 2 (nI sz)) 9 (nI (at230 + 1))) (updR R 1 (.ref pq)) Z (updA B 10 f231) J K250 w := hO.to rfl
                    refine W.widen (k := ((3 + 2 * np) + 1)) (n := ((120 + 11 * np + 4 * cp2) + 11)) (by show (3 + 2 * np) + 1 ≤ ((3 + 2 * np) + 1); omega) (by show (120 + 11 * np + 4 * cp2) + 11 ≤ ((120 + 11 * np + 4 * cp2) + 11); omega) ?_
                    refine W.eq (g2 := F0 m 181 ls [.ref r249, .ref f2]) rfl ?_
                    have htk259 : NwT (B 7) sz (B 10) f231 K K250 at9 (at230 + 1) := (NwT.call (NwT.le htk236 (show _ ≤ (at230 + 1) by omega)) (h254 (B 7) f231 sz (at230 + 1)) (Nat.le_refl _))
                    have hwp260 := WPr.nd hwp2 h252
                    have hps261 := PgS.nd hps2 hwp2 h252
                    have hf262 : K250.1 r249 = 1 := h252.2.2.1.2.1
                    have hpz263 := PzK.nds hpz2 hwp2 h252.2.1 h252.new1
                    have hlc264 : LsC G K250 f2 1 np it2 cp2 := (LsC.wx (fun p hp => (h252.2.1.1 p hp).1) (by decide) (h252.2.1.1 f2 (by rw [ht2]; decide)) (fun e he _ => h252.2.1.1 e (by rw [he]; decide)) hlc2)
                    have hO : OKP G h0 a (upd (upd (upd F 2 (nI sz)) 9 (nI at9)) 9 (nI (at230 + 1))) (updR R 1 (.ref pq)) Z (updA B 10 f231) J K250 w := hO.to rfl
                    obtain ⟨qr268, hqr269⟩ := p_recv hO (by rw [hf257]; decide) (rep_5 hf257)
                    refine pn_V0 (G := G) (As := [.ref r249]) (rest := []) hx hb hml hown hq hE hX pX0_al hP hD hS hA hl.1 (L_addC l G h0 a (upd (upd (upd F 2 (nI sz)) 9 (nI at9)) 9 (nI (at230 + 1))) (updR R 1 (.ref pq)) Z (updA B 10 f231) J K250 w f2 1 np it2 cp2 r249 hlc264 (by decide) hf262 (by omega) (by omega) hO hl0) (gV pw_885 pw_886 pw_887 pw_32 pw_868) hV_Jx4a65c_add_9ea2d qr268 10 hqr269 rfl rfl rfl (Nat.le_of_ble_eq_true rfl) dX8_head_181 ⟨(by show ((3 + 2 * np) + 1) + 1 ≤ (2 * (sz - at9) + 10); omega), (by show ((120 + 11 * np + 4 * cp2) + 11) + (10 + np + np / 2) ≤ (60 * (sz - at9) + 400); omega)⟩ ⟨Nat.le_of_ble_eq_true rfl, Nat.le_of_ble_eq_true rfl⟩ (fun v267 u265 H locs hw266 hP hD hS => ?_) (fun ux ce9 q9 H9 locs9 hux hP9 hD9 hS9 hce hcv hcl => pb_out ux (ThQ.up (Thx.b (Thx.f Thx.rfl (by omega)) (by omega) (by decide)) RhX.rfl hux) hnt hlocks hce hcv hcl hP9 hD9 hS9 (by show ((3 + 2 * np) + 1) + 1 ≤ (2 * (sz - at9) + 10); omega) (by show ((120 + 11 * np + 4 * cp2) + 11) + (10 + np + np / 2) ≤ (60 * (sz - at9) + 400); omega))
                    obtain ⟨w, K270, d271⟩ := u265
                    obtain ⟨hw266, h272, h273, h274, h275, h276, hO⟩ := hw266
                    have h272 : LsC G K270 f2 1 (np + 1) (upQ it2 np r249) (cp2 + d271) := h272
                    have h273 : AdQ K250 K270 f2 := h273
                    have h274 : N6 K250 K270 := h274
                    have h275 : cp2 + d271 ≤ 10 + 2 * (np + 1) := h275
                    have h276 : d271 ≤ 10 + np / 2 := h276
                    obtain rfl : v267 = some (.int 1) := hw266
                    have hO : OKP G h0 a (upd (upd F 2 (nI sz)) 9 (nI (at230 + 1))) (updR R 1 (.ref pq)) Z (updA B 10 f231) J K270 w := hO.to rfl
                    refine W.widen (k := (((3 + 2 * np) + 1) + 1)) (n := (((120 + 11 * np + 4 * cp2) + 11) + (4 * d271))) (by show ((3 + 2 * np) + 1) + 1 ≤ (((3 + 2 * np) + 1) + 1); omega) (by show ((120 + 11 * np + 4 * cp2) + 11) + (4 * d271) ≤ (((120 + 11 * np + 4 * cp2) + 11) + (4 * d271)); omega) ?_
                    refine W.eq (g2 := F0 m 184 ls [.int 1]) rfl ?_
                    have htk277 : NwT (B 7) sz (B 10) f231 K K270 at9 (at230 + 1) := (NwT.ad htk259 h273 h274 hf257)
                    have hg278 : g251 3 f2 = 3 := (h252.2.1.2 f2 (by rw [ht2]; decide) 3).trans hr2
                    have hwp279 : WPr G K270 g251 := WPr.add hwp260 h273 h274 hf257 (by rw [hg278]; exact h272) (by rw [hg278]; show _ ≤ 5000 ∧ _; omega)
                    have hps280 : PgS G K270 g251 (a 1) pq dr ml nd nm cp it s2 := by have z9 := PgS.add hps261 hwp260 h273 h274 hf257 (fun z => by have z2 := hg278; rw [z, hps261.1.2.2.2.2.2.2.1] at z2; exact absurd z2 (by decide)) (by rw [szL_of h272, szL_of hlc264]) (by rw [hg278]; decide) (by rw [hg278]; decide) (fun z => by rw [hg278] at z; exact absurd z (by decide)); rw [hg278] at z9; exact z9
                    have hf281 : K270.1 q2 = 3 := (h273.1 q2 (by rw [hf255]; decide)).1.trans hf255
                    have hf282 : K270.1 d0 = 4 := (h273.1 d0 (by rw [hf256]; decide)).1.trans hf256
                    have hf283 : K270.1 f2 = 5 := (h273.1 f2 (by rw [hf257]; decide)).1.trans hf257
                    have hf284 : K270.1 r249 = 1 := (h273.1 r249 (by rw [hf262]; decide)).1.trans hf262
                    have hon9 : Onc K270 dr nd q2 := Onc.add (Onc.ext hon2 hps2.2.1 hwp2 hps2.1.2.2.2.1 h252.2.1.1) hps261.2.1 hwp260 hps261.1.2.2.2.1 h273 hf257 (by rw [hg278]; decide)
                    have hpzP := PzK.addP hpz263 hwp260 h273 h274 ((h252.2.1.1 q2 (by rw [hq2]; decide)).1.trans hq2) (((h252.2.1.1 q2 (by rw [hq2]; decide)).2.2.1 6).trans hc62) h272 (by omega)
                    have hmeP := MeI.ad (MeI.sm hme2 hd2 h252.2.1.1) hwp260 ((h252.2.1.1 d0 (by rw [hd2]; decide)).1.trans hd2) h273 hf257 (by rw [hg278]; decide)
                    have h9P : K270.2.1 9 q2 = -1 := ((AdQ.sm h273 (p := q2) (by rw [((h252.2.1.1 q2 (by rw [hq2]; decide)).1.trans hq2)]; decide) (fun z => by have z2 := ((h252.2.1.1 q2 (by rw [hq2]; decide)).1.trans hq2); rw [z, hf257] at z2; exact absurd z2 (by decide)) (by rw [((h252.2.1.1 q2 (by rw [hq2]; decide)).1.trans hq2)]; decide)).2.1 9).trans (((h252.2.1.1 q2 (by rw [hq2]; decide)).2.1 9).trans h92)
                    have h18P : K270.2.1 18 d0 = K.2.1 18 d0 := ((AdQ.sm h273 (p := d0) (by rw [((h252.2.1.1 d0 (by rw [hd2]; decide)).1.trans hd2)]; decide) (fun z => by have z2 := ((h252.2.1.1 d0 (by rw [hd2]; decide)).1.trans hd2); rw [z, hf257] at z2; exact absurd z2 (by decide)) (by rw [((h252.2.1.1 d0 (by rw [hd2]; decide)).1.trans hd2)]; decide)).2.1 18).trans (((h252.2.1.1 d0 (by rw [hd2]; decide)).2.1 18).trans h18k2)
                    have hg5P : g251 5 d0 = 0 := (h252.2.1.2 d0 (by rw [hd2]; decide) 5).trans hg52
                    refine lv_pop hx hb dX8_head_184 rfl ?_
                    refine lv_aload_n hx hb dX8_head_185 rfl (lv_at hl 8 rfl) ?_
                    refine lv_bipush (v := 39) hx hb dX8_head_186 (by decide) ?_
                    have hO : OKW G h0 a (upd (upd (upd (upd F 2 (nI sz)) 9 (nI (at230 + 1))) 2 (nI sz)) 9 (nI (at230 + 1))) (updR R 1 (.ref pq)) Z (updA B 10 f231) J K270.1 (fun q99 x99 => x99 = rep G a K270 q99) w := hO.to rfl
                    obtain ⟨_, qr288, hqr289⟩ := hO.2.1 23 _ (sg_23 G h0 a _ _ _ _ _)
                    refine pc_V0 (G := G) (As := [.int 39]) (rest := []) hx hb hml hown hq hE hX pX0_al hP hD hS hA hl.1 (P_takeIf l G h0 a (upd (upd F 2 (nI sz)) 9 (nI (at230 + 1))) (updR R 1 (.ref pq)) Z (updA B 10 f231) J K270.1 (fun q99 x99 => x99 = rep G a K270 q99) w 39 (at230 + 1) sz (by omega) (by omega) (by decide) hO) (gV pw_797 pw_798 pw_799 pw_796 pw_789) hV_X8_takeIf qr288 5 hqr289 rfl rfl rfl (Nat.le_of_ble_eq_true rfl) dX8_head_188 ⟨(by show (((3 + 2 * np) + 1) + 1) + 0 ≤ (2 * (sz - at9) + 10); omega), (by show (((120 + 11 * np + 4 * cp2) + 11) + (4 * d271)) + 0 ≤ (60 * (sz - at9) + 400); omega)⟩ ⟨Nat.le_of_ble_eq_true rfl, Nat.le_of_ble_eq_true rfl⟩ (fun v287 u285 H locs hw286 hP hD hS => ?_)
                    obtain ⟨w, r290⟩ := u285
                    obtain ⟨hw286, h291, h292, h293, hO⟩ := hw286
                    have h291 : r290 ≤ 1 := h291
                    have h292 : (at230 + 1) + r290 ≤ sz := h292
                    have h293 : SeQ ((B 7)) sz (at230 + 1) 39 r290 := h293
                    obtain rfl : v287 = some (.int (nI r290)) := hw286
                    have hO : OKP G h0 a (upd (upd F 2 (nI sz)) 9 (nI ((at230 + 1) + r290))) (updR R 1 (.ref pq)) Z (updA B 10 f231) J K270 w := hO.to rfl
                    refine W.widen (k := (((3 + 2 * np) + 1) + 1)) (n := (((120 + 11 * np + 4 * cp2) + 11) + (4 * d271))) (by show (((3 + 2 * np) + 1) + 1) + 0 ≤ (((3 + 2 * np) + 1) + 1); omega) (by show (((120 + 11 * np + 4 * cp2) + 11) + (4 * d271)) + 0 ≤ (((120 + 11 * np + 4 * cp2) + 11) + (4 * d271)); omega) ?_
                    refine W.eq (g2 := F0 m 191 ls [.int (nI r290)]) rfl ?_
                    refine lv_istore (lv' := [(5, .int (nI r290)), (8, .int (nI at2)), (7, .int 1), (6, .int (nI i2)), (4, .ref q2), (3, .int (nI tk)), (2, .int x1), (1, .ref d0), (0, .ref (a 3))]) hx hb dX8_head_191 hl (by decide) rfl (fun ls hl => ?_)
                    refine lv_iinc (v := (nI (i2 + 1))) (lv' := [(6, .int (nI (i2 + 1))), (5, .int (nI r290)), (8, .int (nI at2)), (7, .int 1), (4, .ref q2), (3, .int (nI tk)), (2, .int x1), (1, .ref d0), (0, .ref (a 3))]) hx hb dX8_head_193 hl (k := 3) rfl (nI_1 i2) (by decide) rfl (fun ls hl => ?_)
                    refine lv_goto (tgt := 77) hx hb dX8_head_196 (by decide) ?_
                    refine W.widen (k := (3 + 2 * (np + 1))) (n := (120 + 11 * (np + 1) + 4 * (cp2 + d271))) (by show (((3 + 2 * np) + 1) + 1) ≤ _; omega) (by show (((120 + 11 * np + 4 * cp2) + 11) + (4 * d271)) ≤ _; omega) ?_
                    have hO : OKP G h0 a (upd (upd F 2 (nI sz)) 9 (nI ((at230 + 1) + r290))) (updR R 1 (.ref pq)) Z (updA B 10 f231) J K270 w := hO.to rfl
                    exact ih_i (i2 + 1) ((at230 + 1) + r290) f231 (nI r290) K270 g251 q2 f2 (np + 1) (cp2 + d271) (upQ it2 np r249) s2 _ _ _ _ (by omega) (by omega) (by omega) hwp279 hps280 (by omega) hf281 hf282 (((AdQ.sm h273 (by rw [hf255]; decide) (fun z => by have z2 := hf255; rw [z, hf257] at z2; exact absurd z2 (by decide)) (by rw [hf255]; decide)).2.2.1 6).trans ((h252.2.1.1 q2 (by rw [hq2]; decide)).2.2.1 6 |>.trans hc62)) hg278 h272 (by omega) hon9 hpzP hmeP h9P h18P hg5P (NwT.le htk277 (by omega)) hP hD hS hO (lv_sub hl [0, 1, 4, 5, 6, 7, 8] rfl)
                  · have n294 : ¬ (np < 8) := fun h9 => c223 ((nI_ltI (a := np) (b := 8) (by omega) (by omega)).mpr h9)
                    refine lv_aload_n hx hb dX8_head_145 rfl (lv_at hl 7 rfl) ?_
                    refine c_get (v := .ref (a 1)) (C := RX8) (Tc := TX8) (N := 5) (ci := 5) hx hb hq pin_wsX80 hown hE hP hO 23 (sg_23 G h0 a _ _ _ _ _) rfl 0 (by decide) (hq _ pw_774) (fun _ h9 => h9) rfl dX8_head_146 ?_
                    refine lv_iconst (v := 2) hx hb dX8_head_149 (by decide) ?_
                    refine lv_aload_n hx hb dX8_head_150 rfl (lv_at hl 7 rfl) ?_
                    refine c_get (v := .int (nI at2)) (C := RX8) (Tc := TX8) (N := 5) (ci := 5) hx hb hq pin_wsX80 hown hE hP hO 23 (sg_23 G h0 a _ _ _ _ _) rfl 2 (by decide) (hq _ pw_776) (fun _ h9 => h9) rfl dX8_head_151 ?_
                    have hO : OKW G h0 a (upd (upd (upd (upd F 2 (nI sz)) 9 (nI at9)) 9 (nI at2)) 2 (nI sz)) (updR R 1 (.ref pq)) Z (updA B 10 f9) J K2.1 (fun q99 x99 => x99 = rep G a K2 q99) w := hO.to rfl
                    obtain ⟨_, qr298, hqr299⟩ := hO.2.1 2 _ (sg_2 G h0 a _ _ _ _ _)
                    refine pn_V0 (G := G) (As := [.int 2, .int (nI at2)]) (rest := []) hx hb hml hown hq hE hX pX0_al hP hD hS hA hl.1 (K_fail l G h0 a (upd (upd (upd F 2 (nI sz)) 9 (nI at9)) 9 (nI at2)) (updR R 1 (.ref pq)) Z (updA B 10 f9) J K2.1 (fun q99 x99 => x99 = rep G a K2 q99) w 2 (nI at2) sz (by omega) hO hl0) (gV pw_779 pw_65 pw_66 pw_59 pw_43) hV_X10_fail qr298 7 hqr299 rfl rfl rfl (Nat.le_of_ble_eq_true rfl) dX8_head_154 ⟨(by show (3 + 2 * np) + 1 ≤ (2 * (sz - at9) + 10); omega), (by show (120 + 11 * np + 4 * cp2) + 6 ≤ (60 * (sz - at9) + 400); omega)⟩ ⟨Nat.le_of_ble_eq_true rfl, Nat.le_of_ble_eq_true rfl⟩ (fun v297 u295 H locs hw296 hP hD hS => hw296.elim) (fun ux ce9 q9 H9 locs9 hux hP9 hD9 hS9 hce hcv hcl => pb_out ux (ThQ.up (Thx.same (Thx.b (Thx.f Thx.rfl (by omega)) (by omega) (by decide)) rfl) RhX.rfl hux) hnt hlocks hce hcv hcl hP9 hD9 hS9 (by show (3 + 2 * np) + 1 ≤ (2 * (sz - at9) + 10); omega) (by show (120 + 11 * np + 4 * cp2) + 6 ≤ (60 * (sz - at9) + 400); omega))
                · have n300 : r212 = 0 := (nI_eq (a := r212) (b := 0) (by omega) (by omega)).mp c215
                  refine lv_aload_n hx hb dX8_head_111 rfl (lv_at hl 6 rfl) ?_
                  refine lv_bipush (v := 65) hx hb dX8_head_112 (by decide) ?_
                  have hO : OKW G h0 a (upd (upd (upd (upd F 2 (nI sz)) 9 (nI at2)) 2 (nI sz)) 9 (nI at2)) (updR R 1 (.ref pq)) Z (updA B 10 f9) J K2.1 (fun q99 x99 => x99 = rep G a K2 q99) w := hO.to rfl
                  obtain ⟨_, qr304, hqr305⟩ := hO.2.1 23 _ (sg_23 G h0 a _ _ _ _ _)
                  refine pc_V0 (G := G) (As := [.int 65]) (rest := []) hx hb hml hown hq hE hX pX0_al hP hD hS hA hl.1 (P_sees l G h0 a (upd (upd F 2 (nI sz)) 9 (nI at2)) (updR R 1 (.ref pq)) Z (updA B 10 f9) J K2.1 (fun q99 x99 => x99 = rep G a K2 q99) w 65 at2 sz (by omega) (by omega) hO) (gV pw_803 pw_804 pw_805 pw_796 pw_775) hV_X8_sees qr304 5 hqr305 rfl rfl rfl (Nat.le_of_ble_eq_true rfl) dX8_head_114 ⟨(by show (3 + 2 * np) + 0 ≤ (2 * (sz - at9) + 10); omega), (by show (120 + 11 * np + 4 * cp2) + 0 ≤ (60 * (sz - at9) + 400); omega)⟩ ⟨Nat.le_of_ble_eq_true rfl, Nat.le_of_ble_eq_true rfl⟩ (fun v303 u301 H locs hw302 hP hD hS => ?_)
                  obtain ⟨w, r306⟩ := u301
                  obtain ⟨hw302, h307, h308, hO⟩ := hw302
                  have h307 : r306 ≤ 1 := h307
                  have h308 : SeQ ((B 7)) sz at2 65 r306 := h308
                  obtain rfl : v303 = some (.int (nI r306)) := hw302
                  have hO : OKP G h0 a (upd (upd F 2 (nI sz)) 9 (nI at2)) (updR R 1 (.ref pq)) Z (updA B 10 f9) J K2 w := hO.to rfl
                  refine W.widen (k := (3 + 2 * np)) (n := (120 + 11 * np + 4 * cp2)) (by show (3 + 2 * np) + 0 ≤ (3 + 2 * np); omega) (by show (120 + 11 * np + 4 * cp2) + 0 ≤ (120 + 11 * np + 4 * cp2); omega) ?_
                  refine W.eq (g2 := F0 m 117 ls [.int (nI r306)]) rfl ?_
                  refine lv_if_eq (tgt := 124) hx hb dX8_head_117 (by decide) (fun c309 => ?_) (fun c309 => ?_)
                  · have n310 : r306 = 0 := (nI_eq (a := r306) (b := 0) (by omega) (by omega)).mp c309
                    refine lv_iconst (v := 0) hx hb dX8_head_124 (by decide) ?_
                    refine lv_istore (lv' := [(7, .int 0), (6, .int (nI i2)), (5, .int mo2), (4, .ref q2), (3, .int (nI tk)), (2, .int x1), (1, .ref d0), (0, .ref (a 3))]) hx hb dX8_head_125 hl (by decide) rfl (fun ls hl => ?_)
                    refine lv_iload hx hb dX8_head_127 (lv_at hl 0 rfl) ?_
                    refine lv_if_eq (tgt := 157) hx hb dX8_head_129 (by decide) (fun c311 => ?_) (fun c311 => absurd c311 (by decide))
                    refine lv_aload_n hx hb dX8_head_157 rfl (lv_at hl 7 rfl) ?_
                    refine lv_iconst (v := 1) hx hb dX8_head_158 (by decide) ?_
                    have hO : OKW G h0 a (upd (upd (upd (upd (upd F 2 (nI sz)) 9 (nI at9)) 9 (nI at2)) 2 (nI sz)) 9 (nI at2)) (updR R 1 (.ref pq)) Z (updA B 10 f9) J K2.1 (fun q99 x99 => x99 = rep G a K2 q99) w := hO.to rfl
                    obtain ⟨_, qr315, hqr316⟩ := hO.2.1 23 _ (sg_23 G h0 a _ _ _ _ _)
                    refine pn_V0 (G := G) (As := [.int 1]) (rest := []) hx hb hml hown hq hE hX pX0_al hP hD hS hA hl.1 (P_takeType l G h0 a (upd (upd (upd F 2 (nI sz)) 9 (nI at9)) 9 (nI at2)) (updR R 1 (.ref pq)) Z (updA B 10 f9) J K2.1 (fun q99 x99 => x99 = rep G a K2 q99) w 1 at2 sz (by omega) (by omega) hO hl0) (gV pw_825 pw_826 pw_827 pw_796 pw_821) hV_X8_takeType qr315 5 hqr316 rfl rfl rfl (Nat.le_of_ble_eq_true rfl) dX8_head_159 ⟨(by show (3 + 2 * np) + 1 ≤ (2 * (sz - at9) + 10); omega), (by show (120 + 11 * np + 4 * cp2) + 6 ≤ (60 * (sz - at9) + 400); omega)⟩ ⟨Nat.le_of_ble_eq_true rfl, Nat.le_of_ble_eq_true rfl⟩ (fun v314 u312 H locs hw313 hP hD hS => ?_) (fun ux ce9 q9 H9 locs9 hux hP9 hD9 hS9 hce hcv hcl => pb_out ux (ThQ.up (Thx.same (Thx.same (Thx.b (Thx.f Thx.rfl (by omega)) (by omega) (by decide)) rfl) rfl) RhX.rfl hux) hnt hlocks hce hcv hcl hP9 hD9 hS9 (by show (3 + 2 * np) + 1 ≤ (2 * (sz - at9) + 10); omega) (by show (120 + 11 * np + 4 * cp2) + 6 ≤ (60 * (sz - at9) + 400); omega))
                    obtain ⟨w, at317, f318⟩ := u312
                    obtain ⟨hw313, h319, h320, h321, h322, hO⟩ := hw313
                    have h319 : at2 + 1 ≤ at317 ∧ at317 ≤ sz := h319
                    have h320 : RoS (f9) f318 at2 := h320
                    have h321 : TtQ ((B 7)) sz f318 at2 := h321
                    have h322 : (1 : Int32) = 0 → at317 = at2 + 1 := h322
                    obtain rfl : v314 = some (.int (nI at2)) := hw313
                    have hO : OKP G h0 a (upd (upd F 2 (nI sz)) 9 (nI at317)) (updR R 1 (.ref pq)) Z (updA B 10 f318) J K2 w := hO.to rfl
                    refine W.widen (k := (3 + 2 * np)) (n := (120 + 11 * np + 4 * cp2)) (by show (3 + 2 * np) + 0 ≤ (3 + 2 * np); omega) (by show (120 + 11 * np + 4 * cp2) + 0 ≤ (120 + 11 * np + 4 * cp2); omega) ?_
                    refine W.eq (g2 := F0 m 162 ls [.int (nI at2)]) rfl ?_
                    have htk323 : NwT (B 7) sz (B 10) f318 K K2 at9 at2 := (NwT.role htki h320 (by omega))
                    refine lv_istore (lv' := [(8, .int (nI at2)), (7, .int 0), (6, .int (nI i2)), (5, .int mo2), (4, .ref q2), (3, .int (nI tk)), (2, .int x1), (1, .ref d0), (0, .ref (a 3))]) hx hb dX8_head_162 hl (by decide) rfl (fun ls hl => ?_)
                    refine lv_aload hx hb dX8_head_164 (lv_at hl 4 rfl) ?_
                    refine p_get (v := .ref f2) (C := RX6) (Tc := TX6) (N := 12) (ci := 12) hx hb hq pin_wsX60 hown hE hP hO (by rw [hq2]; decide) (rep_3 hq2) rfl 4 (by decide) (hq _ pw_881) (fun _ h9 => h9) (congrArg (fun z => some (va_rf z)) hc62) dX8_head_166 ?_
                    refine lv_aload_n hx hb dX8_head_169 rfl (lv_at hl 8 rfl) ?_
                    refine lv_iload hx hb dX8_head_170 (lv_at hl 0 rfl) ?_
                    refine lv_aload_n hx hb dX8_head_172 rfl (lv_at hl 8 rfl) ?_
                    refine lv_bipush (v := 65) hx hb dX8_head_173 (by decide) ?_
                    have hO : OKW G h0 a (upd (upd (upd (upd (upd F 2 (nI sz)) 9 (nI at9)) 9 (nI at317)) 2 (nI sz)) 9 (nI at317)) (updR R 1 (.ref pq)) Z (updA B 10 f318) J K2.1 (fun q99 x99 => x99 = rep G a K2 q99) w := hO.to rfl
                    obtain ⟨_, qr327, hqr328⟩ := hO.2.1 23 _ (sg_23 G h0 a _ _ _ _ _)
                    refine pn_V0 (G := G) (As := [.int 65]) (rest := [.int (nI at2), .ref (a 3), .ref f2]) hx hb hml hown hq hE hX pX0_al hP hD hS hA hl.1 (P_take l G h0 a (upd (upd (upd F 2 (nI sz)) 9 (nI at9)) 9 (nI at317)) (updR R 1 (.ref pq)) Z (updA B 10 f318) J K2.1 (fun q99 x99 => x99 = rep G a K2 q99) w 65 at317 sz (by omega) (by omega) (by decide) hO hl0) (gV pw_793 pw_794 pw_795 pw_796 pw_781) hV_X8_take qr327 5 hqr328 rfl rfl rfl (Nat.le_of_ble_eq_true rfl) dX8_head_175 ⟨(by show (3 + 2 * np) + 1 ≤ (2 * (sz - at9) + 10); omega), (by show (120 + 11 * np + 4 * cp2) + 6 ≤ (60 * (sz - at9) + 400); omega)⟩ ⟨Nat.le_of_ble_eq_true rfl, Nat.le_of_ble_eq_true rfl⟩ (fun v326 u324 H locs hw325 hP hD hS => ?_) (fun ux ce9 q9 H9 locs9 hux hP9 hD9 hS9 hce hcv hcl => pb_out ux (ThQ.up (Thx.same (Thx.same (Thx.b (Thx.f Thx.rfl (by omega)) (by omega) (by decide)) rfl) rfl) RhX.rfl hux) hnt hlocks hce hcv hcl hP9 hD9 hS9 (by show (3 + 2 * np) + 1 ≤ (2 * (sz - at9) + 10); omega) (by show (120 + 11 * np + 4 * cp2) + 6 ≤ (60 * (sz - at9) + 400); omega))
                    obtain ⟨w, _⟩ := u324
                    obtain ⟨hw325, h329, h330, hO⟩ := hw325
                    have h329 : at317 + 1 ≤ sz := h329
                    have h330 : tkN ((B 7)) sz 67 (nI at317) = 65 := h330
                    obtain rfl : v326 = some (.int (nI at317)) := hw325
                    have hO : OKP G h0 a (upd (upd F 2 (nI sz)) 9 (nI (at317 + 1))) (updR R 1 (.ref pq)) Z (updA B 10 f318) J K2 w := hO.to rfl
                    refine W.widen (k := (3 + 2 * np)) (n := (120 + 11 * np + 4 * cp2)) (by show (3 + 2 * np) + 0 ≤ (3 + 2 * np); omega) (by show (120 + 11 * np + 4 * cp2) + 0 ≤ (120 + 11 * np + 4 * cp2); omega) ?_
                    refine W.eq (g2 := F0 m 178 ls [.int (nI at317), .int (nI at2), .ref (a 3), .ref f2]) rfl ?_
                    have hO : OKP G h0 a (upd (upd (upd F 2 (nI sz)) 9 (nI (at317 + 1))) 2 (nI sz)) (updR R 1 (.ref pq)) Z (updA B 10 f318) J K2 w := hO.to rfl
                    obtain ⟨_, qr334, hqr335⟩ := hO.2.1 23 _ (sg_23 G h0 a _ _ _ _ _)
                    refine pc_V0 (G := G) (As := [.int (nI at2), .int (nI at317)]) (rest := [.ref f2]) hx hb hml hown hq hE hX pX0_al hP hD hS hA hl.1 (P_variable l G h0 a (upd (upd F 2 (nI sz)) 9 (nI (at317 + 1))) (updR R 1 (.ref pq)) Z (updA B 10 f318) J K2 w (nI at2) (nI at317) sz 0 (rK 0 1 0 0 0 0) g2 (by omega) hwp2.1 (fun o9 h9 => absurd h9 (by omega)) (Itv.of (by omega)) hO) (gV pw_888 pw_889 pw_890 pw_796 pw_869) hV_X8_variable qr334 5 hqr335 rfl rfl rfl (Nat.le_of_ble_eq_true rfl) dX8_head_178 ⟨(by show (3 + 2 * np) + 1 ≤ (2 * (sz - at9) + 10); omega), (by show (120 + 11 * np + 4 * cp2) + 11 ≤ (60 * (sz - at9) + 400); omega)⟩ ⟨Nat.le_of_ble_eq_true rfl, Nat.le_of_ble_eq_true rfl⟩ (fun v333 u331 H locs hw332 hP hD hS => ?_)
                    obtain ⟨w, r336, K337, g338⟩ := u331
                    obtain ⟨hw332, h339, h340, h341, hO⟩ := hw332
                    have h339 : NwR K2 K337 g2 g338 r336 0 (rK 0 1 0 0 0 0) 1 := h339
                    have h340 : K337.2.1 0 r336 = 36 := h340
                    have h341 : VaT K2 K337 := h341
                    obtain rfl : v333 = some (.ref r336) := hw332
                    have hf342 : K337.1 q2 = 3 := (((h339).2.1.1 q2 (by rw [hq2]; decide)).1).trans hq2
                    have hf343 : K337.1 d0 = 4 := (((h339).2.1.1 d0 (by rw [hd2]; decide)).1).trans hd2
                    have hf344 : K337.1 f2 = 5 := (((h339).2.1.1 f2 (by rw [ht2]; decide)).1).trans ht2
                    have hf345 : K337.2.2.1 6 q2 = some f2 := (((h339).2.1.1 q2 (by rw [hq2]; decide)).2.2.1 6).trans hc62
                    have hO : OKP G h0 a (upd (upd F 2 (nI sz)) 9 (nI (at317 + 1))) (updR R 1 (.ref pq)) Z (updA B 10 f318) J K337 w := hO.to rfl
                    refine W.widen (k := ((3 + 2 * np) + 1)) (n := ((120 + 11 * np + 4 * cp2) + 11)) (by show (3 + 2 * np) + 1 ≤ ((3 + 2 * np) + 1); omega) (by show (120 + 11 * np + 4 * cp2) + 11 ≤ ((120 + 11 * np + 4 * cp2) + 11); omega) ?_
                    refine W.eq (g2 := F0 m 181 ls [.ref r336, .ref f2]) rfl ?_
                    have htk346 : NwT (B 7) sz (B 10) f318 K K337 at9 (at317 + 1) := (NwT.call (NwT.le htk323 (show _ ≤ (at317 + 1) by omega)) (h341 (B 7) f318 sz (at317 + 1)) (Nat.le_refl _))
                    have hwp347 := WPr.nd hwp2 h339
                    have hps348 := PgS.nd hps2 hwp2 h339
                    have hf349 : K337.1 r336 = 1 := h339.2.2.1.2.1
                    have hpz350 := PzK.nds hpz2 hwp2 h339.2.1 h339.new1
                    have hlc351 : LsC G K337 f2 1 np it2 cp2 := (LsC.wx (fun p hp => (h339.2.1.1 p hp).1) (by decide) (h339.2.1.1 f2 (by rw [ht2]; decide)) (fun e he _ => h339.2.1.1 e (by rw [he]; decide)) hlc2)
                    have hO : OKP G h0 a (upd (upd (upd F 2 (nI sz)) 9 (nI at9)) 9 (nI (at317 + 1))) (updR R 1 (.ref pq)) Z (updA B 10 f318) J K337 w := hO.to rfl
                    obtain ⟨qr355, hqr356⟩ := p_recv hO (by rw [hf344]; decide) (rep_5 hf344)
                    refine pn_V0 (G := G) (As := [.ref r336]) (rest := []) hx hb hml hown hq hE hX pX0_al hP hD hS hA hl.1 (L_addC l G h0 a (upd (upd (upd F 2 (nI sz)) 9 (nI at9)) 9 (nI (at317 + 1))) (updR R 1 (.ref pq)) Z (updA B 10 f318) J K337 w f2 1 np it2 cp2 r336 hlc351 (by decide) hf349 (by omega) (by omega) hO hl0) (gV pw_885 pw_886 pw_887 pw_32 pw_868) hV_Jx4a65c_add_9ea2d qr355 10 hqr356 rfl rfl rfl (Nat.le_of_ble_eq_true rfl) dX8_head_181 ⟨(by show ((3 + 2 * np) + 1) + 1 ≤ (2 * (sz - at9) + 10); omega), (by show ((120 + 11 * np + 4 * cp2) + 11) + (10 + np + np / 2) ≤ (60 * (sz - at9) + 400); omega)⟩ ⟨Nat.le_of_ble_eq_true rfl, Nat.le_of_ble_eq_true rfl⟩ (fun v354 u352 H locs hw353 hP hD hS => ?_) (fun ux ce9 q9 H9 locs9 hux hP9 hD9 hS9 hce hcv hcl => pb_out ux (ThQ.up (Thx.b (Thx.f Thx.rfl (by omega)) (by omega) (by decide)) RhX.rfl hux) hnt hlocks hce hcv hcl hP9 hD9 hS9 (by show ((3 + 2 * np) + 1) + 1 ≤ (2 * (sz - at9) + 10); omega) (by show ((120 + 11 * np + 4 * cp2) + 11) + (10 + np + np / 2) ≤ (60 * (sz - at9) + 400); omega))
                    obtain ⟨w, K357, d358⟩ := u352
                    obtain ⟨hw353, h359, h360, h361, h362, h363, hO⟩ := hw353
                    have h359 : LsC G K357 f2 1 (np + 1) (upQ it2 np r336) (cp2 + d358) := h359
                    have h360 : AdQ K337 K357 f2 := h360
                    have h361 : N6 K337 K357 := h361
                    have h362 : cp2 + d358 ≤ 10 + 2 * (np + 1) := h362
                    have h363 : d358 ≤ 10 + np / 2 := h363
                    obtain rfl : v354 = some (.int 1) := hw353
                    have hO : OKP G h0 a (upd (upd F 2 (nI sz)) 9 (nI (at317 + 1))) (updR R 1 (.ref pq)) Z (updA B 10 f318) J K357 w := hO.to rfl
                    refine W.widen (k := (((3 + 2 * np) + 1) + 1)) (n := (((120 + 11 * np + 4 * cp2) + 11) + (4 * d358))) (by show ((3 + 2 * np) + 1) + 1 ≤ (((3 + 2 * np) + 1) + 1); omega) (by show ((120 + 11 * np + 4 * cp2) + 11) + (4 * d358) ≤ (((120 + 11 * np + 4 * cp2) + 11) + (4 * d358)); omega) ?_
                    refine W.eq (g2 := F0 m 184 ls [.int 1]) rfl ?_
                    have htk364 : NwT (B 7) sz (B 10) f318 K K357 at9 (at317 + 1) := (NwT.ad htk346 h360 h361 hf344)
                    have hg365 : g338 3 f2 = 3 := (h339.2.1.2 f2 (by rw [ht2]; decide) 3).trans hr2
                    have hwp366 : WPr G K357 g338 := WPr.add hwp347 h360 h361 hf344 (by rw [hg365]; exact h359) (by rw [hg365]; show _ ≤ 5000 ∧ _; omega)
                    have hps367 : PgS G K357 g338 (a 1) pq dr ml nd nm cp it s2 := by have z9 := PgS.add hps348 hwp347 h360 h361 hf344 (fun z => by have z2 := hg365; rw [z, hps348.1.2.2.2.2.2.2.1] at z2; exact absurd z2 (by decide)) (by rw [szL_of h359, szL_of hlc351]) (by rw [hg365]; decide) (by rw [hg365]; decide) (fun z => by rw [hg365] at z; exact absurd z (by decide)); rw [hg365] at z9; exact z9
                    have hf368 : K357.1 q2 = 3 := (h360.1 q2 (by rw [hf342]; decide)).1.trans hf342
                    have hf369 : K357.1 d0 = 4 := (h360.1 d0 (by rw [hf343]; decide)).1.trans hf343
                    have hf370 : K357.1 f2 = 5 := (h360.1 f2 (by rw [hf344]; decide)).1.trans hf344
                    have hf371 : K357.1 r336 = 1 := (h360.1 r336 (by rw [hf349]; decide)).1.trans hf349
                    have hon9 : Onc K357 dr nd q2 := Onc.add (Onc.ext hon2 hps2.2.1 hwp2 hps2.1.2.2.2.1 h339.2.1.1) hps348.2.1 hwp347 hps348.1.2.2.2.1 h360 hf344 (by rw [hg365]; decide)
                    have hpzP := PzK.addP hpz350 hwp347 h360 h361 ((h339.2.1.1 q2 (by rw [hq2]; decide)).1.trans hq2) (((h339.2.1.1 q2 (by rw [hq2]; decide)).2.2.1 6).trans hc62) h359 ((TtQ.no h321 (h120.2 (by omega)) (h214.2 (by omega)) (h308.2 (by omega))).elim)
                    have hmeP := MeI.ad (MeI.sm hme2 hd2 h339.2.1.1) hwp347 ((h339.2.1.1 d0 (by rw [hd2]; decide)).1.trans hd2) h360 hf344 (by rw [hg365]; decide)
                    have h9P : K357.2.1 9 q2 = -1 := ((AdQ.sm h360 (p := q2) (by rw [((h339.2.1.1 q2 (by rw [hq2]; decide)).1.trans hq2)]; decide) (fun z => by have z2 := ((h339.2.1.1 q2 (by rw [hq2]; decide)).1.trans hq2); rw [z, hf344] at z2; exact absurd z2 (by decide)) (by rw [((h339.2.1.1 q2 (by rw [hq2]; decide)).1.trans hq2)]; decide)).2.1 9).trans (((h339.2.1.1 q2 (by rw [hq2]; decide)).2.1 9).trans h92)
                    have h18P : K357.2.1 18 d0 = K.2.1 18 d0 := ((AdQ.sm h360 (p := d0) (by rw [((h339.2.1.1 d0 (by rw [hd2]; decide)).1.trans hd2)]; decide) (fun z => by have z2 := ((h339.2.1.1 d0 (by rw [hd2]; decide)).1.trans hd2); rw [z, hf344] at z2; exact absurd z2 (by decide)) (by rw [((h339.2.1.1 d0 (by rw [hd2]; decide)).1.trans hd2)]; decide)).2.1 18).trans (((h339.2.1.1 d0 (by rw [hd2]; decide)).2.1 18).trans h18k2)
                    have hg5P : g338 5 d0 = 0 := (h339.2.1.2 d0 (by rw [hd2]; decide) 5).trans hg52
                    refine lv_pop hx hb dX8_head_184 rfl ?_
                    refine lv_aload_n hx hb dX8_head_185 rfl (lv_at hl 8 rfl) ?_
                    refine lv_bipush (v := 39) hx hb dX8_head_186 (by decide) ?_
                    have hO : OKW G h0 a (upd (upd (upd (upd F 2 (nI sz)) 9 (nI (at317 + 1))) 2 (nI sz)) 9 (nI (at317 + 1))) (updR R 1 (.ref pq)) Z (updA B 10 f318) J K357.1 (fun q99 x99 => x99 = rep G a K357 q99) w := hO.to rfl
                    obtain ⟨_, qr375, hqr376⟩ := hO.2.1 23 _ (sg_23 G h0 a _ _ _ _ _)
                    refine pc_V0 (G := G) (As := [.int 39]) (rest := []) hx hb hml hown hq hE hX pX0_al hP hD hS hA hl.1 (P_takeIf l G h0 a (upd (upd F 2 (nI sz)) 9 (nI (at317 + 1))) (updR R 1 (.ref pq)) Z (updA B 10 f318) J K357.1 (fun q99 x99 => x99 = rep G a K357 q99) w 39 (at317 + 1) sz (by omega) (by omega) (by decide) hO) (gV pw_797 pw_798 pw_799 pw_796 pw_789) hV_X8_takeIf qr375 5 hqr376 rfl rfl rfl (Nat.le_of_ble_eq_true rfl) dX8_head_188 ⟨(by show (((3 + 2 * np) + 1) + 1) + 0 ≤ (2 * (sz - at9) + 10); omega), (by show (((120 + 11 * np + 4 * cp2) + 11) + (4 * d358)) + 0 ≤ (60 * (sz - at9) + 400); omega)⟩ ⟨Nat.le_of_ble_eq_true rfl, Nat.le_of_ble_eq_true rfl⟩ (fun v374 u372 H locs hw373 hP hD hS => ?_)
                    obtain ⟨w, r377⟩ := u372
                    obtain ⟨hw373, h378, h379, h380, hO⟩ := hw373
                    have h378 : r377 ≤ 1 := h378
                    have h379 : (at317 + 1) + r377 ≤ sz := h379
                    have h380 : SeQ ((B 7)) sz (at317 + 1) 39 r377 := h380
                    obtain rfl : v374 = some (.int (nI r377)) := hw373
                    have hO : OKP G h0 a (upd (upd F 2 (nI sz)) 9 (nI ((at317 + 1) + r377))) (updR R 1 (.ref pq)) Z (updA B 10 f318) J K357 w := hO.to rfl
                    refine W.widen (k := (((3 + 2 * np) + 1) + 1)) (n := (((120 + 11 * np + 4 * cp2) + 11) + (4 * d358))) (by show (((3 + 2 * np) + 1) + 1) + 0 ≤ (((3 + 2 * np) + 1) + 1); omega) (by show (((120 + 11 * np + 4 * cp2) + 11) + (4 * d358)) + 0 ≤ (((120 + 11 * np + 4 * cp2) + 11) + (4 * d358)); omega) ?_
                    refine W.eq (g2 := F0 m 191 ls [.int (nI r377)]) rfl ?_
                    refine lv_istore (lv' := [(5, .int (nI r377)), (8, .int (nI at2)), (7, .int 0), (6, .int (nI i2)), (4, .ref q2), (3, .int (nI tk)), (2, .int x1), (1, .ref d0), (0, .ref (a 3))]) hx hb dX8_head_191 hl (by decide) rfl (fun ls hl => ?_)
                    refine lv_iinc (v := (nI (i2 + 1))) (lv' := [(6, .int (nI (i2 + 1))), (5, .int (nI r377)), (8, .int (nI at2)), (7, .int 0), (4, .ref q2), (3, .int (nI tk)), (2, .int x1), (1, .ref d0), (0, .ref (a 3))]) hx hb dX8_head_193 hl (k := 3) rfl (nI_1 i2) (by decide) rfl (fun ls hl => ?_)
                    refine lv_goto (tgt := 77) hx hb dX8_head_196 (by decide) ?_
                    refine W.widen (k := (3 + 2 * (np + 1))) (n := (120 + 11 * (np + 1) + 4 * (cp2 + d358))) (by show (((3 + 2 * np) + 1) + 1) ≤ _; omega) (by show (((120 + 11 * np + 4 * cp2) + 11) + (4 * d358)) ≤ _; omega) ?_
                    have hO : OKP G h0 a (upd (upd F 2 (nI sz)) 9 (nI ((at317 + 1) + r377))) (updR R 1 (.ref pq)) Z (updA B 10 f318) J K357 w := hO.to rfl
                    exact ih_i (i2 + 1) ((at317 + 1) + r377) f318 (nI r377) K357 g338 q2 f2 (np + 1) (cp2 + d358) (upQ it2 np r336) s2 _ _ _ _ (by omega) (by omega) (by omega) hwp366 hps367 (by omega) hf368 hf369 (((AdQ.sm h360 (by rw [hf342]; decide) (fun z => by have z2 := hf342; rw [z, hf344] at z2; exact absurd z2 (by decide)) (by rw [hf342]; decide)).2.2.1 6).trans ((h339.2.1.1 q2 (by rw [hq2]; decide)).2.2.1 6 |>.trans hc62)) hg365 h359 (by omega) hon9 hpzP hmeP h9P h18P hg5P (NwT.le htk364 (by omega)) hP hD hS hO (lv_sub hl [0, 1, 4, 5, 6, 7, 8] rfl)
                  · have n381 : ¬ (r306 = 0) := fun h9 => c309 ((nI_eq (a := r306) (b := 0) (by omega) (by omega)).mpr h9)
                    refine lv_iconst (v := 1) hx hb dX8_head_120 (by decide) ?_
                    refine lv_goto (tgt := 125) hx hb dX8_head_121 (by decide) ?_
                    refine lv_istore (lv' := [(7, .int 1), (6, .int (nI i2)), (5, .int mo2), (4, .ref q2), (3, .int (nI tk)), (2, .int x1), (1, .ref d0), (0, .ref (a 3))]) hx hb dX8_head_125 hl (by decide) rfl (fun ls hl => ?_)
                    refine lv_iload hx hb dX8_head_127 (lv_at hl 0 rfl) ?_
                    refine lv_if_eq (tgt := 157) hx hb dX8_head_129 (by decide) (fun c382 => absurd c382 (by decide)) (fun c382 => ?_)
                    refine lv_aload hx hb dX8_head_132 (lv_at hl 3 rfl) ?_
                    refine p_get (v := .ref f2) (C := RX6) (Tc := TX6) (N := 12) (ci := 12) hx hb hq pin_wsX60 hown hE hP hO (by rw [hq2]; decide) (rep_3 hq2) rfl 4 (by decide) (hq _ pw_881) (fun _ h9 => h9) (congrArg (fun z => some (va_rf z)) hc62) dX8_head_134 ?_
                    have hO : OKP G h0 a (upd (upd F 2 (nI sz)) 9 (nI at2)) (updR R 1 (.ref pq)) Z (updA B 10 f9) J K2 w := hO.to rfl
                    obtain ⟨qr386, hqr387⟩ := p_recv hO (by rw [ht2]; decide) (rep_5 ht2)
                    refine pc_V0 (G := G) (As := []) (rest := []) hx hb hml hown hq hE hX pX0_al hP hD hS hA hl.1 (L_size l G h0 a (upd (upd F 2 (nI sz)) 9 (nI at2)) (updR R 1 (.ref pq)) Z (updA B 10 f9) J K2 w f2 1 np it2 hlc2.ls hO) (gV pw_882 pw_87 pw_88 pw_32 pw_16) hV_Jx4a65c_size_8abf5 qr386 10 hqr387 rfl rfl rfl (Nat.le_of_ble_eq_true rfl) dX8_head_137 ⟨(by show (3 + 2 * np) + 0 ≤ (2 * (sz - at9) + 10); omega), (by show (120 + 11 * np + 4 * cp2) + 0 ≤ (60 * (sz - at9) + 400); omega)⟩ ⟨Nat.le_of_ble_eq_true rfl, Nat.le_of_ble_eq_true rfl⟩ (fun v385 u383 H locs hw384 hP hD hS => ?_)
                    obtain ⟨w, _⟩ := u383
                    obtain ⟨hw384, hO⟩ := hw384
                    obtain rfl : v385 = some (.int (nI np)) := hw384
                    have hO : OKP G h0 a (upd (upd F 2 (nI sz)) 9 (nI at2)) (updR R 1 (.ref pq)) Z (updA B 10 f9) J K2 w := hO.to rfl
                    refine W.widen (k := (3 + 2 * np)) (n := (120 + 11 * np + 4 * cp2)) (by show (3 + 2 * np) + 0 ≤ (3 + 2 * np); omega) (by show (120 + 11 * np + 4 * cp2) + 0 ≤ (120 + 11 * np + 4 * cp2); omega) ?_
                    refine W.eq (g2 := F0 m 140 ls [.int (nI np)]) rfl ?_
                    refine lv_bipush (v := 8) hx hb dX8_head_140 (by decide) ?_
                    refine lv_icmp_lt (tgt := 157) hx hb dX8_head_142 (by decide) (fun c388 => ?_) (fun c388 => ?_)
                    · have n389 : np < 8 := (nI_ltI (a := np) (b := 8) (by omega) (by omega)).mp c388
                      refine lv_aload_n hx hb dX8_head_157 rfl (lv_at hl 7 rfl) ?_
                      refine lv_iconst (v := 1) hx hb dX8_head_158 (by decide) ?_
                      have hO : OKW G h0 a (upd (upd (upd (upd (upd F 2 (nI sz)) 9 (nI at9)) 9 (nI at2)) 2 (nI sz)) 9 (nI at2)) (updR R 1 (.ref pq)) Z (updA B 10 f9) J K2.1 (fun q99 x99 => x99 = rep G a K2 q99) w := hO.to rfl
                      obtain ⟨_, qr393, hqr394⟩ := hO.2.1 23 _ (sg_23 G h0 a _ _ _ _ _)
                      refine pn_V0 (G := G) (As := [.int 1]) (rest := []) hx hb hml hown hq hE hX pX0_al hP hD hS hA hl.1 (P_takeType l G h0 a (upd (upd (upd F 2 (nI sz)) 9 (nI at9)) 9 (nI at2)) (updR R 1 (.ref pq)) Z (updA B 10 f9) J K2.1 (fun q99 x99 => x99 = rep G a K2 q99) w 1 at2 sz (by omega) (by omega) hO hl0) (gV pw_825 pw_826 pw_827 pw_796 pw_821) hV_X8_takeType qr393 5 hqr394 rfl rfl rfl (Nat.le_of_ble_eq_true rfl) dX8_head_159 ⟨(by show (3 + 2 * np) + 1 ≤ (2 * (sz - at9) + 10); omega), (by show (120 + 11 * np + 4 * cp2) + 6 ≤ (60 * (sz - at9) + 400); omega)⟩ ⟨Nat.le_of_ble_eq_true rfl, Nat.le_of_ble_eq_true rfl⟩ (fun v392 u390 H locs hw391 hP hD hS => ?_) (fun ux ce9 q9 H9 locs9 hux hP9 hD9 hS9 hce hcv hcl => pb_out ux (ThQ.up (Thx.same (Thx.same (Thx.b (Thx.f Thx.rfl (by omega)) (by omega) (by decide)) rfl) rfl) RhX.rfl hux) hnt hlocks hce hcv hcl hP9 hD9 hS9 (by show (3 + 2 * np) + 1 ≤ (2 * (sz - at9) + 10); omega) (by show (120 + 11 * np + 4 * cp2) + 6 ≤ (60 * (sz - at9) + 400); omega))
                      obtain ⟨w, at395, f396⟩ := u390
                      obtain ⟨hw391, h397, h398, h399, h400, hO⟩ := hw391
                      have h397 : at2 + 1 ≤ at395 ∧ at395 ≤ sz := h397
                      have h398 : RoS (f9) f396 at2 := h398
                      have h399 : TtQ ((B 7)) sz f396 at2 := h399
                      have h400 : (1 : Int32) = 0 → at395 = at2 + 1 := h400
                      obtain rfl : v392 = some (.int (nI at2)) := hw391
                      have hO : OKP G h0 a (upd (upd F 2 (nI sz)) 9 (nI at395)) (updR R 1 (.ref pq)) Z (updA B 10 f396) J K2 w := hO.to rfl
                      refine W.widen (k := (3 + 2 * np)) (n := (120 + 11 * np + 4 * cp2)) (by show (3 + 2 * np) + 0 ≤ (3 + 2 * np); omega) (by show (120 + 11 * np + 4 * cp2) + 0 ≤ (120 + 11 * np + 4 * cp2); omega) ?_
                      refine W.eq (g2 := F0 m 162 ls [.int (nI at2)]) rfl ?_
                      have htk401 : NwT (B 7) sz (B 10) f396 K K2 at9 at2 := (NwT.role htki h398 (by omega))
                      refine lv_istore (lv' := [(8, .int (nI at2)), (7, .int 1), (6, .int (nI i2)), (5, .int mo2), (4, .ref q2), (3, .int (nI tk)), (2, .int x1), (1, .ref d0), (0, .ref (a 3))]) hx hb dX8_head_162 hl (by decide) rfl (fun ls hl => ?_)
                      refine lv_aload hx hb dX8_head_164 (lv_at hl 4 rfl) ?_
                      refine p_get (v := .ref f2) (C := RX6) (Tc := TX6) (N := 12) (ci := 12) hx hb hq pin_wsX60 hown hE hP hO (by rw [hq2]; decide) (rep_3 hq2) rfl 4 (by decide) (hq _ pw_881) (fun _ h9 => h9) (congrArg (fun z => some (va_rf z)) hc62) dX8_head_166 ?_
                      refine lv_aload_n hx hb dX8_head_169 rfl (lv_at hl 8 rfl) ?_
                      refine lv_iload hx hb dX8_head_170 (lv_at hl 0 rfl) ?_
                      refine lv_aload_n hx hb dX8_head_172 rfl (lv_at hl 8 rfl) ?_
                      refine lv_bipush (v := 65) hx hb dX8_head_173 (by decide) ?_
                      have hO : OKW G h0 a (upd (upd (upd (upd (upd F 2 (nI sz)) 9 (nI at9)) 9 (nI at395)) 2 (nI sz)) 9 (nI at395)) (updR R 1 (.ref pq)) Z (updA B 10 f396) J K2.1 (fun q99 x99 => x99 = rep G a K2 q99) w := hO.to rfl
                      obtain ⟨_, qr405, hqr406⟩ := hO.2.1 23 _ (sg_23 G h0 a _ _ _ _ _)
                      refine pn_V0 (G := G) (As := [.int 65]) (rest := [.int (nI at2), .ref (a 3), .ref f2]) hx hb hml hown hq hE hX pX0_al hP hD hS hA hl.1 (P_take l G h0 a (upd (upd (upd F 2 (nI sz)) 9 (nI at9)) 9 (nI at395)) (updR R 1 (.ref pq)) Z (updA B 10 f396) J K2.1 (fun q99 x99 => x99 = rep G a K2 q99) w 65 at395 sz (by omega) (by omega) (by decide) hO hl0) (gV pw_793 pw_794 pw_795 pw_796 pw_781) hV_X8_take qr405 5 hqr406 rfl rfl rfl (Nat.le_of_ble_eq_true rfl) dX8_head_175 ⟨(by show (3 + 2 * np) + 1 ≤ (2 * (sz - at9) + 10); omega), (by show (120 + 11 * np + 4 * cp2) + 6 ≤ (60 * (sz - at9) + 400); omega)⟩ ⟨Nat.le_of_ble_eq_true rfl, Nat.le_of_ble_eq_true rfl⟩ (fun v404 u402 H locs hw403 hP hD hS => ?_) (fun ux ce9 q9 H9 locs9 hux hP9 hD9 hS9 hce hcv hcl => pb_out ux (ThQ.up (Thx.same (Thx.same (Thx.b (Thx.f Thx.rfl (by omega)) (by omega) (by decide)) rfl) rfl) RhX.rfl hux) hnt hlocks hce hcv hcl hP9 hD9 hS9 (by show (3 + 2 * np) + 1 ≤ (2 * (sz - at9) + 10); omega) (by show (120 + 11 * np + 4 * cp2) + 6 ≤ (60 * (sz - at9) + 400); omega))
                      obtain ⟨w, _⟩ := u402
                      obtain ⟨hw403, h407, h408, hO⟩ := hw403
                      have h407 : at395 + 1 ≤ sz := h407
                      have h408 : tkN ((B 7)) sz 67 (nI at395) = 65 := h408
                      obtain rfl : v404 = some (.int (nI at395)) := hw403
                      have hO : OKP G h0 a (upd (upd F 2 (nI sz)) 9 (nI (at395 + 1))) (updR R 1 (.ref pq)) Z (updA B 10 f396) J K2 w := hO.to rfl
                      refine W.widen (k := (3 + 2 * np)) (n := (120 + 11 * np + 4 * cp2)) (by show (3 + 2 * np) + 0 ≤ (3 + 2 * np); omega) (by show (120 + 11 * np + 4 * cp2) + 0 ≤ (120 + 11 * np + 4 * cp2); omega) ?_
                      refine W.eq (g2 := F0 m 178 ls [.int (nI at395), .int (nI at2), .ref (a 3), .ref f2]) rfl ?_
                      have hO : OKP G h0 a (upd (upd (upd F 2 (nI sz)) 9 (nI (at395 + 1))) 2 (nI sz)) (updR R 1 (.ref pq)) Z (updA B 10 f396) J K2 w := hO.to rfl
                      obtain ⟨_, qr412, hqr413⟩ := hO.2.1 23 _ (sg_23 G h0 a _ _ _ _ _)
                      refine pc_V0 (G := G) (As := [.int (nI at2), .int (nI at395)]) (rest := [.ref f2]) hx hb hml hown hq hE hX pX0_al hP hD hS hA hl.1 (P_variable l G h0 a (upd (upd F 2 (nI sz)) 9 (nI (at395 + 1))) (updR R 1 (.ref pq)) Z (updA B 10 f396) J K2 w (nI at2) (nI at395) sz 0 (rK 0 1 0 0 0 0) g2 (by omega) hwp2.1 (fun o9 h9 => absurd h9 (by omega)) (Itv.of (by omega)) hO) (gV pw_888 pw_889 pw_890 pw_796 pw_869) hV_X8_variable qr412 5 hqr413 rfl rfl rfl (Nat.le_of_ble_eq_true rfl) dX8_head_178 ⟨(by show (3 + 2 * np) + 1 ≤ (2 * (sz - at9) + 10); omega), (by show (120 + 11 * np + 4 * cp2) + 11 ≤ (60 * (sz - at9) + 400); omega)⟩ ⟨Nat.le_of_ble_eq_true rfl, Nat.le_of_ble_eq_true rfl⟩ (fun v411 u409 H locs hw410 hP hD hS => ?_)
                      obtain ⟨w, r414, K415, g416⟩ := u409
                      obtain ⟨hw410, h417, h418, h419, hO⟩ := hw410
                      have h417 : NwR K2 K415 g2 g416 r414 0 (rK 0 1 0 0 0 0) 1 := h417
                      have h418 : K415.2.1 0 r414 = 36 := h418
                      have h419 : VaT K2 K415 := h419
                      obtain rfl : v411 = some (.ref r414) := hw410
                      have hf420 : K415.1 q2 = 3 := (((h417).2.1.1 q2 (by rw [hq2]; decide)).1).trans hq2
                      have hf421 : K415.1 d0 = 4 := (((h417).2.1.1 d0 (by rw [hd2]; decide)).1).trans hd2
                      have hf422 : K415.1 f2 = 5 := (((h417).2.1.1 f2 (by rw [ht2]; decide)).1).trans ht2
                      have hf423 : K415.2.2.1 6 q2 = some f2 := (((h417).2.1.1 q2 (by rw [hq2]; decide)).2.2.1 6).trans hc62
                      have hO : OKP G h0 a (upd (upd F 2 (nI sz)) 9 (nI (at395 + 1))) (updR R 1 (.ref pq)) Z (updA B 10 f396) J K415 w := hO.to rfl
                      refine W.widen (k := ((3 + 2 * np) + 1)) (n := ((120 + 11 * np + 4 * cp2) + 11)) (by show (3 + 2 * np) + 1 ≤ ((3 + 2 * np) + 1); omega) (by show (120 + 11 * np + 4 * cp2) + 11 ≤ ((120 + 11 * np + 4 * cp2) + 11); omega) ?_
                      refine W.eq (g2 := F0 m 181 ls [.ref r414, .ref f2]) rfl ?_
                      have htk424 : NwT (B 7) sz (B 10) f396 K K415 at9 (at395 + 1) := (NwT.call (NwT.le htk401 (show _ ≤ (at395 + 1) by omega)) (h419 (B 7) f396 sz (at395 + 1)) (Nat.le_refl _))
                      have hwp425 := WPr.nd hwp2 h417
                      have hps426 := PgS.nd hps2 hwp2 h417
                      have hf427 : K415.1 r414 = 1 := h417.2.2.1.2.1
                      have hpz428 := PzK.nds hpz2 hwp2 h417.2.1 h417.new1
                      have hlc429 : LsC G K415 f2 1 np it2 cp2 := (LsC.wx (fun p hp => (h417.2.1.1 p hp).1) (by decide) (h417.2.1.1 f2 (by rw [ht2]; decide)) (fun e he _ => h417.2.1.1 e (by rw [he]; decide)) hlc2)
                      have hO : OKP G h0 a (upd (upd (upd F 2 (nI sz)) 9 (nI at9)) 9 (nI (at395 + 1))) (updR R 1 (.ref pq)) Z (updA B 10 f396) J K415 w := hO.to rfl
                      obtain ⟨qr433, hqr434⟩ := p_recv hO (by rw [hf422]; decide) (rep_5 hf422)
                      refine pn_V0 (G := G) (As := [.ref r414]) (rest := []) hx hb hml hown hq hE hX pX0_al hP hD hS hA hl.1 (L_addC l G h0 a (upd (upd (upd F 2 (nI sz)) 9 (nI at9)) 9 (nI (at395 + 1))) (updR R 1 (.ref pq)) Z (updA B 10 f396) J K415 w f2 1 np it2 cp2 r414 hlc429 (by decide) hf427 (by omega) (by omega) hO hl0) (gV pw_885 pw_886 pw_887 pw_32 pw_868) hV_Jx4a65c_add_9ea2d qr433 10 hqr434 rfl rfl rfl (Nat.le_of_ble_eq_true rfl) dX8_head_181 ⟨(by show ((3 + 2 * np) + 1) + 1 ≤ (2 * (sz - at9) + 10); omega), (by show ((120 + 11 * np + 4 * cp2) + 11) + (10 + np + np / 2) ≤ (60 * (sz - at9) + 400); omega)⟩ ⟨Nat.le_of_ble_eq_true rfl, Nat.le_of_ble_eq_true rfl⟩ (fun v432 u430 H locs hw431 hP hD hS => ?_) (fun ux ce9 q9 H9 locs9 hux hP9 hD9 hS9 hce hcv hcl => pb_out ux (ThQ.up (Thx.b (Thx.f Thx.rfl (by omega)) (by omega) (by decide)) RhX.rfl hux) hnt hlocks hce hcv hcl hP9 hD9 hS9 (by show ((3 + 2 * np) + 1) + 1 ≤ (2 * (sz - at9) + 10); omega) (by show ((120 + 11 * np + 4 * cp2) + 11) + (10 + np + np / 2) ≤ (60 * (sz - at9) + 400); omega))
                      obtain ⟨w, K435, d436⟩ := u430
                      obtain ⟨hw431, h437, h438, h439, h440, h441, hO⟩ := hw431
                      have h437 : LsC G K435 f2 1 (np + 1) (upQ it2 np r414) (cp2 + d436) := h437
                      have h438 : AdQ K415 K435 f2 := h438
                      have h439 : N6 K415 K435 := h439
                      have h440 : cp2 + d436 ≤ 10 + 2 * (np + 1) := h440
                      have h441 : d436 ≤ 10 + np / 2 := h441
                      obtain rfl : v432 = some (.int 1) := hw431
                      have hO : OKP G h0 a (upd (upd F 2 (nI sz)) 9 (nI (at395 + 1))) (updR R 1 (.ref pq)) Z (updA B 10 f396) J K435 w := hO.to rfl
                      refine W.widen (k := (((3 + 2 * np) + 1) + 1)) (n := (((120 + 11 * np + 4 * cp2) + 11) + (4 * d436))) (by show ((3 + 2 * np) + 1) + 1 ≤ (((3 + 2 * np) + 1) + 1); omega) (by show ((120 + 11 * np + 4 * cp2) + 11) + (4 * d436) ≤ (((120 + 11 * np + 4 * cp2) + 11) + (4 * d436)); omega) ?_
                      refine W.eq (g2 := F0 m 184 ls [.int 1]) rfl ?_
                      have htk442 : NwT (B 7) sz (B 10) f396 K K435 at9 (at395 + 1) := (NwT.ad htk424 h438 h439 hf422)
                      have hg443 : g416 3 f2 = 3 := (h417.2.1.2 f2 (by rw [ht2]; decide) 3).trans hr2
                      have hwp444 : WPr G K435 g416 := WPr.add hwp425 h438 h439 hf422 (by rw [hg443]; exact h437) (by rw [hg443]; show _ ≤ 5000 ∧ _; omega)
                      have hps445 : PgS G K435 g416 (a 1) pq dr ml nd nm cp it s2 := by have z9 := PgS.add hps426 hwp425 h438 h439 hf422 (fun z => by have z2 := hg443; rw [z, hps426.1.2.2.2.2.2.2.1] at z2; exact absurd z2 (by decide)) (by rw [szL_of h437, szL_of hlc429]) (by rw [hg443]; decide) (by rw [hg443]; decide) (fun z => by rw [hg443] at z; exact absurd z (by decide)); rw [hg443] at z9; exact z9
                      have hf446 : K435.1 q2 = 3 := (h438.1 q2 (by rw [hf420]; decide)).1.trans hf420
                      have hf447 : K435.1 d0 = 4 := (h438.1 d0 (by rw [hf421]; decide)).1.trans hf421
                      have hf448 : K435.1 f2 = 5 := (h438.1 f2 (by rw [hf422]; decide)).1.trans hf422
                      have hf449 : K435.1 r414 = 1 := (h438.1 r414 (by rw [hf427]; decide)).1.trans hf427
                      have hon9 : Onc K435 dr nd q2 := Onc.add (Onc.ext hon2 hps2.2.1 hwp2 hps2.1.2.2.2.1 h417.2.1.1) hps426.2.1 hwp425 hps426.1.2.2.2.1 h438 hf422 (by rw [hg443]; decide)
                      have hpzP := PzK.addP hpz428 hwp425 h438 h439 ((h417.2.1.1 q2 (by rw [hq2]; decide)).1.trans hq2) (((h417.2.1.1 q2 (by rw [hq2]; decide)).2.2.1 6).trans hc62) h437 (by omega)
                      have hmeP := MeI.ad (MeI.sm hme2 hd2 h417.2.1.1) hwp425 ((h417.2.1.1 d0 (by rw [hd2]; decide)).1.trans hd2) h438 hf422 (by rw [hg443]; decide)
                      have h9P : K435.2.1 9 q2 = -1 := ((AdQ.sm h438 (p := q2) (by rw [((h417.2.1.1 q2 (by rw [hq2]; decide)).1.trans hq2)]; decide) (fun z => by have z2 := ((h417.2.1.1 q2 (by rw [hq2]; decide)).1.trans hq2); rw [z, hf422] at z2; exact absurd z2 (by decide)) (by rw [((h417.2.1.1 q2 (by rw [hq2]; decide)).1.trans hq2)]; decide)).2.1 9).trans (((h417.2.1.1 q2 (by rw [hq2]; decide)).2.1 9).trans h92)
                      have h18P : K435.2.1 18 d0 = K.2.1 18 d0 := ((AdQ.sm h438 (p := d0) (by rw [((h417.2.1.1 d0 (by rw [hd2]; decide)).1.trans hd2)]; decide) (fun z => by have z2 := ((h417.2.1.1 d0 (by rw [hd2]; decide)).1.trans hd2); rw [z, hf422] at z2; exact absurd z2 (by decide)) (by rw [((h417.2.1.1 d0 (by rw [hd2]; decide)).1.trans hd2)]; decide)).2.1 18).trans (((h417.2.1.1 d0 (by rw [hd2]; decide)).2.1 18).trans h18k2)
                      have hg5P : g416 5 d0 = 0 := (h417.2.1.2 d0 (by rw [hd2]; decide) 5).trans hg52
                      refine lv_pop hx hb dX8_head_184 rfl ?_
                      refine lv_aload_n hx hb dX8_head_185 rfl (lv_at hl 8 rfl) ?_
                      refine lv_bipush (v := 39) hx hb dX8_head_186 (by decide) ?_
                      have hO : OKW G h0 a (upd (upd (upd (upd F 2 (nI sz)) 9 (nI (at395 + 1))) 2 (nI sz)) 9 (nI (at395 + 1))) (updR R 1 (.ref pq)) Z (updA B 10 f396) J K435.1 (fun q99 x99 => x99 = rep G a K435 q99) w := hO.to rfl
                      obtain ⟨_, qr453, hqr454⟩ := hO.2.1 23 _ (sg_23 G h0 a _ _ _ _ _)
                      refine pc_V0 (G := G) (As := [.int 39]) (rest := []) hx hb hml hown hq hE hX pX0_al hP hD hS hA hl.1 (P_takeIf l G h0 a (upd (upd F 2 (nI sz)) 9 (nI (at395 + 1))) (updR R 1 (.ref pq)) Z (updA B 10 f396) J K435.1 (fun q99 x99 => x99 = rep G a K435 q99) w 39 (at395 + 1) sz (by omega) (by omega) (by decide) hO) (gV pw_797 pw_798 pw_799 pw_796 pw_789) hV_X8_takeIf qr453 5 hqr454 rfl rfl rfl (Nat.le_of_ble_eq_true rfl) dX8_head_188 ⟨(by show (((3 + 2 * np) + 1) + 1) + 0 ≤ (2 * (sz - at9) + 10); omega), (by show (((120 + 11 * np + 4 * cp2) + 11) + (4 * d436)) + 0 ≤ (60 * (sz - at9) + 400); omega)⟩ ⟨Nat.le_of_ble_eq_true rfl, Nat.le_of_ble_eq_true rfl⟩ (fun v452 u450 H locs hw451 hP hD hS => ?_)
                      obtain ⟨w, r455⟩ := u450
                      obtain ⟨hw451, h456, h457, h458, hO⟩ := hw451
                      have h456 : r455 ≤ 1 := h456
                      have h457 : (at395 + 1) + r455 ≤ sz := h457
                      have h458 : SeQ ((B 7)) sz (at395 + 1) 39 r455 := h458
                      obtain rfl : v452 = some (.int (nI r455)) := hw451
                      have hO : OKP G h0 a (upd (upd F 2 (nI sz)) 9 (nI ((at395 + 1) + r455))) (updR R 1 (.ref pq)) Z (updA B 10 f396) J K435 w := hO.to rfl
                      refine W.widen (k := (((3 + 2 * np) + 1) + 1)) (n := (((120 + 11 * np + 4 * cp2) + 11) + (4 * d436))) (by show (((3 + 2 * np) + 1) + 1) + 0 ≤ (((3 + 2 * np) + 1) + 1); omega) (by show (((120 + 11 * np + 4 * cp2) + 11) + (4 * d436)) + 0 ≤ (((120 + 11 * np + 4 * cp2) + 11) + (4 * d436)); omega) ?_
                      refine W.eq (g2 := F0 m 191 ls [.int (nI r455)]) rfl ?_
                      refine lv_istore (lv' := [(5, .int (nI r455)), (8, .int (nI at2)), (7, .int 1), (6, .int (nI i2)), (4, .ref q2), (3, .int (nI tk)), (2, .int x1), (1, .ref d0), (0, .ref (a 3))]) hx hb dX8_head_191 hl (by decide) rfl (fun ls hl => ?_)
                      refine lv_iinc (v := (nI (i2 + 1))) (lv' := [(6, .int (nI (i2 + 1))), (5, .int (nI r455)), (8, .int (nI at2)), (7, .int 1), (4, .ref q2), (3, .int (nI tk)), (2, .int x1), (1, .ref d0), (0, .ref (a 3))]) hx hb dX8_head_193 hl (k := 3) rfl (nI_1 i2) (by decide) rfl (fun ls hl => ?_)
                      refine lv_goto (tgt := 77) hx hb dX8_head_196 (by decide) ?_
                      refine W.widen (k := (3 + 2 * (np + 1))) (n := (120 + 11 * (np + 1) + 4 * (cp2 + d436))) (by show (((3 + 2 * np) + 1) + 1) ≤ _; omega) (by show (((120 + 11 * np + 4 * cp2) + 11) + (4 * d436)) ≤ _; omega) ?_
                      have hO : OKP G h0 a (upd (upd F 2 (nI sz)) 9 (nI ((at395 + 1) + r455))) (updR R 1 (.ref pq)) Z (updA B 10 f396) J K435 w := hO.to rfl
                      exact ih_i (i2 + 1) ((at395 + 1) + r455) f396 (nI r455) K435 g416 q2 f2 (np + 1) (cp2 + d436) (upQ it2 np r414) s2 _ _ _ _ (by omega) (by omega) (by omega) hwp444 hps445 (by omega) hf446 hf447 (((AdQ.sm h438 (by rw [hf420]; decide) (fun z => by have z2 := hf420; rw [z, hf422] at z2; exact absurd z2 (by decide)) (by rw [hf420]; decide)).2.2.1 6).trans ((h417.2.1.1 q2 (by rw [hq2]; decide)).2.2.1 6 |>.trans hc62)) hg443 h437 (by omega) hon9 hpzP hmeP h9P h18P hg5P (NwT.le htk442 (by omega)) hP hD hS hO (lv_sub hl [0, 1, 4, 5, 6, 7, 8] rfl)
                    · have n459 : ¬ (np < 8) := fun h9 => c388 ((nI_ltI (a := np) (b := 8) (by omega) (by omega)).mpr h9)
                      refine lv_aload_n hx hb dX8_head_145 rfl (lv_at hl 7 rfl) ?_
                      refine c_get (v := .ref (a 1)) (C := RX8) (Tc := TX8) (N := 5) (ci := 5) hx hb hq pin_wsX80 hown hE hP hO 23 (sg_23 G h0 a _ _ _ _ _) rfl 0 (by decide) (hq _ pw_774) (fun _ h9 => h9) rfl dX8_head_146 ?_
                      refine lv_iconst (v := 2) hx hb dX8_head_149 (by decide) ?_
                      refine lv_aload_n hx hb dX8_head_150 rfl (lv_at hl 7 rfl) ?_
                      refine c_get (v := .int (nI at2)) (C := RX8) (Tc := TX8) (N := 5) (ci := 5) hx hb hq pin_wsX80 hown hE hP hO 23 (sg_23 G h0 a _ _ _ _ _) rfl 2 (by decide) (hq _ pw_776) (fun _ h9 => h9) rfl dX8_head_151 ?_
                      have hO : OKW G h0 a (upd (upd (upd (upd F 2 (nI sz)) 9 (nI at9)) 9 (nI at2)) 2 (nI sz)) (updR R 1 (.ref pq)) Z (updA B 10 f9) J K2.1 (fun q99 x99 => x99 = rep G a K2 q99) w := hO.to rfl
                      obtain ⟨_, qr463, hqr464⟩ := hO.2.1 2 _ (sg_2 G h0 a _ _ _ _ _)
                      refine pn_V0 (G := G) (As := [.int 2, .int (nI at2)]) (rest := []) hx hb hml hown hq hE hX pX0_al hP hD hS hA hl.1 (K_fail l G h0 a (upd (upd (upd F 2 (nI sz)) 9 (nI at9)) 9 (nI at2)) (updR R 1 (.ref pq)) Z (updA B 10 f9) J K2.1 (fun q99 x99 => x99 = rep G a K2 q99) w 2 (nI at2) sz (by omega) hO hl0) (gV pw_779 pw_65 pw_66 pw_59 pw_43) hV_X10_fail qr463 7 hqr464 rfl rfl rfl (Nat.le_of_ble_eq_true rfl) dX8_head_154 ⟨(by show (3 + 2 * np) + 1 ≤ (2 * (sz - at9) + 10); omega), (by show (120 + 11 * np + 4 * cp2) + 6 ≤ (60 * (sz - at9) + 400); omega)⟩ ⟨Nat.le_of_ble_eq_true rfl, Nat.le_of_ble_eq_true rfl⟩ (fun v462 u460 H locs hw461 hP hD hS => hw461.elim) (fun ux ce9 q9 H9 locs9 hux hP9 hD9 hS9 hce hcv hcl => pb_out ux (ThQ.up (Thx.same (Thx.b (Thx.f Thx.rfl (by omega)) (by omega) (by decide)) rfl) RhX.rfl hux) hnt hlocks hce hcv hcl hP9 hD9 hS9 (by show (3 + 2 * np) + 1 ≤ (2 * (sz - at9) + 10); omega) (by show (120 + 11 * np + 4 * cp2) + 6 ≤ (60 * (sz - at9) + 400); omega))
      refine W.widen (k := (3 + 2 * 0)) (n := (120 + 11 * 0 + 4 * 0)) (by show 3 ≤ _; omega) (by show ((12 + 3) + (4 * d40)) ≤ _; omega) ?_
      have hO : OKP G h0 a (upd (upd F 2 (nI sz)) 9 (nI (at9 + 1))) (updR R 1 (.ref pq)) Z (updA B 10 (B 10)) J K39 w := hO.to rfl
      exact loop_i (sz + 1) 0 (at9 + 1) (B 10) (0 : Int32) K39 (gM g q8 f25) q8 f25 0 0 (fun _ => 0) (s9 + 5) _ _ _ _ (by omega) (by omega) (by omega) hwp48 hps49 (by omega) hf50 hf52 hc6 hm7 hl6 (by omega) hon0 hpzM.1 hpzM.2 h9M h18M (((hm2 d0 (by rw [hd0]; decide)).2 5).trans hg5) (NwT.le htk46 (by omega)) hP hD hS hO (lv_sub hl [0, 1, 2, 6, 5, 4, 3] rfl)
    · have n465 : r66 = 0 := (nI_eq (a := r66) (b := 0) (by omega) (by omega)).mp c69
      refine lv_iconst (v := 1) hx hb dX8_head_67 (by decide) ?_
      refine lv_goto (tgt := 72) hx hb dX8_head_68 (by decide) ?_
      refine lv_istore (lv' := [(5, .int 1), (4, .ref q8), (0, .ref (a 3)), (1, .ref d0), (2, .int x1), (3, .int (nI tk))]) hx hb dX8_head_72 hl (by decide) rfl (fun ls hl => ?_)
      refine lv_iconst (v := 0) hx hb dX8_head_74 (by decide) ?_
      refine lv_istore (lv' := [(6, .int 0), (5, .int 1), (4, .ref q8), (0, .ref (a 3)), (1, .ref d0), (2, .int x1), (3, .int (nI tk))]) hx hb dX8_head_75 hl (by decide) rfl (fun ls hl => ?_)
      have loop_i : ∀ (n_i : Nat) (i2 : Nat) (at2 : Nat) (f9 : Nat → Int32) (mo2 : Int32) (K2 : PK) (g2 : Nat → Nat → Nat) (q2 : Nat) (f2 : Nat) (np : Nat) (cp2 : Nat) (it2 : Nat → Nat) (s2 : Nat) (H : Heap) (locs : List Loc) (ls : Array Slot) (w : va_W), i2 ≤ sz → sz + 1 ≤ i2 + n_i → (at9 + 1 + 2 * np ≤ at2 ∧ at2 ≤ sz) → (WPr G K2 g2) → (PgS G K2 g2 (a 1) pq dr ml nd nm cp it s2) → (s2 ≤ s9 + 5) → (K2.1 q2 = 3) → (K2.1 d0 = 4) → (K2.2.2.1 6 q2 = some f2) → (g2 3 f2 = 3) → (LsC G K2 f2 1 np it2 cp2) → (cp2 ≤ 10 + 2 * np) → (Onc K2 dr nd q2) → (PzK G K2 g2 nm it (omx K d0 q2)) → (MeI G K2 d0 q2) → (K2.2.1 9 q2 = -1) → (K2.2.1 18 d0 = K.2.1 18 d0) → (g2 5 d0 = 0) → (NwT (B 7) sz (B 10) f9 K K2 at9 at2) → va_P G.1 pCl w H → va_D A w → va_S A s.heap H locs → OKP G h0 a (upd (upd F 2 (nI sz)) 9 (nI at2)) (updR R 1 (.ref pq)) Z (updA B 10 f9) J K2 w → lv_has ls 9 [(6, .int (nI i2)), (5, .int mo2), (4, .ref q2), (3, .int (nI tk)), (2, .int x1), (1, .ref d0), (0, .ref (a 3))] → W p l e (headSpec (Cond.code yX8_head cX8_head 9 (some (.object "JinjaTongue$Method")) :: pw) ({ frames := 8, cells := (2 * (sz - at9) + 10), slots := (60 * (sz - at9) + 400), locals := 191 } : Room)).room s m ([.ref (a 3), .ref d0, .int x1, .int (nI tk)] : List Value).toArray below meth c H locs (3 + 2 * np) (120 + 11 * np + 4 * cp2) (vx_MQ below (pQn G A (fun (v : Option Value) (u : va_W × (PK × (Nat → Nat → Nat) × Nat × Nat × (Nat → Int32))) => v = some (.ref u.2.2.2.1) ∧ (WPr G u.2.1 u.2.2.1) ∧ (PgS G u.2.1 u.2.2.1 (a 1) pq dr ml nd nm cp it (s9 + 3 + (u.2.2.2.2.1 - at9))) ∧ (u.2.1.1 u.2.2.2.1 = 3) ∧ (u.2.1.1 d0 = 4) ∧ (at9 + 2 ≤ u.2.2.2.2.1 ∧ u.2.2.2.2.1 ≤ sz) ∧ (Onc u.2.1 dr nd u.2.2.2.1) ∧ (PzK G u.2.1 u.2.2.1 nm it (omx K d0 u.2.2.2.1)) ∧ (MeI G u.2.1 d0 u.2.2.2.1) ∧ (u.2.1.2.1 9 u.2.2.2.1 = -1) ∧ (u.2.1.2.1 18 d0 = K.2.1 18 d0) ∧ (u.2.2.1 5 d0 = 0) ∧ (NwT (B 7) sz (B 10) u.2.2.2.2.2 K u.2.1 at9 u.2.2.2.2.1) ∧ (OKP G h0 a (upd (upd F 2 (nI sz)) 9 (nI u.2.2.2.2.1)) (updR R 1 (.ref pq)) Z (updA B 10 u.2.2.2.2.2) J u.2.1 u.1)) (fun u => u.1) (fun (u : va_W × (PK × (Nat → Nat → Nat) × Nat × Nat × (Nat → Int32))) => (u.2.2.2.2.1 - at9 + 3)) (fun (u : va_W × (PK × (Nat → Nat → Nat) × Nat × Nat × (Nat → Int32))) => (60 * (u.2.2.2.2.1 - at9) + 60))) (pXX G A (fun (u : va_W × (Nat → Int32) × (Nat → Value) × (Nat → Nat → Int32)) => ThQ G h0 a (upd (upd F 2 (nI sz)) 9 (nI at9)) (updR R 1 (.ref pq)) Z B J u) (fun u => u.1)) ([.ref (a 3), .ref d0, .int x1, .int (nI tk)] : List Value).toArray s ({ frames := 8, cells := (2 * (sz - at9) + 10), slots := (60 * (sz - at9) + 400), locals := 191 } : Room).cells ({ frames := 8, cells := (2 * (sz - at9) + 10), slots := (60 * (sz - at9) + 400), locals := 191 } : Room).slots A) (F0 m 77 ls []) := by
        intro n_i
        induction n_i with
        | zero => intro i2 at2 f9 mo2 K2 g2 q2 f2 np cp2 it2 s2 H locs ls w hk_i hn_i; omega
        | succ n_i ih_i =>
          intro i2 at2 f9 mo2 K2 g2 q2 f2 np cp2 it2 s2 H locs ls w hk_i hn_i hat2 hwp2 hps2 hs2 hq2 hd2 hc62 hr2 hlc2 hcb2 hon2 hpz2 hme2 h92 h18k2 hg52 htki hP hD hS hO hl
          have ht2 := hlc2.1
          refine lv_iload hx hb dX8_head_77 (lv_at hl 0 rfl) ?_
          refine lv_aload_n hx hb dX8_head_79 rfl (lv_at hl 6 rfl) ?_
          refine c_get (v := .ref (a 1)) (C := RX8) (Tc := TX8) (N := 5) (ci := 5) hx hb hq pin_wsX80 hown hE hP hO 23 (sg_23 G h0 a _ _ _ _ _) rfl 0 (by decide) (hq _ pw_774) (fun _ h9 => h9) rfl dX8_head_80 ?_
          refine c_get (v := .int (nI sz)) (C := RX10) (Tc := TX10) (N := 15) (ci := 7) hx hb hq pin_wsX100 hown hE hP hO 2 (sg_2 G h0 a _ _ _ _ _) rfl 8 (by decide) (hq _ pw_792) (fun _ h9 => h9) rfl dX8_head_83 ?_
          refine lv_icmp_ge (tgt := 199) hx hb dX8_head_86 (by decide) (fun c466 => ?_) (fun c466 => ?_)
          · have n467 : sz ≤ i2 := (nI_leI (a := sz) (b := i2) (by omega) (by omega)).mp c466
            refine lv_aload_n hx hb dX8_head_199 rfl (lv_at hl 6 rfl) ?_
            refine lv_bipush (v := 35) hx hb dX8_head_200 (by decide) ?_
            have hO : OKW G h0 a (upd (upd (upd (upd (upd F 2 (nI sz)) 9 (nI at9)) 9 (nI at2)) 2 (nI sz)) 9 (nI at2)) (updR R 1 (.ref pq)) Z (updA B 10 f9) J K2.1 (fun q99 x99 => x99 = rep G a K2 q99) w := hO.to rfl
            obtain ⟨_, qr471, hqr472⟩ := hO.2.1 23 _ (sg_23 G h0 a _ _ _ _ _)
            refine pn_V0 (G := G) (As := [.int 35]) (rest := []) hx hb hml hown hq hE hX pX0_al hP hD hS hA hl.1 (P_take l G h0 a (upd (upd (upd F 2 (nI sz)) 9 (nI at9)) 9 (nI at2)) (updR R 1 (.ref pq)) Z (updA B 10 f9) J K2.1 (fun q99 x99 => x99 = rep G a K2 q99) w 35 at2 sz (by omega) (by omega) (by decide) hO hl0) (gV pw_793 pw_794 pw_795 pw_796 pw_781) hV_X8_take qr471 5 hqr472 rfl rfl rfl (Nat.le_of_ble_eq_true rfl) dX8_head_202 ⟨(by show (3 + 2 * np) + 1 ≤ (2 * (sz - at9) + 10); omega), (by show (120 + 11 * np + 4 * cp2) + 6 ≤ (60 * (sz - at9) + 400); omega)⟩ ⟨Nat.le_of_ble_eq_true rfl, Nat.le_of_ble_eq_true rfl⟩ (fun v470 u468 H locs hw469 hP hD hS => ?_) (fun ux ce9 q9 H9 locs9 hux hP9 hD9 hS9 hce hcv hcl => pb_out ux (ThQ.up (Thx.same (Thx.same (Thx.b (Thx.f Thx.rfl (by omega)) (by omega) (by decide)) rfl) rfl) RhX.rfl hux) hnt hlocks hce hcv hcl hP9 hD9 hS9 (by show (3 + 2 * np) + 1 ≤ (2 * (sz - at9) + 10); omega) (by show (120 + 11 * np + 4 * cp2) + 6 ≤ (60 * (sz - at9) + 400); omega))
            obtain ⟨w, _⟩ := u468
            obtain ⟨hw469, h473, h474, hO⟩ := hw469
            have h473 : at2 + 1 ≤ sz := h473
            have h474 : tkN ((B 7)) sz 67 (nI at2) = 35 := h474
            obtain rfl : v470 = some (.int (nI at2)) := hw469
            have hO : OKP G h0 a (upd (upd F 2 (nI sz)) 9 (nI (at2 + 1))) (updR R 1 (.ref pq)) Z (updA B 10 f9) J K2 w := hO.to rfl
            refine W.widen (k := (3 + 2 * np)) (n := (120 + 11 * np + 4 * cp2)) (by show (3 + 2 * np) + 0 ≤ (3 + 2 * np); omega) (by show (120 + 11 * np + 4 * cp2) + 0 ≤ (120 + 11 * np + 4 * cp2); omega) ?_
            refine W.eq (g2 := F0 m 205 ls [.int (nI at2)]) rfl ?_
            refine lv_pop hx hb dX8_head_205 rfl ?_
            refine lv_aload hx hb dX8_head_206 (lv_at hl 2 rfl) ?_
            refine W_size (fun hz1 hz2 => ?_)
            refine vx_ret ?_
            have hz475 : WPr G K2 g2 := hwp2
            have hz476 : PgS G K2 g2 (a 1) pq dr ml nd nm cp it (s9 + 3 + ((at2 + 1) - at9)) := (PgS.up hps2 (by omega))
            have hz477 : K2.1 q2 = 3 := hq2
            have hz478 : K2.1 d0 = 4 := hd2
            have hz479 : at9 + 2 ≤ (at2 + 1) ∧ (at2 + 1) ≤ sz := (by omega)
            have hz480 : Onc K2 dr nd q2 := hon2
            have hz481 : PzK G K2 g2 nm it (omx K d0 q2) := hpz2
            have hz482 : MeI G K2 d0 q2 := hme2
            have hz483 : K2.2.1 9 q2 = -1 := h92
            have hz484 : K2.2.1 18 d0 = K.2.1 18 d0 := h18k2
            have hz485 : g2 5 d0 = 0 := hg52
            have hz486 : NwT (B 7) sz (B 10) f9 K K2 at9 (at2 + 1) := (NwT.le htki (by omega))
            have hO : OKP G h0 a (upd (upd F 2 (nI sz)) 9 (nI (at2 + 1))) (updR R 1 (.ref pq)) Z (updA B 10 f9) J K2 w := hO.to rfl
            refine W.widen (k := (2 * (sz - at9) + 10)) (n := (60 * (sz - at9) + 400)) (by omega) (by omega) ?_
            have hzz1 : H.size ≤ s.heap.size + (((at2 + 1) - at9 + 3)) := (by have z : (3 + 2 * np) ≤ ((at2 + 1) - at9 + 3) := (by omega); omega)
            have hzz2 : hSl H ≤ hSl s.heap + ((60 * ((at2 + 1) - at9) + 60)) := (by have z : (120 + 11 * np + 4 * cp2) ≤ (60 * ((at2 + 1) - at9) + 60) := (by omega); omega)
            exact W.aret (v := .ref q2) hx hb hr (Or.inl ⟨_, rfl⟩) (Or.inr ⟨_, rfl⟩) (fun t99 ht99 hW99 => ⟨⟨_, (w, (K2, g2, q2, (at2 + 1), f9)), rfl, ⟨rfl, hz475, hz476, hz477, hz478, hz479, hz480, hz481, hz482, hz483, hz484, hz485, hz486, hO⟩, by rw [ht99]; exact hP, hD, by rw [ht99]; exact hzz1, by rw [ht99]; exact hzz2⟩, hS.F ht99⟩) hS.2.2 dX8_head_208
          · have n487 : ¬ (sz ≤ i2) := fun h9 => c466 ((nI_leI (a := sz) (b := i2) (by omega) (by omega)).mpr h9)
            refine lv_iload hx hb dX8_head_89 (lv_at hl 1 rfl) ?_
            refine lv_if_eq (tgt := 199) hx hb dX8_head_91 (by decide) (fun c488 => ?_) (fun c488 => ?_)
            · refine lv_aload_n hx hb dX8_head_199 rfl (lv_at hl 6 rfl) ?_
              refine lv_bipush (v := 35) hx hb dX8_head_200 (by decide) ?_
              have hO : OKW G h0 a (upd (upd (upd (upd (upd F 2 (nI sz)) 9 (nI at9)) 9 (nI at2)) 2 (nI sz)) 9 (nI at2)) (updR R 1 (.ref pq)) Z (updA B 10 f9) J K2.1 (fun q99 x99 => x99 = rep G a K2 q99) w := hO.to rfl
              obtain ⟨_, qr492, hqr493⟩ := hO.2.1 23 _ (sg_23 G h0 a _ _ _ _ _)
              refine pn_V0 (G := G) (As := [.int 35]) (rest := []) hx hb hml hown hq hE hX pX0_al hP hD hS hA hl.1 (P_take l G h0 a (upd (upd (upd F 2 (nI sz)) 9 (nI at9)) 9 (nI at2)) (updR R 1 (.ref pq)) Z (updA B 10 f9) J K2.1 (fun q99 x99 => x99 = rep G a K2 q99) w 35 at2 sz (by omega) (by omega) (by decide) hO hl0) (gV pw_793 pw_794 pw_795 pw_796 pw_781) hV_X8_take qr492 5 hqr493 rfl rfl rfl (Nat.le_of_ble_eq_true rfl) dX8_head_202 ⟨(by show (3 + 2 * np) + 1 ≤ (2 * (sz - at9) + 10); omega), (by show (120 + 11 * np + 4 * cp2) + 6 ≤ (60 * (sz - at9) + 400); omega)⟩ ⟨Nat.le_of_ble_eq_true rfl, Nat.le_of_ble_eq_true rfl⟩ (fun v491 u489 H locs hw490 hP hD hS => ?_) (fun ux ce9 q9 H9 locs9 hux hP9 hD9 hS9 hce hcv hcl => pb_out ux (ThQ.up (Thx.same (Thx.same (Thx.b (Thx.f Thx.rfl (by omega)) (by omega) (by decide)) rfl) rfl) RhX.rfl hux) hnt hlocks hce hcv hcl hP9 hD9 hS9 (by show (3 + 2 * np) + 1 ≤ (2 * (sz - at9) + 10); omega) (by show (120 + 11 * np + 4 * cp2) + 6 ≤ (60 * (sz - at9) + 400); omega))
              obtain ⟨w, _⟩ := u489
              obtain ⟨hw490, h494, h495, hO⟩ := hw490
              have h494 : at2 + 1 ≤ sz := h494
              have h495 : tkN ((B 7)) sz 67 (nI at2) = 35 := h495
              obtain rfl : v491 = some (.int (nI at2)) := hw490
              have hO : OKP G h0 a (upd (upd F 2 (nI sz)) 9 (nI (at2 + 1))) (updR R 1 (.ref pq)) Z (updA B 10 f9) J K2 w := hO.to rfl
              refine W.widen (k := (3 + 2 * np)) (n := (120 + 11 * np + 4 * cp2)) (by show (3 + 2 * np) + 0 ≤ (3 + 2 * np); omega) (by show (120 + 11 * np + 4 * cp2) + 0 ≤ (120 + 11 * np + 4 * cp2); omega) ?_
              refine W.eq (g2 := F0 m 205 ls [.int (nI at2)]) rfl ?_
              refine lv_pop hx hb dX8_head_205 rfl ?_
              refine lv_aload hx hb dX8_head_206 (lv_at hl 2 rfl) ?_
              refine W_size (fun hz1 hz2 => ?_)
              refine vx_ret ?_
              have hz496 : WPr G K2 g2 := hwp2
              have hz497 : PgS G K2 g2 (a 1) pq dr ml nd nm cp it (s9 + 3 + ((at2 + 1) - at9)) := (PgS.up hps2 (by omega))
              have hz498 : K2.1 q2 = 3 := hq2
              have hz499 : K2.1 d0 = 4 := hd2
              have hz500 : at9 + 2 ≤ (at2 + 1) ∧ (at2 + 1) ≤ sz := (by omega)
              have hz501 : Onc K2 dr nd q2 := hon2
              have hz502 : PzK G K2 g2 nm it (omx K d0 q2) := hpz2
              have hz503 : MeI G K2 d0 q2 := hme2
              have hz504 : K2.2.1 9 q2 = -1 := h92
              have hz505 : K2.2.1 18 d0 = K.2.1 18 d0 := h18k2
              have hz506 : g2 5 d0 = 0 := hg52
              have hz507 : NwT (B 7) sz (B 10) f9 K K2 at9 (at2 + 1) := (NwT.le htki (by omega))
              have hO : OKP G h0 a (upd (upd F 2 (nI sz)) 9 (nI (at2 + 1))) (updR R 1 (.ref pq)) Z (updA B 10 f9) J K2 w := hO.to rfl
              refine W.widen (k := (2 * (sz - at9) + 10)) (n := (60 * (sz - at9) + 400)) (by omega) (by omega) ?_
              have hzz1 : H.size ≤ s.heap.size + (((at2 + 1) - at9 + 3)) := (by have z : (3 + 2 * np) ≤ ((at2 + 1) - at9 + 3) := (by omega); omega)
              have hzz2 : hSl H ≤ hSl s.heap + ((60 * ((at2 + 1) - at9) + 60)) := (by have z : (120 + 11 * np + 4 * cp2) ≤ (60 * ((at2 + 1) - at9) + 60) := (by omega); omega)
              exact W.aret (v := .ref q2) hx hb hr (Or.inl ⟨_, rfl⟩) (Or.inr ⟨_, rfl⟩) (fun t99 ht99 hW99 => ⟨⟨_, (w, (K2, g2, q2, (at2 + 1), f9)), rfl, ⟨rfl, hz496, hz497, hz498, hz499, hz500, hz501, hz502, hz503, hz504, hz505, hz506, hz507, hO⟩, by rw [ht99]; exact hP, hD, by rw [ht99]; exact hzz1, by rw [ht99]; exact hzz2⟩, hS.F ht99⟩) hS.2.2 dX8_head_208
            · refine lv_aload_n hx hb dX8_head_94 rfl (lv_at hl 6 rfl) ?_
              refine lv_bipush (v := 13) hx hb dX8_head_95 (by decide) ?_
              have hO : OKW G h0 a (upd (upd (upd (upd F 2 (nI sz)) 9 (nI at2)) 2 (nI sz)) 9 (nI at2)) (updR R 1 (.ref pq)) Z (updA B 10 f9) J K2.1 (fun q99 x99 => x99 = rep G a K2 q99) w := hO.to rfl
              obtain ⟨_, qr511, hqr512⟩ := hO.2.1 23 _ (sg_23 G h0 a _ _ _ _ _)
              refine pc_V0 (G := G) (As := [.int 13]) (rest := []) hx hb hml hown hq hE hX pX0_al hP hD hS hA hl.1 (P_sees l G h0 a (upd (upd F 2 (nI sz)) 9 (nI at2)) (updR R 1 (.ref pq)) Z (updA B 10 f9) J K2.1 (fun q99 x99 => x99 = rep G a K2 q99) w 13 at2 sz (by omega) (by omega) hO) (gV pw_803 pw_804 pw_805 pw_796 pw_775) hV_X8_sees qr511 5 hqr512 rfl rfl rfl (Nat.le_of_ble_eq_true rfl) dX8_head_97 ⟨(by show (3 + 2 * np) + 0 ≤ (2 * (sz - at9) + 10); omega), (by show (120 + 11 * np + 4 * cp2) + 0 ≤ (60 * (sz - at9) + 400); omega)⟩ ⟨Nat.le_of_ble_eq_true rfl, Nat.le_of_ble_eq_true rfl⟩ (fun v510 u508 H locs hw509 hP hD hS => ?_)
              obtain ⟨w, r513⟩ := u508
              obtain ⟨hw509, h514, h515, hO⟩ := hw509
              have h514 : r513 ≤ 1 := h514
              have h515 : SeQ ((B 7)) sz at2 13 r513 := h515
              obtain rfl : v510 = some (.int (nI r513)) := hw509
              have hO : OKP G h0 a (upd (upd F 2 (nI sz)) 9 (nI at2)) (updR R 1 (.ref pq)) Z (updA B 10 f9) J K2 w := hO.to rfl
              refine W.widen (k := (3 + 2 * np)) (n := (120 + 11 * np + 4 * cp2)) (by show (3 + 2 * np) + 0 ≤ (3 + 2 * np); omega) (by show (120 + 11 * np + 4 * cp2) + 0 ≤ (120 + 11 * np + 4 * cp2); omega) ?_
              refine W.eq (g2 := F0 m 100 ls [.int (nI r513)]) rfl ?_
              refine lv_if_ne (tgt := 120) hx hb dX8_head_100 (by decide) (fun c516 => ?_) (fun c516 => ?_)
              · have n517 : ¬ (r513 = 0) := fun h9 => c516 ((nI_eq (a := r513) (b := 0) (by omega) (by omega)).mpr h9)
                refine lv_iconst (v := 1) hx hb dX8_head_120 (by decide) ?_
                refine lv_goto (tgt := 125) hx hb dX8_head_121 (by decide) ?_
                refine lv_istore (lv' := [(7, .int 1), (6, .int (nI i2)), (5, .int mo2), (4, .ref q2), (3, .int (nI tk)), (2, .int x1), (1, .ref d0), (0, .ref (a 3))]) hx hb dX8_head_125 hl (by decide) rfl (fun ls hl => ?_)
                refine lv_iload hx hb dX8_head_127 (lv_at hl 0 rfl) ?_
                refine lv_if_eq (tgt := 157) hx hb dX8_head_129 (by decide) (fun c518 => absurd c518 (by decide)) (fun c518 => ?_)
                refine lv_aload hx hb dX8_head_132 (lv_at hl 3 rfl) ?_
                refine p_get (v := .ref f2) (C := RX6) (Tc := TX6) (N := 12) (ci := 12) hx hb hq pin_wsX60 hown hE hP hO (by rw [hq2]; decide) (rep_3 hq2) rfl 4 (by decide) (hq _ pw_881) (fun _ h9 => h9) (congrArg (fun z => some (va_rf z)) hc62) dX8_head_134 ?_
                have hO : OKP G h0 a (upd (upd F 2 (nI sz)) 9 (nI at2)) (updR R 1 (.ref pq)) Z (updA B 10 f9) J K2 w := hO.to rfl
                obtain ⟨qr522, hqr523⟩ := p_recv hO (by rw [ht2]; decide) (rep_5 ht2)
                refine pc_V0 (G := G) (As := []) (rest := []) hx hb hml hown hq hE hX pX0_al hP hD hS hA hl.1 (L_size l G h0 a (upd (upd F 2 (nI sz)) 9 (nI at2)) (updR R 1 (.ref pq)) Z (updA B 10 f9) J K2 w f2 1 np it2 hlc2.ls hO) (gV pw_882 pw_87 pw_88 pw_32 pw_16) hV_Jx4a65c_size_8abf5 qr522 10 hqr523 rfl rfl rfl (Nat.le_of_ble_eq_true rfl) dX8_head_137 ⟨(by show (3 + 2 * np) + 0 ≤ (2 * (sz - at9) + 10); omega), (by show (120 + 11 * np + 4 * cp2) + 0 ≤ (60 * (sz - at9) + 400); omega)⟩ ⟨Nat.le_of_ble_eq_true rfl, Nat.le_of_ble_eq_true rfl⟩ (fun v521 u519 H locs hw520 hP hD hS => ?_)
                obtain ⟨w, _⟩ := u519
                obtain ⟨hw520, hO⟩ := hw520
                obtain rfl : v521 = some (.int (nI np)) := hw520
                have hO : OKP G h0 a (upd (upd F 2 (nI sz)) 9 (nI at2)) (updR R 1 (.ref pq)) Z (updA B 10 f9) J K2 w := hO.to rfl
                refine W.widen (k := (3 + 2 * np)) (n := (120 + 11 * np + 4 * cp2)) (by show (3 + 2 * np) + 0 ≤ (3 + 2 * np); omega) (by show (120 + 11 * np + 4 * cp2) + 0 ≤ (120 + 11 * np + 4 * cp2); omega) ?_
                refine W.eq (g2 := F0 m 140 ls [.int (nI np)]) rfl ?_
                refine lv_bipush (v := 8) hx hb dX8_head_140 (by decide) ?_
                refine lv_icmp_lt (tgt := 157) hx hb dX8_head_142 (by decide) (fun c524 => ?_) (fun c524 => ?_)
                · have n525 : np < 8 := (nI_ltI (a := np) (b := 8) (by omega) (by omega)).mp c524
                  refine lv_aload_n hx hb dX8_head_157 rfl (lv_at hl 7 rfl) ?_
                  refine lv_iconst (v := 1) hx hb dX8_head_158 (by decide) ?_
                  have hO : OKW G h0 a (upd (upd (upd (upd (upd F 2 (nI sz)) 9 (nI at9)) 9 (nI at2)) 2 (nI sz)) 9 (nI at2)) (updR R 1 (.ref pq)) Z (updA B 10 f9) J K2.1 (fun q99 x99 => x99 = rep G a K2 q99) w := hO.to rfl
                  obtain ⟨_, qr529, hqr530⟩ := hO.2.1 23 _ (sg_23 G h0 a _ _ _ _ _)
                  refine pn_V0 (G := G) (As := [.int 1]) (rest := []) hx hb hml hown hq hE hX pX0_al hP hD hS hA hl.1 (P_takeType l G h0 a (upd (upd (upd F 2 (nI sz)) 9 (nI at9)) 9 (nI at2)) (updR R 1 (.ref pq)) Z (updA B 10 f9) J K2.1 (fun q99 x99 => x99 = rep G a K2 q99) w 1 at2 sz (by omega) (by omega) hO hl0) (gV pw_825 pw_826 pw_827 pw_796 pw_821) hV_X8_takeType qr529 5 hqr530 rfl rfl rfl (Nat.le_of_ble_eq_true rfl) dX8_head_159 ⟨(by show (3 + 2 * np) + 1 ≤ (2 * (sz - at9) + 10); omega), (by show (120 + 11 * np + 4 * cp2) + 6 ≤ (60 * (sz - at9) + 400); omega)⟩ ⟨Nat.le_of_ble_eq_true rfl, Nat.le_of_ble_eq_true rfl⟩ (fun v528 u526 H locs hw527 hP hD hS => ?_) (fun ux ce9 q9 H9 locs9 hux hP9 hD9 hS9 hce hcv hcl => pb_out ux (ThQ.up (Thx.same (Thx.same (Thx.b (Thx.f Thx.rfl (by omega)) (by omega) (by decide)) rfl) rfl) RhX.rfl hux) hnt hlocks hce hcv hcl hP9 hD9 hS9 (by show (3 + 2 * np) + 1 ≤ (2 * (sz - at9) + 10); omega) (by show (120 + 11 * np + 4 * cp2) + 6 ≤ (60 * (sz - at9) + 400); omega))
                  obtain ⟨w, at531, f532⟩ := u526
                  obtain ⟨hw527, h533, h534, h535, h536, hO⟩ := hw527
                  have h533 : at2 + 1 ≤ at531 ∧ at531 ≤ sz := h533
                  have h534 : RoS (f9) f532 at2 := h534
                  have h535 : TtQ ((B 7)) sz f532 at2 := h535
                  have h536 : (1 : Int32) = 0 → at531 = at2 + 1 := h536
                  obtain rfl : v528 = some (.int (nI at2)) := hw527
                  have hO : OKP G h0 a (upd (upd F 2 (nI sz)) 9 (nI at531)) (updR R 1 (.ref pq)) Z (updA B 10 f532) J K2 w := hO.to rfl
                  refine W.widen (k := (3 + 2 * np)) (n := (120 + 11 * np + 4 * cp2)) (by show (3 + 2 * np) + 0 ≤ (3 + 2 * np); omega) (by show (120 + 11 * np + 4 * cp2) + 0 ≤ (120 + 11 * np + 4 * cp2); omega) ?_
                  refine W.eq (g2 := F0 m 162 ls [.int (nI at2)]) rfl ?_
                  have htk537 : NwT (B 7) sz (B 10) f532 K K2 at9 at2 := (NwT.role htki h534 (by omega))
                  refine lv_istore (lv' := [(8, .int (nI at2)), (7, .int 1), (6, .int (nI i2)), (5, .int mo2), (4, .ref q2), (3, .int (nI tk)), (2, .int x1), (1, .ref d0), (0, .ref (a 3))]) hx hb dX8_head_162 hl (by decide) rfl (fun ls hl => ?_)
                  refine lv_aload hx hb dX8_head_164 (lv_at hl 4 rfl) ?_
                  refine p_get (v := .ref f2) (C := RX6) (Tc := TX6) (N := 12) (ci := 12) hx hb hq pin_wsX60 hown hE hP hO (by rw [hq2]; decide) (rep_3 hq2) rfl 4 (by decide) (hq _ pw_881) (fun _ h9 => h9) (congrArg (fun z => some (va_rf z)) hc62) dX8_head_166 ?_
                  refine lv_aload_n hx hb dX8_head_169 rfl (lv_at hl 8 rfl) ?_
                  refine lv_iload hx hb dX8_head_170 (lv_at hl 0 rfl) ?_
                  refine lv_aload_n hx hb dX8_head_172 rfl (lv_at hl 8 rfl) ?_
                  refine lv_bipush (v := 65) hx hb dX8_head_173 (by decide) ?_
                  have hO : OKW G h0 a (upd (upd (upd (upd (upd F 2 (nI sz)) 9 (nI at9)) 9 (nI at531)) 2 (nI sz)) 9 (nI at531)) (updR R 1 (.ref pq)) Z (updA B 10 f532) J K2.1 (fun q99 x99 => x99 = rep G a K2 q99) w := hO.to rfl
                  obtain ⟨_, qr541, hqr542⟩ := hO.2.1 23 _ (sg_23 G h0 a _ _ _ _ _)
                  refine pn_V0 (G := G) (As := [.int 65]) (rest := [.int (nI at2), .ref (a 3), .ref f2]) hx hb hml hown hq hE hX pX0_al hP hD hS hA hl.1 (P_take l G h0 a (upd (upd (upd F 2 (nI sz)) 9 (nI at9)) 9 (nI at531)) (updR R 1 (.ref pq)) Z (updA B 10 f532) J K2.1 (fun q99 x99 => x99 = rep G a K2 q99) w 65 at531 sz (by omega) (by omega) (by decide) hO hl0) (gV pw_793 pw_794 pw_795 pw_796 pw_781) hV_X8_take qr541 5 hqr542 rfl rfl rfl (Nat.le_of_ble_eq_true rfl) dX8_head_175 ⟨(by show (3 + 2 * np) + 1 ≤ (2 * (sz - at9) + 10); omega), (by show (120 + 11 * np + 4 * cp2) + 6 ≤ (60 * (sz - at9) + 400); omega)⟩ ⟨Nat.le_of_ble_eq_true rfl, Nat.le_of_ble_eq_true rfl⟩ (fun v540 u538 H locs hw539 hP hD hS => ?_) (fun ux ce9 q9 H9 locs9 hux hP9 hD9 hS9 hce hcv hcl => pb_out ux (ThQ.up (Thx.same (Thx.same (Thx.b (Thx.f Thx.rfl (by omega)) (by omega) (by decide)) rfl) rfl) RhX.rfl hux) hnt hlocks hce hcv hcl hP9 hD9 hS9 (by show (3 + 2 * np) + 1 ≤ (2 * (sz - at9) + 10); omega) (by show (120 + 11 * np + 4 * cp2) + 6 ≤ (60 * (sz - at9) + 400); omega))
                  obtain ⟨w, _⟩ := u538
                  obtain ⟨hw539, h543, h544, hO⟩ := hw539
                  have h543 : at531 + 1 ≤ sz := h543
                  have h544 : tkN ((B 7)) sz 67 (nI at531) = 65 := h544
                  obtain rfl : v540 = some (.int (nI at531)) := hw539
                  have hO : OKP G h0 a (upd (upd F 2 (nI sz)) 9 (nI (at531 + 1))) (updR R 1 (.ref pq)) Z (updA B 10 f532) J K2 w := hO.to rfl
                  refine W.widen (k := (3 + 2 * np)) (n := (120 + 11 * np + 4 * cp2)) (by show (3 + 2 * np) + 0 ≤ (3 + 2 * np); omega) (by show (120 + 11 * np + 4 * cp2) + 0 ≤ (120 + 11 * np + 4 * cp2); omega) ?_
                  refine W.eq (g2 := F0 m 178 ls [.int (nI at531), .int (nI at2), .ref (a 3), .ref f2]) rfl ?_
                  have hO : OKP G h0 a (upd (upd (upd F 2 (nI sz)) 9 (nI (at531 + 1))) 2 (nI sz)) (updR R 1 (.ref pq)) Z (updA B 10 f532) J K2 w := hO.to rfl
                  obtain ⟨_, qr548, hqr549⟩ := hO.2.1 23 _ (sg_23 G h0 a _ _ _ _ _)
                  refine pc_V0 (G := G) (As := [.int (nI at2), .int (nI at531)]) (rest := [.ref f2]) hx hb hml hown hq hE hX pX0_al hP hD hS hA hl.1 (P_variable l G h0 a (upd (upd F 2 (nI sz)) 9 (nI (at531 + 1))) (updR R 1 (.ref pq)) Z (updA B 10 f532) J K2 w (nI at2) (nI at531) sz 0 (rK 0 1 0 0 0 0) g2 (by omega) hwp2.1 (fun o9 h9 => absurd h9 (by omega)) (Itv.of (by omega)) hO) (gV pw_888 pw_889 pw_890 pw_796 pw_869) hV_X8_variable qr548 5 hqr549 rfl rfl rfl (Nat.le_of_ble_eq_true rfl) dX8_head_178 ⟨(by show (3 + 2 * np) + 1 ≤ (2 * (sz - at9) + 10); omega), (by show (120 + 11 * np + 4 * cp2) + 11 ≤ (60 * (sz - at9) + 400); omega)⟩ ⟨Nat.le_of_ble_eq_true rfl, Nat.le_of_ble_eq_true rfl⟩ (fun v547 u545 H locs hw546 hP hD hS => ?_)
                  obtain ⟨w, r550, K551, g552⟩ := u545
                  obtain ⟨hw546, h553, h554, h555, hO⟩ := hw546
                  have h553 : NwR K2 K551 g2 g552 r550 0 (rK 0 1 0 0 0 0) 1 := h553
                  have h554 : K551.2.1 0 r550 = 36 := h554
                  have h555 : VaT K2 K551 := h555
                  obtain rfl : v547 = some (.ref r550) := hw546
                  have hf556 : K551.1 q2 = 3 := (((h553).2.1.1 q2 (by rw [hq2]; decide)).1).trans hq2
                  have hf557 : K551.1 d0 = 4 := (((h553).2.1.1 d0 (by rw [hd2]; decide)).1).trans hd2
                  have hf558 : K551.1 f2 = 5 := (((h553).2.1.1 f2 (by rw [ht2]; decide)).1).trans ht2
                  have hf559 : K551.2.2.1 6 q2 = some f2 := (((h553).2.1.1 q2 (by rw [hq2]; decide)).2.2.1 6).trans hc62
                  have hO : OKP G h0 a (upd (upd F 2 (nI sz)) 9 (nI (at531 + 1))) (updR R 1 (.ref pq)) Z (updA B 10 f532) J K551 w := hO.to rfl
                  refine W.widen (k := ((3 + 2 * np) + 1)) (n := ((120 + 11 * np + 4 * cp2) + 11)) (by show (3 + 2 * np) + 1 ≤ ((3 + 2 * np) + 1); omega) (by show (120 + 11 * np + 4 * cp2) + 11 ≤ ((120 + 11 * np + 4 * cp2) + 11); omega) ?_
                  refine W.eq (g2 := F0 m 181 ls [.ref r550, .ref f2]) rfl ?_
                  have htk560 : NwT (B 7) sz (B 10) f532 K K551 at9 (at531 + 1) := (NwT.call (NwT.le htk537 (show _ ≤ (at531 + 1) by omega)) (h555 (B 7) f532 sz (at531 + 1)) (Nat.le_refl _))
                  have hwp561 := WPr.nd hwp2 h553
                  have hps562 := PgS.nd hps2 hwp2 h553
                  have hf563 : K551.1 r550 = 1 := h553.2.2.1.2.1
                  have hpz564 := PzK.nds hpz2 hwp2 h553.2.1 h553.new1
                  have hlc565 : LsC G K551 f2 1 np it2 cp2 := (LsC.wx (fun p hp => (h553.2.1.1 p hp).1) (by decide) (h553.2.1.1 f2 (by rw [ht2]; decide)) (fun e he _ => h553.2.1.1 e (by rw [he]; decide)) hlc2)
                  have hO : OKP G h0 a (upd (upd (upd F 2 (nI sz)) 9 (nI at9)) 9 (nI (at531 + 1))) (updR R 1 (.ref pq)) Z (updA B 10 f532) J K551 w := hO.to rfl
                  obtain ⟨qr569, hqr570⟩ := p_recv hO (by rw [hf558]; decide) (rep_5 hf558)
                  refine pn_V0 (G := G) (As := [.ref r550]) (rest := []) hx hb hml hown hq hE hX pX0_al hP hD hS hA hl.1 (L_addC l G h0 a (upd (upd (upd F 2 (nI sz)) 9 (nI at9)) 9 (nI (at531 + 1))) (updR R 1 (.ref pq)) Z (updA B 10 f532) J K551 w f2 1 np it2 cp2 r550 hlc565 (by decide) hf563 (by omega) (by omega) hO hl0) (gV pw_885 pw_886 pw_887 pw_32 pw_868) hV_Jx4a65c_add_9ea2d qr569 10 hqr570 rfl rfl rfl (Nat.le_of_ble_eq_true rfl) dX8_head_181 ⟨(by show ((3 + 2 * np) + 1) + 1 ≤ (2 * (sz - at9) + 10); omega), (by show ((120 + 11 * np + 4 * cp2) + 11) + (10 + np + np / 2) ≤ (60 * (sz - at9) + 400); omega)⟩ ⟨Nat.le_of_ble_eq_true rfl, Nat.le_of_ble_eq_true rfl⟩ (fun v568 u566 H locs hw567 hP hD hS => ?_) (fun ux ce9 q9 H9 locs9 hux hP9 hD9 hS9 hce hcv hcl => pb_out ux (ThQ.up (Thx.b (Thx.f Thx.rfl (by omega)) (by omega) (by decide)) RhX.rfl hux) hnt hlocks hce hcv hcl hP9 hD9 hS9 (by show ((3 + 2 * np) + 1) + 1 ≤ (2 * (sz - at9) + 10); omega) (by show ((120 + 11 * np + 4 * cp2) + 11) + (10 + np + np / 2) ≤ (60 * (sz - at9) + 400); omega))
                  obtain ⟨w, K571, d572⟩ := u566
                  obtain ⟨hw567, h573, h574, h575, h576, h577, hO⟩ := hw567
                  have h573 : LsC G K571 f2 1 (np + 1) (upQ it2 np r550) (cp2 + d572) := h573
                  have h574 : AdQ K551 K571 f2 := h574
                  have h575 : N6 K551 K571 := h575
                  have h576 : cp2 + d572 ≤ 10 + 2 * (np + 1) := h576
                  have h577 : d572 ≤ 10 + np / 2 := h577
                  obtain rfl : v568 = some (.int 1) := hw567
                  have hO : OKP G h0 a (upd (upd F 2 (nI sz)) 9 (nI (at531 + 1))) (updR R 1 (.ref pq)) Z (updA B 10 f532) J K571 w := hO.to rfl
                  refine W.widen (k := (((3 + 2 * np) + 1) + 1)) (n := (((120 + 11 * np + 4 * cp2) + 11) + (4 * d572))) (by show ((3 + 2 * np) + 1) + 1 ≤ (((3 + 2 * np) + 1) + 1); omega) (by show ((120 + 11 * np + 4 * cp2) + 11) + (4 * d572) ≤ (((120 + 11 * np + 4 * cp2) + 11) + (4 * d572)); omega) ?_
                  refine W.eq (g2 := F0 m 184 ls [.int 1]) rfl ?_
                  have htk578 : NwT (B 7) sz (B 10) f532 K K571 at9 (at531 + 1) := (NwT.ad htk560 h574 h575 hf558)
                  have hg579 : g552 3 f2 = 3 := (h553.2.1.2 f2 (by rw [ht2]; decide) 3).trans hr2
                  have hwp580 : WPr G K571 g552 := WPr.add hwp561 h574 h575 hf558 (by rw [hg579]; exact h573) (by rw [hg579]; show _ ≤ 5000 ∧ _; omega)
                  have hps581 : PgS G K571 g552 (a 1) pq dr ml nd nm cp it s2 := by have z9 := PgS.add hps562 hwp561 h574 h575 hf558 (fun z => by have z2 := hg579; rw [z, hps562.1.2.2.2.2.2.2.1] at z2; exact absurd z2 (by decide)) (by rw [szL_of h573, szL_of hlc565]) (by rw [hg579]; decide) (by rw [hg579]; decide) (fun z => by rw [hg579] at z; exact absurd z (by decide)); rw [hg579] at z9; exact z9
                  have hf582 : K571.1 q2 = 3 := (h574.1 q2 (by rw [hf556]; decide)).1.trans hf556
                  have hf583 : K571.1 d0 = 4 := (h574.1 d0 (by rw [hf557]; decide)).1.trans hf557
                  have hf584 : K571.1 f2 = 5 := (h574.1 f2 (by rw [hf558]; decide)).1.trans hf558
                  have hf585 : K571.1 r550 = 1 := (h574.1 r550 (by rw [hf563]; decide)).1.trans hf563
                  have hon9 : Onc K571 dr nd q2 := Onc.add (Onc.ext hon2 hps2.2.1 hwp2 hps2.1.2.2.2.1 h553.2.1.1) hps562.2.1 hwp561 hps562.1.2.2.2.1 h574 hf558 (by rw [hg579]; decide)
                  have hpzP := PzK.addP hpz564 hwp561 h574 h575 ((h553.2.1.1 q2 (by rw [hq2]; decide)).1.trans hq2) (((h553.2.1.1 q2 (by rw [hq2]; decide)).2.2.1 6).trans hc62) h573 (by omega)
                  have hmeP := MeI.ad (MeI.sm hme2 hd2 h553.2.1.1) hwp561 ((h553.2.1.1 d0 (by rw [hd2]; decide)).1.trans hd2) h574 hf558 (by rw [hg579]; decide)
                  have h9P : K571.2.1 9 q2 = -1 := ((AdQ.sm h574 (p := q2) (by rw [((h553.2.1.1 q2 (by rw [hq2]; decide)).1.trans hq2)]; decide) (fun z => by have z2 := ((h553.2.1.1 q2 (by rw [hq2]; decide)).1.trans hq2); rw [z, hf558] at z2; exact absurd z2 (by decide)) (by rw [((h553.2.1.1 q2 (by rw [hq2]; decide)).1.trans hq2)]; decide)).2.1 9).trans (((h553.2.1.1 q2 (by rw [hq2]; decide)).2.1 9).trans h92)
                  have h18P : K571.2.1 18 d0 = K.2.1 18 d0 := ((AdQ.sm h574 (p := d0) (by rw [((h553.2.1.1 d0 (by rw [hd2]; decide)).1.trans hd2)]; decide) (fun z => by have z2 := ((h553.2.1.1 d0 (by rw [hd2]; decide)).1.trans hd2); rw [z, hf558] at z2; exact absurd z2 (by decide)) (by rw [((h553.2.1.1 d0 (by rw [hd2]; decide)).1.trans hd2)]; decide)).2.1 18).trans (((h553.2.1.1 d0 (by rw [hd2]; decide)).2.1 18).trans h18k2)
                  have hg5P : g552 5 d0 = 0 := (h553.2.1.2 d0 (by rw [hd2]; decide) 5).trans hg52
                  refine lv_pop hx hb dX8_head_184 rfl ?_
                  refine lv_aload_n hx hb dX8_head_185 rfl (lv_at hl 8 rfl) ?_
                  refine lv_bipush (v := 39) hx hb dX8_head_186 (by decide) ?_
                  have hO : OKW G h0 a (upd (upd (upd (upd F 2 (nI sz)) 9 (nI (at531 + 1))) 2 (nI sz)) 9 (nI (at531 + 1))) (updR R 1 (.ref pq)) Z (updA B 10 f532) J K571.1 (fun q99 x99 => x99 = rep G a K571 q99) w := hO.to rfl
                  obtain ⟨_, qr589, hqr590⟩ := hO.2.1 23 _ (sg_23 G h0 a _ _ _ _ _)
                  refine pc_V0 (G := G) (As := [.int 39]) (rest := []) hx hb hml hown hq hE hX pX0_al hP hD hS hA hl.1 (P_takeIf l G h0 a (upd (upd F 2 (nI sz)) 9 (nI (at531 + 1))) (updR R 1 (.ref pq)) Z (updA B 10 f532) J K571.1 (fun q99 x99 => x99 = rep G a K571 q99) w 39 (at531 + 1) sz (by omega) (by omega) (by decide) hO) (gV pw_797 pw_798 pw_799 pw_796 pw_789) hV_X8_takeIf qr589 5 hqr590 rfl rfl rfl (Nat.le_of_ble_eq_true rfl) dX8_head_188 ⟨(by show (((3 + 2 * np) + 1) + 1) + 0 ≤ (2 * (sz - at9) + 10); omega), (by show (((120 + 11 * np + 4 * cp2) + 11) + (4 * d572)) + 0 ≤ (60 * (sz - at9) + 400); omega)⟩ ⟨Nat.le_of_ble_eq_true rfl, Nat.le_of_ble_eq_true rfl⟩ (fun v588 u586 H locs hw587 hP hD hS => ?_)
                  obtain ⟨w, r591⟩ := u586
                  obtain ⟨hw587, h592, h593, h594, hO⟩ := hw587
                  have h592 : r591 ≤ 1 := h592
                  have h593 : (at531 + 1) + r591 ≤ sz := h593
                  have h594 : SeQ ((B 7)) sz (at531 + 1) 39 r591 := h594
                  obtain rfl : v588 = some (.int (nI r591)) := hw587
                  have hO : OKP G h0 a (upd (upd F 2 (nI sz)) 9 (nI ((at531 + 1) + r591))) (updR R 1 (.ref pq)) Z (updA B 10 f532) J K571 w := hO.to rfl
                  refine W.widen (k := (((3 + 2 * np) + 1) + 1)) (n := (((120 + 11 * np + 4 * cp2) + 11) + (4 * d572))) (by show (((3 + 2 * np) + 1) + 1) + 0 ≤ (((3 + 2 * np) + 1) + 1); omega) (by show (((120 + 11 * np + 4 * cp2) + 11) + (4 * d572)) + 0 ≤ (((120 + 11 * np + 4 * cp2) + 11) + (4 * d572)); omega) ?_
                  refine W.eq (g2 := F0 m 191 ls [.int (nI r591)]) rfl ?_
                  refine lv_istore (lv' := [(5, .int (nI r591)), (8, .int (nI at2)), (7, .int 1), (6, .int (nI i2)), (4, .ref q2), (3, .int (nI tk)), (2, .int x1), (1, .ref d0), (0, .ref (a 3))]) hx hb dX8_head_191 hl (by decide) rfl (fun ls hl => ?_)
                  refine lv_iinc (v := (nI (i2 + 1))) (lv' := [(6, .int (nI (i2 + 1))), (5, .int (nI r591)), (8, .int (nI at2)), (7, .int 1), (4, .ref q2), (3, .int (nI tk)), (2, .int x1), (1, .ref d0), (0, .ref (a 3))]) hx hb dX8_head_193 hl (k := 3) rfl (nI_1 i2) (by decide) rfl (fun ls hl => ?_)
                  refine lv_goto (tgt := 77) hx hb dX8_head_196 (by decide) ?_
                  refine W.widen (k := (3 + 2 * (np + 1))) (n := (120 + 11 * (np + 1) + 4 * (cp2 + d572))) (by show (((3 + 2 * np) + 1) + 1) ≤ _; omega) (by show (((120 + 11 * np + 4 * cp2) + 11) + (4 * d572)) ≤ _; omega) ?_
                  have hO : OKP G h0 a (upd (upd F 2 (nI sz)) 9 (nI ((at531 + 1) + r591))) (updR R 1 (.ref pq)) Z (updA B 10 f532) J K571 w := hO.to rfl
                  exact ih_i (i2 + 1) ((at531 + 1) + r591) f532 (nI r591) K571 g552 q2 f2 (np + 1) (cp2 + d572) (upQ it2 np r550) s2 _ _ _ _ (by omega) (by omega) (by omega) hwp580 hps581 (by omega) hf582 hf583 (((AdQ.sm h574 (by rw [hf556]; decide) (fun z => by have z2 := hf556; rw [z, hf558] at z2; exact absurd z2 (by decide)) (by rw [hf556]; decide)).2.2.1 6).trans ((h553.2.1.1 q2 (by rw [hq2]; decide)).2.2.1 6 |>.trans hc62)) hg579 h573 (by omega) hon9 hpzP hmeP h9P h18P hg5P (NwT.le htk578 (by omega)) hP hD hS hO (lv_sub hl [0, 1, 4, 5, 6, 7, 8] rfl)
                · have n595 : ¬ (np < 8) := fun h9 => c524 ((nI_ltI (a := np) (b := 8) (by omega) (by omega)).mpr h9)
                  refine lv_aload_n hx hb dX8_head_145 rfl (lv_at hl 7 rfl) ?_
                  refine c_get (v := .ref (a 1)) (C := RX8) (Tc := TX8) (N := 5) (ci := 5) hx hb hq pin_wsX80 hown hE hP hO 23 (sg_23 G h0 a _ _ _ _ _) rfl 0 (by decide) (hq _ pw_774) (fun _ h9 => h9) rfl dX8_head_146 ?_
                  refine lv_iconst (v := 2) hx hb dX8_head_149 (by decide) ?_
                  refine lv_aload_n hx hb dX8_head_150 rfl (lv_at hl 7 rfl) ?_
                  refine c_get (v := .int (nI at2)) (C := RX8) (Tc := TX8) (N := 5) (ci := 5) hx hb hq pin_wsX80 hown hE hP hO 23 (sg_23 G h0 a _ _ _ _ _) rfl 2 (by decide) (hq _ pw_776) (fun _ h9 => h9) rfl dX8_head_151 ?_
                  have hO : OKW G h0 a (upd (upd (upd (upd F 2 (nI sz)) 9 (nI at9)) 9 (nI at2)) 2 (nI sz)) (updR R 1 (.ref pq)) Z (updA B 10 f9) J K2.1 (fun q99 x99 => x99 = rep G a K2 q99) w := hO.to rfl
                  obtain ⟨_, qr599, hqr600⟩ := hO.2.1 2 _ (sg_2 G h0 a _ _ _ _ _)
                  refine pn_V0 (G := G) (As := [.int 2, .int (nI at2)]) (rest := []) hx hb hml hown hq hE hX pX0_al hP hD hS hA hl.1 (K_fail l G h0 a (upd (upd (upd F 2 (nI sz)) 9 (nI at9)) 9 (nI at2)) (updR R 1 (.ref pq)) Z (updA B 10 f9) J K2.1 (fun q99 x99 => x99 = rep G a K2 q99) w 2 (nI at2) sz (by omega) hO hl0) (gV pw_779 pw_65 pw_66 pw_59 pw_43) hV_X10_fail qr599 7 hqr600 rfl rfl rfl (Nat.le_of_ble_eq_true rfl) dX8_head_154 ⟨(by show (3 + 2 * np) + 1 ≤ (2 * (sz - at9) + 10); omega), (by show (120 + 11 * np + 4 * cp2) + 6 ≤ (60 * (sz - at9) + 400); omega)⟩ ⟨Nat.le_of_ble_eq_true rfl, Nat.le_of_ble_eq_true rfl⟩ (fun v598 u596 H locs hw597 hP hD hS => hw597.elim) (fun ux ce9 q9 H9 locs9 hux hP9 hD9 hS9 hce hcv hcl => pb_out ux (ThQ.up (Thx.same (Thx.b (Thx.f Thx.rfl (by omega)) (by omega) (by decide)) rfl) RhX.rfl hux) hnt hlocks hce hcv hcl hP9 hD9 hS9 (by show (3 + 2 * np) + 1 ≤ (2 * (sz - at9) + 10); omega) (by show (120 + 11 * np + 4 * cp2) + 6 ≤ (60 * (sz - at9) + 400); omega))
              · have n601 : r513 = 0 := (nI_eq (a := r513) (b := 0) (by omega) (by omega)).mp c516
                refine lv_aload_n hx hb dX8_head_103 rfl (lv_at hl 6 rfl) ?_
                refine lv_iconst (v := 1) hx hb dX8_head_104 (by decide) ?_
                have hO : OKW G h0 a (upd (upd (upd (upd F 2 (nI sz)) 9 (nI at2)) 2 (nI sz)) 9 (nI at2)) (updR R 1 (.ref pq)) Z (updA B 10 f9) J K2.1 (fun q99 x99 => x99 = rep G a K2 q99) w := hO.to rfl
                obtain ⟨_, qr605, hqr606⟩ := hO.2.1 23 _ (sg_23 G h0 a _ _ _ _ _)
                refine pc_V0 (G := G) (As := [.int 1]) (rest := []) hx hb hml hown hq hE hX pX0_al hP hD hS hA hl.1 (P_sees l G h0 a (upd (upd F 2 (nI sz)) 9 (nI at2)) (updR R 1 (.ref pq)) Z (updA B 10 f9) J K2.1 (fun q99 x99 => x99 = rep G a K2 q99) w 1 at2 sz (by omega) (by omega) hO) (gV pw_803 pw_804 pw_805 pw_796 pw_775) hV_X8_sees qr605 5 hqr606 rfl rfl rfl (Nat.le_of_ble_eq_true rfl) dX8_head_105 ⟨(by show (3 + 2 * np) + 0 ≤ (2 * (sz - at9) + 10); omega), (by show (120 + 11 * np + 4 * cp2) + 0 ≤ (60 * (sz - at9) + 400); omega)⟩ ⟨Nat.le_of_ble_eq_true rfl, Nat.le_of_ble_eq_true rfl⟩ (fun v604 u602 H locs hw603 hP hD hS => ?_)
                obtain ⟨w, r607⟩ := u602
                obtain ⟨hw603, h608, h609, hO⟩ := hw603
                have h608 : r607 ≤ 1 := h608
                have h609 : SeQ ((B 7)) sz at2 1 r607 := h609
                obtain rfl : v604 = some (.int (nI r607)) := hw603
                have hO : OKP G h0 a (upd (upd F 2 (nI sz)) 9 (nI at2)) (updR R 1 (.ref pq)) Z (updA B 10 f9) J K2 w := hO.to rfl
                refine W.widen (k := (3 + 2 * np)) (n := (120 + 11 * np + 4 * cp2)) (by show (3 + 2 * np) + 0 ≤ (3 + 2 * np); omega) (by show (120 + 11 * np + 4 * cp2) + 0 ≤ (120 + 11 * np + 4 * cp2); omega) ?_
                refine W.eq (g2 := F0 m 108 ls [.int (nI r607)]) rfl ?_
                refine lv_if_ne (tgt := 120) hx hb dX8_head_108 (by decide) (fun c610 => ?_) (fun c610 => ?_)
                · have n611 : ¬ (r607 = 0) := fun h9 => c610 ((nI_eq (a := r607) (b := 0) (by omega) (by omega)).mpr h9)
                  refine lv_iconst (v := 1) hx hb dX8_head_120 (by decide) ?_
                  refine lv_goto (tgt := 125) hx hb dX8_head_121 (by decide) ?_
                  refine lv_istore (lv' := [(7, .int 1), (6, .int (nI i2)), (5, .int mo2), (4, .ref q2), (3, .int (nI tk)), (2, .int x1), (1, .ref d0), (0, .ref (a 3))]) hx hb dX8_head_125 hl (by decide) rfl (fun ls hl => ?_)
                  refine lv_iload hx hb dX8_head_127 (lv_at hl 0 rfl) ?_
                  refine lv_if_eq (tgt := 157) hx hb dX8_head_129 (by decide) (fun c612 => absurd c612 (by decide)) (fun c612 => ?_)
                  refine lv_aload hx hb dX8_head_132 (lv_at hl 3 rfl) ?_
                  refine p_get (v := .ref f2) (C := RX6) (Tc := TX6) (N := 12) (ci := 12) hx hb hq pin_wsX60 hown hE hP hO (by rw [hq2]; decide) (rep_3 hq2) rfl 4 (by decide) (hq _ pw_881) (fun _ h9 => h9) (congrArg (fun z => some (va_rf z)) hc62) dX8_head_134 ?_
                  have hO : OKP G h0 a (upd (upd F 2 (nI sz)) 9 (nI at2)) (updR R 1 (.ref pq)) Z (updA B 10 f9) J K2 w := hO.to rfl
                  obtain ⟨qr616, hqr617⟩ := p_recv hO (by rw [ht2]; decide) (rep_5 ht2)
                  refine pc_V0 (G := G) (As := []) (rest := []) hx hb hml hown hq hE hX pX0_al hP hD hS hA hl.1 (L_size l G h0 a (upd (upd F 2 (nI sz)) 9 (nI at2)) (updR R 1 (.ref pq)) Z (updA B 10 f9) J K2 w f2 1 np it2 hlc2.ls hO) (gV pw_882 pw_87 pw_88 pw_32 pw_16) hV_Jx4a65c_size_8abf5 qr616 10 hqr617 rfl rfl rfl (Nat.le_of_ble_eq_true rfl) dX8_head_137 ⟨(by show (3 + 2 * np) + 0 ≤ (2 * (sz - at9) + 10); omega), (by show (120 + 11 * np + 4 * cp2) + 0 ≤ (60 * (sz - at9) + 400); omega)⟩ ⟨Nat.le_of_ble_eq_true rfl, Nat.le_of_ble_eq_true rfl⟩ (fun v615 u613 H locs hw614 hP hD hS => ?_)
                  obtain ⟨w, _⟩ := u613
                  obtain ⟨hw614, hO⟩ := hw614
                  obtain rfl : v615 = some (.int (nI np)) := hw614
                  have hO : OKP G h0 a (upd (upd F 2 (nI sz)) 9 (nI at2)) (updR R 1 (.ref pq)) Z (updA B 10 f9) J K2 w := hO.to rfl
                  refine W.widen (k := (3 + 2 * np)) (n := (120 + 11 * np + 4 * cp2)) (by show (3 + 2 * np) + 0 ≤ (3 + 2 * np); omega) (by show (120 + 11 * np + 4 * cp2) + 0 ≤ (120 + 11 * np + 4 * cp2); omega) ?_
                  refine W.eq (g2 := F0 m 140 ls [.int (nI np)]) rfl ?_
                  refine lv_bipush (v := 8) hx hb dX8_head_140 (by decide) ?_
                  refine lv_icmp_lt (tgt := 157) hx hb dX8_head_142 (by decide) (fun c618 => ?_) (fun c618 => ?_)
                  · have n619 : np < 8 := (nI_ltI (a := np) (b := 8) (by omega) (by omega)).mp c618
                    refine lv_aload_n hx hb dX8_head_157 rfl (lv_at hl 7 rfl) ?_
                    refine lv_iconst (v := 1) hx hb dX8_head_158 (by decide) ?_
                    have hO : OKW G h0 a (upd (upd (upd (upd (upd F 2 (nI sz)) 9 (nI at9)) 9 (nI at2)) 2 (nI sz)) 9 (nI at2)) (updR R 1 (.ref pq)) Z (updA B 10 f9) J K2.1 (fun q99 x99 => x99 = rep G a K2 q99) w := hO.to rfl
                    obtain ⟨_, qr623, hqr624⟩ := hO.2.1 23 _ (sg_23 G h0 a _ _ _ _ _)
                    refine pn_V0 (G := G) (As := [.int 1]) (rest := []) hx hb hml hown hq hE hX pX0_al hP hD hS hA hl.1 (P_takeType l G h0 a (upd (upd (upd F 2 (nI sz)) 9 (nI at9)) 9 (nI at2)) (updR R 1 (.ref pq)) Z (updA B 10 f9) J K2.1 (fun q99 x99 => x99 = rep G a K2 q99) w 1 at2 sz (by omega) (by omega) hO hl0) (gV pw_825 pw_826 pw_827 pw_796 pw_821) hV_X8_takeType qr623 5 hqr624 rfl rfl rfl (Nat.le_of_ble_eq_true rfl) dX8_head_159 ⟨(by show (3 + 2 * np) + 1 ≤ (2 * (sz - at9) + 10); omega), (by show (120 + 11 * np + 4 * cp2) + 6 ≤ (60 * (sz - at9) + 400); omega)⟩ ⟨Nat.le_of_ble_eq_true rfl, Nat.le_of_ble_eq_true rfl⟩ (fun v622 u620 H locs hw621 hP hD hS => ?_) (fun ux ce9 q9 H9 locs9 hux hP9 hD9 hS9 hce hcv hcl => pb_out ux (ThQ.up (Thx.same (Thx.same (Thx.b (Thx.f Thx.rfl (by omega)) (by omega) (by decide)) rfl) rfl) RhX.rfl hux) hnt hlocks hce hcv hcl hP9 hD9 hS9 (by show (3 + 2 * np) + 1 ≤ (2 * (sz - at9) + 10); omega) (by show (120 + 11 * np + 4 * cp2) + 6 ≤ (60 * (sz - at9) + 400); omega))
                    obtain ⟨w, at625, f626⟩ := u620
                    obtain ⟨hw621, h627, h628, h629, h630, hO⟩ := hw621
                    have h627 : at2 + 1 ≤ at625 ∧ at625 ≤ sz := h627
                    have h628 : RoS (f9) f626 at2 := h628
                    have h629 : TtQ ((B 7)) sz f626 at2 := h629
                    have h630 : (1 : Int32) = 0 → at625 = at2 + 1 := h630
                    obtain rfl : v622 = some (.int (nI at2)) := hw621
                    have hO : OKP G h0 a (upd (upd F 2 (nI sz)) 9 (nI at625)) (updR R 1 (.ref pq)) Z (updA B 10 f626) J K2 w := hO.to rfl
                    refine W.widen (k := (3 + 2 * np)) (n := (120 + 11 * np + 4 * cp2)) (by show (3 + 2 * np) + 0 ≤ (3 + 2 * np); omega) (by show (120 + 11 * np + 4 * cp2) + 0 ≤ (120 + 11 * np + 4 * cp2); omega) ?_
                    refine W.eq (g2 := F0 m 162 ls [.int (nI at2)]) rfl ?_
                    have htk631 : NwT (B 7) sz (B 10) f626 K K2 at9 at2 := (NwT.role htki h628 (by omega))
                    refine lv_istore (lv' := [(8, .int (nI at2)), (7, .int 1), (6, .int (nI i2)), (5, .int mo2), (4, .ref q2), (3, .int (nI tk)), (2, .int x1), (1, .ref d0), (0, .ref (a 3))]) hx hb dX8_head_162 hl (by decide) rfl (fun ls hl => ?_)
                    refine lv_aload hx hb dX8_head_164 (lv_at hl 4 rfl) ?_
                    refine p_get (v := .ref f2) (C := RX6) (Tc := TX6) (N := 12) (ci := 12) hx hb hq pin_wsX60 hown hE hP hO (by rw [hq2]; decide) (rep_3 hq2) rfl 4 (by decide) (hq _ pw_881) (fun _ h9 => h9) (congrArg (fun z => some (va_rf z)) hc62) dX8_head_166 ?_
                    refine lv_aload_n hx hb dX8_head_169 rfl (lv_at hl 8 rfl) ?_
                    refine lv_iload hx hb dX8_head_170 (lv_at hl 0 rfl) ?_
                    refine lv_aload_n hx hb dX8_head_172 rfl (lv_at hl 8 rfl) ?_
                    refine lv_bipush (v := 65) hx hb dX8_head_173 (by decide) ?_
                    have hO : OKW G h0 a (upd (upd (upd (upd (upd F 2 (nI sz)) 9 (nI at9)) 9 (nI at625)) 2 (nI sz)) 9 (nI at625)) (updR R 1 (.ref pq)) Z (updA B 10 f626) J K2.1 (fun q99 x99 => x99 = rep G a K2 q99) w := hO.to rfl
                    obtain ⟨_, qr635, hqr636⟩ := hO.2.1 23 _ (sg_23 G h0 a _ _ _ _ _)
                    refine pn_V0 (G := G) (As := [.int 65]) (rest := [.int (nI at2), .ref (a 3), .ref f2]) hx hb hml hown hq hE hX pX0_al hP hD hS hA hl.1 (P_take l G h0 a (upd (upd (upd F 2 (nI sz)) 9 (nI at9)) 9 (nI at625)) (updR R 1 (.ref pq)) Z (updA B 10 f626) J K2.1 (fun q99 x99 => x99 = rep G a K2 q99) w 65 at625 sz (by omega) (by omega) (by decide) hO hl0) (gV pw_793 pw_794 pw_795 pw_796 pw_781) hV_X8_take qr635 5 hqr636 rfl rfl rfl (Nat.le_of_ble_eq_true rfl) dX8_head_175 ⟨(by show (3 + 2 * np) + 1 ≤ (2 * (sz - at9) + 10); omega), (by show (120 + 11 * np + 4 * cp2) + 6 ≤ (60 * (sz - at9) + 400); omega)⟩ ⟨Nat.le_of_ble_eq_true rfl, Nat.le_of_ble_eq_true rfl⟩ (fun v634 u632 H locs hw633 hP hD hS => ?_) (fun ux ce9 q9 H9 locs9 hux hP9 hD9 hS9 hce hcv hcl => pb_out ux (ThQ.up (Thx.same (Thx.same (Thx.b (Thx.f Thx.rfl (by omega)) (by omega) (by decide)) rfl) rfl) RhX.rfl hux) hnt hlocks hce hcv hcl hP9 hD9 hS9 (by show (3 + 2 * np) + 1 ≤ (2 * (sz - at9) + 10); omega) (by show (120 + 11 * np + 4 * cp2) + 6 ≤ (60 * (sz - at9) + 400); omega))
                    obtain ⟨w, _⟩ := u632
                    obtain ⟨hw633, h637, h638, hO⟩ := hw633
                    have h637 : at625 + 1 ≤ sz := h637
                    have h638 : tkN ((B 7)) sz 67 (nI at625) = 65 := h638
                    obtain rfl : v634 = some (.int (nI at625)) := hw633
                    have hO : OKP G h0 a (upd (upd F 2 (nI sz)) 9 (nI (at625 + 1))) (updR R 1 (.ref pq)) Z (updA B 10 f626) J K2 w := hO.to rfl
                    refine W.widen (k := (3 + 2 * np)) (n := (120 + 11 * np + 4 * cp2)) (by show (3 + 2 * np) + 0 ≤ (3 + 2 * np); omega) (by show (120 + 11 * np + 4 * cp2) + 0 ≤ (120 + 11 * np + 4 * cp2); omega) ?_
                    refine W.eq (g2 := F0 m 178 ls [.int (nI at625), .int (nI at2), .ref (a 3), .ref f2]) rfl ?_
                    have hO : OKP G h0 a (upd (upd (upd F 2 (nI sz)) 9 (nI (at625 + 1))) 2 (nI sz)) (updR R 1 (.ref pq)) Z (updA B 10 f626) J K2 w := hO.to rfl
                    obtain ⟨_, qr642, hqr643⟩ := hO.2.1 23 _ (sg_23 G h0 a _ _ _ _ _)
                    refine pc_V0 (G := G) (As := [.int (nI at2), .int (nI at625)]) (rest := [.ref f2]) hx hb hml hown hq hE hX pX0_al hP hD hS hA hl.1 (P_variable l G h0 a (upd (upd F 2 (nI sz)) 9 (nI (at625 + 1))) (updR R 1 (.ref pq)) Z (updA B 10 f626) J K2 w (nI at2) (nI at625) sz 0 (rK 0 1 0 0 0 0) g2 (by omega) hwp2.1 (fun o9 h9 => absurd h9 (by omega)) (Itv.of (by omega)) hO) (gV pw_888 pw_889 pw_890 pw_796 pw_869) hV_X8_variable qr642 5 hqr643 rfl rfl rfl (Nat.le_of_ble_eq_true rfl) dX8_head_178 ⟨(by show (3 + 2 * np) + 1 ≤ (2 * (sz - at9) + 10); omega), (by show (120 + 11 * np + 4 * cp2) + 11 ≤ (60 * (sz - at9) + 400); omega)⟩ ⟨Nat.le_of_ble_eq_true rfl, Nat.le_of_ble_eq_true rfl⟩ (fun v641 u639 H locs hw640 hP hD hS => ?_)
                    obtain ⟨w, r644, K645, g646⟩ := u639
                    obtain ⟨hw640, h647, h648, h649, hO⟩ := hw640
                    have h647 : NwR K2 K645 g2 g646 r644 0 (rK 0 1 0 0 0 0) 1 := h647
                    have h648 : K645.2.1 0 r644 = 36 := h648
                    have h649 : VaT K2 K645 := h649
                    obtain rfl : v641 = some (.ref r644) := hw640
                    have hf650 : K645.1 q2 = 3 := (((h647).2.1.1 q2 (by rw [hq2]; decide)).1).trans hq2
                    have hf651 : K645.1 d0 = 4 := (((h647).2.1.1 d0 (by rw [hd2]; decide)).1).trans hd2
                    have hf652 : K645.1 f2 = 5 := (((h647).2.1.1 f2 (by rw [ht2]; decide)).1).trans ht2
                    have hf653 : K645.2.2.1 6 q2 = some f2 := (((h647).2.1.1 q2 (by rw [hq2]; decide)).2.2.1 6).trans hc62
                    have hO : OKP G h0 a (upd (upd F 2 (nI sz)) 9 (nI (at625 + 1))) (updR R 1 (.ref pq)) Z (updA B 10 f626) J K645 w := hO.to rfl
                    refine W.widen (k := ((3 + 2 * np) + 1)) (n := ((120 + 11 * np + 4 * cp2) + 11)) (by show (3 + 2 * np) + 1 ≤ ((3 + 2 * np) + 1); omega) (by show (120 + 11 * np + 4 * cp2) + 11 ≤ ((120 + 11 * np + 4 * cp2) + 11); omega) ?_
                    refine W.eq (g2 := F0 m 181 ls [.ref r644, .ref f2]) rfl ?_
                    have htk654 : NwT (B 7) sz (B 10) f626 K K645 at9 (at625 + 1) := (NwT.call (NwT.le htk631 (show _ ≤ (at625 + 1) by omega)) (h649 (B 7) f626 sz (at625 + 1)) (Nat.le_refl _))
                    have hwp655 := WPr.nd hwp2 h647
                    have hps656 := PgS.nd hps2 hwp2 h647
                    have hf657 : K645.1 r644 = 1 := h647.2.2.1.2.1
                    have hpz658 := PzK.nds hpz2 hwp2 h647.2.1 h647.new1
                    have hlc659 : LsC G K645 f2 1 np it2 cp2 := (LsC.wx (fun p hp => (h647.2.1.1 p hp).1) (by decide) (h647.2.1.1 f2 (by rw [ht2]; decide)) (fun e he _ => h647.2.1.1 e (by rw [he]; decide)) hlc2)
                    have hO : OKP G h0 a (upd (upd (upd F 2 (nI sz)) 9 (nI at9)) 9 (nI (at625 + 1))) (updR R 1 (.ref pq)) Z (updA B 10 f626) J K645 w := hO.to rfl
                    obtain ⟨qr663, hqr664⟩ := p_recv hO (by rw [hf652]; decide) (rep_5 hf652)
                    refine pn_V0 (G := G) (As := [.ref r644]) (rest := []) hx hb hml hown hq hE hX pX0_al hP hD hS hA hl.1 (L_addC l G h0 a (upd (upd (upd F 2 (nI sz)) 9 (nI at9)) 9 (nI (at625 + 1))) (updR R 1 (.ref pq)) Z (updA B 10 f626) J K645 w f2 1 np it2 cp2 r644 hlc659 (by decide) hf657 (by omega) (by omega) hO hl0) (gV pw_885 pw_886 pw_887 pw_32 pw_868) hV_Jx4a65c_add_9ea2d qr663 10 hqr664 rfl rfl rfl (Nat.le_of_ble_eq_true rfl) dX8_head_181 ⟨(by show ((3 + 2 * np) + 1) + 1 ≤ (2 * (sz - at9) + 10); omega), (by show ((120 + 11 * np + 4 * cp2) + 11) + (10 + np + np / 2) ≤ (60 * (sz - at9) + 400); omega)⟩ ⟨Nat.le_of_ble_eq_true rfl, Nat.le_of_ble_eq_true rfl⟩ (fun v662 u660 H locs hw661 hP hD hS => ?_) (fun ux ce9 q9 H9 locs9 hux hP9 hD9 hS9 hce hcv hcl => pb_out ux (ThQ.up (Thx.b (Thx.f Thx.rfl (by omega)) (by omega) (by decide)) RhX.rfl hux) hnt hlocks hce hcv hcl hP9 hD9 hS9 (by show ((3 + 2 * np) + 1) + 1 ≤ (2 * (sz - at9) + 10); omega) (by show ((120 + 11 * np + 4 * cp2) + 11) + (10 + np + np / 2) ≤ (60 * (sz - at9) + 400); omega))
                    obtain ⟨w, K665, d666⟩ := u660
                    obtain ⟨hw661, h667, h668, h669, h670, h671, hO⟩ := hw661
                    have h667 : LsC G K665 f2 1 (np + 1) (upQ it2 np r644) (cp2 + d666) := h667
                    have h668 : AdQ K645 K665 f2 := h668
                    have h669 : N6 K645 K665 := h669
                    have h670 : cp2 + d666 ≤ 10 + 2 * (np + 1) := h670
                    have h671 : d666 ≤ 10 + np / 2 := h671
                    obtain rfl : v662 = some (.int 1) := hw661
                    have hO : OKP G h0 a (upd (upd F 2 (nI sz)) 9 (nI (at625 + 1))) (updR R 1 (.ref pq)) Z (updA B 10 f626) J K665 w := hO.to rfl
                    refine W.widen (k := (((3 + 2 * np) + 1) + 1)) (n := (((120 + 11 * np + 4 * cp2) + 11) + (4 * d666))) (by show ((3 + 2 * np) + 1) + 1 ≤ (((3 + 2 * np) + 1) + 1); omega) (by show ((120 + 11 * np + 4 * cp2) + 11) + (4 * d666) ≤ (((120 + 11 * np + 4 * cp2) + 11) + (4 * d666)); omega) ?_
                    refine W.eq (g2 := F0 m 184 ls [.int 1]) rfl ?_
                    have htk672 : NwT (B 7) sz (B 10) f626 K K665 at9 (at625 + 1) := (NwT.ad htk654 h668 h669 hf652)
                    have hg673 : g646 3 f2 = 3 := (h647.2.1.2 f2 (by rw [ht2]; decide) 3).trans hr2
                    have hwp674 : WPr G K665 g646 := WPr.add hwp655 h668 h669 hf652 (by rw [hg673]; exact h667) (by rw [hg673]; show _ ≤ 5000 ∧ _; omega)
                    have hps675 : PgS G K665 g646 (a 1) pq dr ml nd nm cp it s2 := by have z9 := PgS.add hps656 hwp655 h668 h669 hf652 (fun z => by have z2 := hg673; rw [z, hps656.1.2.2.2.2.2.2.1] at z2; exact absurd z2 (by decide)) (by rw [szL_of h667, szL_of hlc659]) (by rw [hg673]; decide) (by rw [hg673]; decide) (fun z => by rw [hg673] at z; exact absurd z (by decide)); rw [hg673] at z9; exact z9
                    have hf676 : K665.1 q2 = 3 := (h668.1 q2 (by rw [hf650]; decide)).1.trans hf650
                    have hf677 : K665.1 d0 = 4 := (h668.1 d0 (by rw [hf651]; decide)).1.trans hf651
                    have hf678 : K665.1 f2 = 5 := (h668.1 f2 (by rw [hf652]; decide)).1.trans hf652
                    have hf679 : K665.1 r644 = 1 := (h668.1 r644 (by rw [hf657]; decide)).1.trans hf657
                    have hon9 : Onc K665 dr nd q2 := Onc.add (Onc.ext hon2 hps2.2.1 hwp2 hps2.1.2.2.2.1 h647.2.1.1) hps656.2.1 hwp655 hps656.1.2.2.2.1 h668 hf652 (by rw [hg673]; decide)
                    have hpzP := PzK.addP hpz658 hwp655 h668 h669 ((h647.2.1.1 q2 (by rw [hq2]; decide)).1.trans hq2) (((h647.2.1.1 q2 (by rw [hq2]; decide)).2.2.1 6).trans hc62) h667 (by omega)
                    have hmeP := MeI.ad (MeI.sm hme2 hd2 h647.2.1.1) hwp655 ((h647.2.1.1 d0 (by rw [hd2]; decide)).1.trans hd2) h668 hf652 (by rw [hg673]; decide)
                    have h9P : K665.2.1 9 q2 = -1 := ((AdQ.sm h668 (p := q2) (by rw [((h647.2.1.1 q2 (by rw [hq2]; decide)).1.trans hq2)]; decide) (fun z => by have z2 := ((h647.2.1.1 q2 (by rw [hq2]; decide)).1.trans hq2); rw [z, hf652] at z2; exact absurd z2 (by decide)) (by rw [((h647.2.1.1 q2 (by rw [hq2]; decide)).1.trans hq2)]; decide)).2.1 9).trans (((h647.2.1.1 q2 (by rw [hq2]; decide)).2.1 9).trans h92)
                    have h18P : K665.2.1 18 d0 = K.2.1 18 d0 := ((AdQ.sm h668 (p := d0) (by rw [((h647.2.1.1 d0 (by rw [hd2]; decide)).1.trans hd2)]; decide) (fun z => by have z2 := ((h647.2.1.1 d0 (by rw [hd2]; decide)).1.trans hd2); rw [z, hf652] at z2; exact absurd z2 (by decide)) (by rw [((h647.2.1.1 d0 (by rw [hd2]; decide)).1.trans hd2)]; decide)).2.1 18).trans (((h647.2.1.1 d0 (by rw [hd2]; decide)).2.1 18).trans h18k2)
                    have hg5P : g646 5 d0 = 0 := (h647.2.1.2 d0 (by rw [hd2]; decide) 5).trans hg52
                    refine lv_pop hx hb dX8_head_184 rfl ?_
                    refine lv_aload_n hx hb dX8_head_185 rfl (lv_at hl 8 rfl) ?_
                    refine lv_bipush (v := 39) hx hb dX8_head_186 (by decide) ?_
                    have hO : OKW G h0 a (upd (upd (upd (upd F 2 (nI sz)) 9 (nI (at625 + 1))) 2 (nI sz)) 9 (nI (at625 + 1))) (updR R 1 (.ref pq)) Z (updA B 10 f626) J K665.1 (fun q99 x99 => x99 = rep G a K665 q99) w := hO.to rfl
                    obtain ⟨_, qr683, hqr684⟩ := hO.2.1 23 _ (sg_23 G h0 a _ _ _ _ _)
                    refine pc_V0 (G := G) (As := [.int 39]) (rest := []) hx hb hml hown hq hE hX pX0_al hP hD hS hA hl.1 (P_takeIf l G h0 a (upd (upd F 2 (nI sz)) 9 (nI (at625 + 1))) (updR R 1 (.ref pq)) Z (updA B 10 f626) J K665.1 (fun q99 x99 => x99 = rep G a K665 q99) w 39 (at625 + 1) sz (by omega) (by omega) (by decide) hO) (gV pw_797 pw_798 pw_799 pw_796 pw_789) hV_X8_takeIf qr683 5 hqr684 rfl rfl rfl (Nat.le_of_ble_eq_true rfl) dX8_head_188 ⟨(by show (((3 + 2 * np) + 1) + 1) + 0 ≤ (2 * (sz - at9) + 10); omega), (by show (((120 + 11 * np + 4 * cp2) + 11) + (4 * d666)) + 0 ≤ (60 * (sz - at9) + 400); omega)⟩ ⟨Nat.le_of_ble_eq_true rfl, Nat.le_of_ble_eq_true rfl⟩ (fun v682 u680 H locs hw681 hP hD hS => ?_)
                    obtain ⟨w, r685⟩ := u680
                    obtain ⟨hw681, h686, h687, h688, hO⟩ := hw681
                    have h686 : r685 ≤ 1 := h686
                    have h687 : (at625 + 1) + r685 ≤ sz := h687
                    have h688 : SeQ ((B 7)) sz (at625 + 1) 39 r685 := h688
                    obtain rfl : v682 = some (.int (nI r685)) := hw681
                    have hO : OKP G h0 a (upd (upd F 2 (nI sz)) 9 (nI ((at625 + 1) + r685))) (updR R 1 (.ref pq)) Z (updA B 10 f626) J K665 w := hO.to rfl
                    refine W.widen (k := (((3 + 2 * np) + 1) + 1)) (n := (((120 + 11 * np + 4 * cp2) + 11) + (4 * d666))) (by show (((3 + 2 * np) + 1) + 1) + 0 ≤ (((3 + 2 * np) + 1) + 1); omega) (by show (((120 + 11 * np + 4 * cp2) + 11) + (4 * d666)) + 0 ≤ (((120 + 11 * np + 4 * cp2) + 11) + (4 * d666)); omega) ?_
                    refine W.eq (g2 := F0 m 191 ls [.int (nI r685)]) rfl ?_
                    refine lv_istore (lv' := [(5, .int (nI r685)), (8, .int (nI at2)), (7, .int 1), (6, .int (nI i2)), (4, .ref q2), (3, .int (nI tk)), (2, .int x1), (1, .ref d0), (0, .ref (a 3))]) hx hb dX8_head_191 hl (by decide) rfl (fun ls hl => ?_)
                    refine lv_iinc (v := (nI (i2 + 1))) (lv' := [(6, .int (nI (i2 + 1))), (5, .int (nI r685)), (8, .int (nI at2)), (7, .int 1), (4, .ref q2), (3, .int (nI tk)), (2, .int x1), (1, .ref d0), (0, .ref (a 3))]) hx hb dX8_head_193 hl (k := 3) rfl (nI_1 i2) (by decide) rfl (fun ls hl => ?_)
                    refine lv_goto (tgt := 77) hx hb dX8_head_196 (by decide) ?_
                    refine W.widen (k := (3 + 2 * (np + 1))) (n := (120 + 11 * (np + 1) + 4 * (cp2 + d666))) (by show (((3 + 2 * np) + 1) + 1) ≤ _; omega) (by show (((120 + 11 * np + 4 * cp2) + 11) + (4 * d666)) ≤ _; omega) ?_
                    have hO : OKP G h0 a (upd (upd F 2 (nI sz)) 9 (nI ((at625 + 1) + r685))) (updR R 1 (.ref pq)) Z (updA B 10 f626) J K665 w := hO.to rfl
                    exact ih_i (i2 + 1) ((at625 + 1) + r685) f626 (nI r685) K665 g646 q2 f2 (np + 1) (cp2 + d666) (upQ it2 np r644) s2 _ _ _ _ (by omega) (by omega) (by omega) hwp674 hps675 (by omega) hf676 hf677 (((AdQ.sm h668 (by rw [hf650]; decide) (fun z => by have z2 := hf650; rw [z, hf652] at z2; exact absurd z2 (by decide)) (by rw [hf650]; decide)).2.2.1 6).trans ((h647.2.1.1 q2 (by rw [hq2]; decide)).2.2.1 6 |>.trans hc62)) hg673 h667 (by omega) hon9 hpzP hmeP h9P h18P hg5P (NwT.le htk672 (by omega)) hP hD hS hO (lv_sub hl [0, 1, 4, 5, 6, 7, 8] rfl)
                  · have n689 : ¬ (np < 8) := fun h9 => c618 ((nI_ltI (a := np) (b := 8) (by omega) (by omega)).mpr h9)
                    refine lv_aload_n hx hb dX8_head_145 rfl (lv_at hl 7 rfl) ?_
                    refine c_get (v := .ref (a 1)) (C := RX8) (Tc := TX8) (N := 5) (ci := 5) hx hb hq pin_wsX80 hown hE hP hO 23 (sg_23 G h0 a _ _ _ _ _) rfl 0 (by decide) (hq _ pw_774) (fun _ h9 => h9) rfl dX8_head_146 ?_
                    refine lv_iconst (v := 2) hx hb dX8_head_149 (by decide) ?_
                    refine lv_aload_n hx hb dX8_head_150 rfl (lv_at hl 7 rfl) ?_
                    refine c_get (v := .int (nI at2)) (C := RX8) (Tc := TX8) (N := 5) (ci := 5) hx hb hq pin_wsX80 hown hE hP hO 23 (sg_23 G h0 a _ _ _ _ _) rfl 2 (by decide) (hq _ pw_776) (fun _ h9 => h9) rfl dX8_head_151 ?_
                    have hO : OKW G h0 a (upd (upd (upd (upd F 2 (nI sz)) 9 (nI at9)) 9 (nI at2)) 2 (nI sz)) (updR R 1 (.ref pq)) Z (updA B 10 f9) J K2.1 (fun q99 x99 => x99 = rep G a K2 q99) w := hO.to rfl
                    obtain ⟨_, qr693, hqr694⟩ := hO.2.1 2 _ (sg_2 G h0 a _ _ _ _ _)
                    refine pn_V0 (G := G) (As := [.int 2, .int (nI at2)]) (rest := []) hx hb hml hown hq hE hX pX0_al hP hD hS hA hl.1 (K_fail l G h0 a (upd (upd (upd F 2 (nI sz)) 9 (nI at9)) 9 (nI at2)) (updR R 1 (.ref pq)) Z (updA B 10 f9) J K2.1 (fun q99 x99 => x99 = rep G a K2 q99) w 2 (nI at2) sz (by omega) hO hl0) (gV pw_779 pw_65 pw_66 pw_59 pw_43) hV_X10_fail qr693 7 hqr694 rfl rfl rfl (Nat.le_of_ble_eq_true rfl) dX8_head_154 ⟨(by show (3 + 2 * np) + 1 ≤ (2 * (sz - at9) + 10); omega), (by show (120 + 11 * np + 4 * cp2) + 6 ≤ (60 * (sz - at9) + 400); omega)⟩ ⟨Nat.le_of_ble_eq_true rfl, Nat.le_of_ble_eq_true rfl⟩ (fun v692 u690 H locs hw691 hP hD hS => hw691.elim) (fun ux ce9 q9 H9 locs9 hux hP9 hD9 hS9 hce hcv hcl => pb_out ux (ThQ.up (Thx.same (Thx.b (Thx.f Thx.rfl (by omega)) (by omega) (by decide)) rfl) RhX.rfl hux) hnt hlocks hce hcv hcl hP9 hD9 hS9 (by show (3 + 2 * np) + 1 ≤ (2 * (sz - at9) + 10); omega) (by show (120 + 11 * np + 4 * cp2) + 6 ≤ (60 * (sz - at9) + 400); omega))
                · have n695 : r607 = 0 := (nI_eq (a := r607) (b := 0) (by omega) (by omega)).mp c610
                  refine lv_aload_n hx hb dX8_head_111 rfl (lv_at hl 6 rfl) ?_
                  refine lv_bipush (v := 65) hx hb dX8_head_112 (by decide) ?_
                  have hO : OKW G h0 a (upd (upd (upd (upd F 2 (nI sz)) 9 (nI at2)) 2 (nI sz)) 9 (nI at2)) (updR R 1 (.ref pq)) Z (updA B 10 f9) J K2.1 (fun q99 x99 => x99 = rep G a K2 q99) w := hO.to rfl
                  obtain ⟨_, qr699, hqr700⟩ := hO.2.1 23 _ (sg_23 G h0 a _ _ _ _ _)
                  refine pc_V0 (G := G) (As := [.int 65]) (rest := []) hx hb hml hown hq hE hX pX0_al hP hD hS hA hl.1 (P_sees l G h0 a (upd (upd F 2 (nI sz)) 9 (nI at2)) (updR R 1 (.ref pq)) Z (updA B 10 f9) J K2.1 (fun q99 x99 => x99 = rep G a K2 q99) w 65 at2 sz (by omega) (by omega) hO) (gV pw_803 pw_804 pw_805 pw_796 pw_775) hV_X8_sees qr699 5 hqr700 rfl rfl rfl (Nat.le_of_ble_eq_true rfl) dX8_head_114 ⟨(by show (3 + 2 * np) + 0 ≤ (2 * (sz - at9) + 10); omega), (by show (120 + 11 * np + 4 * cp2) + 0 ≤ (60 * (sz - at9) + 400); omega)⟩ ⟨Nat.le_of_ble_eq_true rfl, Nat.le_of_ble_eq_true rfl⟩ (fun v698 u696 H locs hw697 hP hD hS => ?_)
                  obtain ⟨w, r701⟩ := u696
                  obtain ⟨hw697, h702, h703, hO⟩ := hw697
                  have h702 : r701 ≤ 1 := h702
                  have h703 : SeQ ((B 7)) sz at2 65 r701 := h703
                  obtain rfl : v698 = some (.int (nI r701)) := hw697
                  have hO : OKP G h0 a (upd (upd F 2 (nI sz)) 9 (nI at2)) (updR R 1 (.ref pq)) Z (updA B 10 f9) J K2 w := hO.to rfl
                  refine W.widen (k := (3 + 2 * np)) (n := (120 + 11 * np + 4 * cp2)) (by show (3 + 2 * np) + 0 ≤ (3 + 2 * np); omega) (by show (120 + 11 * np + 4 * cp2) + 0 ≤ (120 + 11 * np + 4 * cp2); omega) ?_
                  refine W.eq (g2 := F0 m 117 ls [.int (nI r701)]) rfl ?_
                  refine lv_if_eq (tgt := 124) hx hb dX8_head_117 (by decide) (fun c704 => ?_) (fun c704 => ?_)
                  · have n705 : r701 = 0 := (nI_eq (a := r701) (b := 0) (by omega) (by omega)).mp c704
                    refine lv_iconst (v := 0) hx hb dX8_head_124 (by decide) ?_
                    refine lv_istore (lv' := [(7, .int 0), (6, .int (nI i2)), (5, .int mo2), (4, .ref q2), (3, .int (nI tk)), (2, .int x1), (1, .ref d0), (0, .ref (a 3))]) hx hb dX8_head_125 hl (by decide) rfl (fun ls hl => ?_)
                    refine lv_iload hx hb dX8_head_127 (lv_at hl 0 rfl) ?_
                    refine lv_if_eq (tgt := 157) hx hb dX8_head_129 (by decide) (fun c706 => ?_) (fun c706 => absurd c706 (by decide))
                    refine lv_aload_n hx hb dX8_head_157 rfl (lv_at hl 7 rfl) ?_
                    refine lv_iconst (v := 1) hx hb dX8_head_158 (by decide) ?_
                    have hO : OKW G h0 a (upd (upd (upd (upd (upd F 2 (nI sz)) 9 (nI at9)) 9 (nI at2)) 2 (nI sz)) 9 (nI at2)) (updR R 1 (.ref pq)) Z (updA B 10 f9) J K2.1 (fun q99 x99 => x99 = rep G a K2 q99) w := hO.to rfl
                    obtain ⟨_, qr710, hqr711⟩ := hO.2.1 23 _ (sg_23 G h0 a _ _ _ _ _)
                    refine pn_V0 (G := G) (As := [.int 1]) (rest := []) hx hb hml hown hq hE hX pX0_al hP hD hS hA hl.1 (P_takeType l G h0 a (upd (upd (upd F 2 (nI sz)) 9 (nI at9)) 9 (nI at2)) (updR R 1 (.ref pq)) Z (updA B 10 f9) J K2.1 (fun q99 x99 => x99 = rep G a K2 q99) w 1 at2 sz (by omega) (by omega) hO hl0) (gV pw_825 pw_826 pw_827 pw_796 pw_821) hV_X8_takeType qr710 5 hqr711 rfl rfl rfl (Nat.le_of_ble_eq_true rfl) dX8_head_159 ⟨(by show (3 + 2 * np) + 1 ≤ (2 * (sz - at9) + 10); omega), (by show (120 + 11 * np + 4 * cp2) + 6 ≤ (60 * (sz - at9) + 400); omega)⟩ ⟨Nat.le_of_ble_eq_true rfl, Nat.le_of_ble_eq_true rfl⟩ (fun v709 u707 H locs hw708 hP hD hS => ?_) (fun ux ce9 q9 H9 locs9 hux hP9 hD9 hS9 hce hcv hcl => pb_out ux (ThQ.up (Thx.same (Thx.same (Thx.b (Thx.f Thx.rfl (by omega)) (by omega) (by decide)) rfl) rfl) RhX.rfl hux) hnt hlocks hce hcv hcl hP9 hD9 hS9 (by show (3 + 2 * np) + 1 ≤ (2 * (sz - at9) + 10); omega) (by show (120 + 11 * np + 4 * cp2) + 6 ≤ (60 * (sz - at9) + 400); omega))
                    obtain ⟨w, at712, f713⟩ := u707
                    obtain ⟨hw708, h714, h715, h716, h717, hO⟩ := hw708
                    have h714 : at2 + 1 ≤ at712 ∧ at712 ≤ sz := h714
                    have h715 : RoS (f9) f713 at2 := h715
                    have h716 : TtQ ((B 7)) sz f713 at2 := h716
                    have h717 : (1 : Int32) = 0 → at712 = at2 + 1 := h717
                    obtain rfl : v709 = some (.int (nI at2)) := hw708
                    have hO : OKP G h0 a (upd (upd F 2 (nI sz)) 9 (nI at712)) (updR R 1 (.ref pq)) Z (updA B 10 f713) J K2 w := hO.to rfl
                    refine W.widen (k := (3 + 2 * np)) (n := (120 + 11 * np + 4 * cp2)) (by show (3 + 2 * np) + 0 ≤ (3 + 2 * np); omega) (by show (120 + 11 * np + 4 * cp2) + 0 ≤ (120 + 11 * np + 4 * cp2); omega) ?_
                    refine W.eq (g2 := F0 m 162 ls [.int (nI at2)]) rfl ?_
                    have htk718 : NwT (B 7) sz (B 10) f713 K K2 at9 at2 := (NwT.role htki h715 (by omega))
                    refine lv_istore (lv' := [(8, .int (nI at2)), (7, .int 0), (6, .int (nI i2)), (5, .int mo2), (4, .ref q2), (3, .int (nI tk)), (2, .int x1), (1, .ref d0), (0, .ref (a 3))]) hx hb dX8_head_162 hl (by decide) rfl (fun ls hl => ?_)
                    refine lv_aload hx hb dX8_head_164 (lv_at hl 4 rfl) ?_
                    refine p_get (v := .ref f2) (C := RX6) (Tc := TX6) (N := 12) (ci := 12) hx hb hq pin_wsX60 hown hE hP hO (by rw [hq2]; decide) (rep_3 hq2) rfl 4 (by decide) (hq _ pw_881) (fun _ h9 => h9) (congrArg (fun z => some (va_rf z)) hc62) dX8_head_166 ?_
                    refine lv_aload_n hx hb dX8_head_169 rfl (lv_at hl 8 rfl) ?_
                    refine lv_iload hx hb dX8_head_170 (lv_at hl 0 rfl) ?_
                    refine lv_aload_n hx hb dX8_head_172 rfl (lv_at hl 8 rfl) ?_
                    refine lv_bipush (v := 65) hx hb dX8_head_173 (by decide) ?_
                    have hO : OKW G h0 a (upd (upd (upd (upd (upd F 2 (nI sz)) 9 (nI at9)) 9 (nI at712)) 2 (nI sz)) 9 (nI at712)) (updR R 1 (.ref pq)) Z (updA B 10 f713) J K2.1 (fun q99 x99 => x99 = rep G a K2 q99) w := hO.to rfl
                    obtain ⟨_, qr722, hqr723⟩ := hO.2.1 23 _ (sg_23 G h0 a _ _ _ _ _)
                    refine pn_V0 (G := G) (As := [.int 65]) (rest := [.int (nI at2), .ref (a 3), .ref f2]) hx hb hml hown hq hE hX pX0_al hP hD hS hA hl.1 (P_take l G h0 a (upd (upd (upd F 2 (nI sz)) 9 (nI at9)) 9 (nI at712)) (updR R 1 (.ref pq)) Z (updA B 10 f713) J K2.1 (fun q99 x99 => x99 = rep G a K2 q99) w 65 at712 sz (by omega) (by omega) (by decide) hO hl0) (gV pw_793 pw_794 pw_795 pw_796 pw_781) hV_X8_take qr722 5 hqr723 rfl rfl rfl (Nat.le_of_ble_eq_true rfl) dX8_head_175 ⟨(by show (3 + 2 * np) + 1 ≤ (2 * (sz - at9) + 10); omega), (by show (120 + 11 * np + 4 * cp2) + 6 ≤ (60 * (sz - at9) + 400); omega)⟩ ⟨Nat.le_of_ble_eq_true rfl, Nat.le_of_ble_eq_true rfl⟩ (fun v721 u719 H locs hw720 hP hD hS => ?_) (fun ux ce9 q9 H9 locs9 hux hP9 hD9 hS9 hce hcv hcl => pb_out ux (ThQ.up (Thx.same (Thx.same (Thx.b (Thx.f Thx.rfl (by omega)) (by omega) (by decide)) rfl) rfl) RhX.rfl hux) hnt hlocks hce hcv hcl hP9 hD9 hS9 (by show (3 + 2 * np) + 1 ≤ (2 * (sz - at9) + 10); omega) (by show (120 + 11 * np + 4 * cp2) + 6 ≤ (60 * (sz - at9) + 400); omega))
                    obtain ⟨w, _⟩ := u719
                    obtain ⟨hw720, h724, h725, hO⟩ := hw720
                    have h724 : at712 + 1 ≤ sz := h724
                    have h725 : tkN ((B 7)) sz 67 (nI at712) = 65 := h725
                    obtain rfl : v721 = some (.int (nI at712)) := hw720
                    have hO : OKP G h0 a (upd (upd F 2 (nI sz)) 9 (nI (at712 + 1))) (updR R 1 (.ref pq)) Z (updA B 10 f713) J K2 w := hO.to rfl
                    refine W.widen (k := (3 + 2 * np)) (n := (120 + 11 * np + 4 * cp2)) (by show (3 + 2 * np) + 0 ≤ (3 + 2 * np); omega) (by show (120 + 11 * np + 4 * cp2) + 0 ≤ (120 + 11 * np + 4 * cp2); omega) ?_
                    refine W.eq (g2 := F0 m 178 ls [.int (nI at712), .int (nI at2), .ref (a 3), .ref f2]) rfl ?_
                    have hO : OKP G h0 a (upd (upd (upd F 2 (nI sz)) 9 (nI (at712 + 1))) 2 (nI sz)) (updR R 1 (.ref pq)) Z (updA B 10 f713) J K2 w := hO.to rfl
                    obtain ⟨_, qr729, hqr730⟩ := hO.2.1 23 _ (sg_23 G h0 a _ _ _ _ _)
                    refine pc_V0 (G := G) (As := [.int (nI at2), .int (nI at712)]) (rest := [.ref f2]) hx hb hml hown hq hE hX pX0_al hP hD hS hA hl.1 (P_variable l G h0 a (upd (upd F 2 (nI sz)) 9 (nI (at712 + 1))) (updR R 1 (.ref pq)) Z (updA B 10 f713) J K2 w (nI at2) (nI at712) sz 0 (rK 0 1 0 0 0 0) g2 (by omega) hwp2.1 (fun o9 h9 => absurd h9 (by omega)) (Itv.of (by omega)) hO) (gV pw_888 pw_889 pw_890 pw_796 pw_869) hV_X8_variable qr729 5 hqr730 rfl rfl rfl (Nat.le_of_ble_eq_true rfl) dX8_head_178 ⟨(by show (3 + 2 * np) + 1 ≤ (2 * (sz - at9) + 10); omega), (by show (120 + 11 * np + 4 * cp2) + 11 ≤ (60 * (sz - at9) + 400); omega)⟩ ⟨Nat.le_of_ble_eq_true rfl, Nat.le_of_ble_eq_true rfl⟩ (fun v728 u726 H locs hw727 hP hD hS => ?_)
                    obtain ⟨w, r731, K732, g733⟩ := u726
                    obtain ⟨hw727, h734, h735, h736, hO⟩ := hw727
                    have h734 : NwR K2 K732 g2 g733 r731 0 (rK 0 1 0 0 0 0) 1 := h734
                    have h735 : K732.2.1 0 r731 = 36 := h735
                    have h736 : VaT K2 K732 := h736
                    obtain rfl : v728 = some (.ref r731) := hw727
                    have hf737 : K732.1 q2 = 3 := (((h734).2.1.1 q2 (by rw [hq2]; decide)).1).trans hq2
                    have hf738 : K732.1 d0 = 4 := (((h734).2.1.1 d0 (by rw [hd2]; decide)).1).trans hd2
                    have hf739 : K732.1 f2 = 5 := (((h734).2.1.1 f2 (by rw [ht2]; decide)).1).trans ht2
                    have hf740 : K732.2.2.1 6 q2 = some f2 := (((h734).2.1.1 q2 (by rw [hq2]; decide)).2.2.1 6).trans hc62
                    have hO : OKP G h0 a (upd (upd F 2 (nI sz)) 9 (nI (at712 + 1))) (updR R 1 (.ref pq)) Z (updA B 10 f713) J K732 w := hO.to rfl
                    refine W.widen (k := ((3 + 2 * np) + 1)) (n := ((120 + 11 * np + 4 * cp2) + 11)) (by show (3 + 2 * np) + 1 ≤ ((3 + 2 * np) + 1); omega) (by show (120 + 11 * np + 4 * cp2) + 11 ≤ ((120 + 11 * np + 4 * cp2) + 11); omega) ?_
                    refine W.eq (g2 := F0 m 181 ls [.ref r731, .ref f2]) rfl ?_
                    have htk741 : NwT (B 7) sz (B 10) f713 K K732 at9 (at712 + 1) := (NwT.call (NwT.le htk718 (show _ ≤ (at712 + 1) by omega)) (h736 (B 7) f713 sz (at712 + 1)) (Nat.le_refl _))
                    have hwp742 := WPr.nd hwp2 h734
                    have hps743 := PgS.nd hps2 hwp2 h734
                    have hf744 : K732.1 r731 = 1 := h734.2.2.1.2.1
                    have hpz745 := PzK.nds hpz2 hwp2 h734.2.1 h734.new1
                    have hlc746 : LsC G K732 f2 1 np it2 cp2 := (LsC.wx (fun p hp => (h734.2.1.1 p hp).1) (by decide) (h734.2.1.1 f2 (by rw [ht2]; decide)) (fun e he _ => h734.2.1.1 e (by rw [he]; decide)) hlc2)
                    have hO : OKP G h0 a (upd (upd (upd F 2 (nI sz)) 9 (nI at9)) 9 (nI (at712 + 1))) (updR R 1 (.ref pq)) Z (updA B 10 f713) J K732 w := hO.to rfl
                    obtain ⟨qr750, hqr751⟩ := p_recv hO (by rw [hf739]; decide) (rep_5 hf739)
                    refine pn_V0 (G := G) (As := [.ref r731]) (rest := []) hx hb hml hown hq hE hX pX0_al hP hD hS hA hl.1 (L_addC l G h0 a (upd (upd (upd F 2 (nI sz)) 9 (nI at9)) 9 (nI (at712 + 1))) (updR R 1 (.ref pq)) Z (updA B 10 f713) J K732 w f2 1 np it2 cp2 r731 hlc746 (by decide) hf744 (by omega) (by omega) hO hl0) (gV pw_885 pw_886 pw_887 pw_32 pw_868) hV_Jx4a65c_add_9ea2d qr750 10 hqr751 rfl rfl rfl (Nat.le_of_ble_eq_true rfl) dX8_head_181 ⟨(by show ((3 + 2 * np) + 1) + 1 ≤ (2 * (sz - at9) + 10); omega), (by show ((120 + 11 * np + 4 * cp2) + 11) + (10 + np + np / 2) ≤ (60 * (sz - at9) + 400); omega)⟩ ⟨Nat.le_of_ble_eq_true rfl, Nat.le_of_ble_eq_true rfl⟩ (fun v749 u747 H locs hw748 hP hD hS => ?_) (fun ux ce9 q9 H9 locs9 hux hP9 hD9 hS9 hce hcv hcl => pb_out ux (ThQ.up (Thx.b (Thx.f Thx.rfl (by omega)) (by omega) (by decide)) RhX.rfl hux) hnt hlocks hce hcv hcl hP9 hD9 hS9 (by show ((3 + 2 * np) + 1) + 1 ≤ (2 * (sz - at9) + 10); omega) (by show ((120 + 11 * np + 4 * cp2) + 11) + (10 + np + np / 2) ≤ (60 * (sz - at9) + 400); omega))
                    obtain ⟨w, K752, d753⟩ := u747
                    obtain ⟨hw748, h754, h755, h756, h757, h758, hO⟩ := hw748
                    have h754 : LsC G K752 f2 1 (np + 1) (upQ it2 np r731) (cp2 + d753) := h754
                    have h755 : AdQ K732 K752 f2 := h755
                    have h756 : N6 K732 K752 := h756
                    have h757 : cp2 + d753 ≤ 10 + 2 * (np + 1) := h757
                    have h758 : d753 ≤ 10 + np / 2 := h758
                    obtain rfl : v749 = some (.int 1) := hw748
                    have hO : OKP G h0 a (upd (upd F 2 (nI sz)) 9 (nI (at712 + 1))) (updR R 1 (.ref pq)) Z (updA B 10 f713) J K752 w := hO.to rfl
                    refine W.widen (k := (((3 + 2 * np) + 1) + 1)) (n := (((120 + 11 * np + 4 * cp2) + 11) + (4 * d753))) (by show ((3 + 2 * np) + 1) + 1 ≤ (((3 + 2 * np) + 1) + 1); omega) (by show ((120 + 11 * np + 4 * cp2) + 11) + (4 * d753) ≤ (((120 + 11 * np + 4 * cp2) + 11) + (4 * d753)); omega) ?_
                    refine W.eq (g2 := F0 m 184 ls [.int 1]) rfl ?_
                    have htk759 : NwT (B 7) sz (B 10) f713 K K752 at9 (at712 + 1) := (NwT.ad htk741 h755 h756 hf739)
                    have hg760 : g733 3 f2 = 3 := (h734.2.1.2 f2 (by rw [ht2]; decide) 3).trans hr2
                    have hwp761 : WPr G K752 g733 := WPr.add hwp742 h755 h756 hf739 (by rw [hg760]; exact h754) (by rw [hg760]; show _ ≤ 5000 ∧ _; omega)
                    have hps762 : PgS G K752 g733 (a 1) pq dr ml nd nm cp it s2 := by have z9 := PgS.add hps743 hwp742 h755 h756 hf739 (fun z => by have z2 := hg760; rw [z, hps743.1.2.2.2.2.2.2.1] at z2; exact absurd z2 (by decide)) (by rw [szL_of h754, szL_of hlc746]) (by rw [hg760]; decide) (by rw [hg760]; decide) (fun z => by rw [hg760] at z; exact absurd z (by decide)); rw [hg760] at z9; exact z9
                    have hf763 : K752.1 q2 = 3 := (h755.1 q2 (by rw [hf737]; decide)).1.trans hf737
                    have hf764 : K752.1 d0 = 4 := (h755.1 d0 (by rw [hf738]; decide)).1.trans hf738
                    have hf765 : K752.1 f2 = 5 := (h755.1 f2 (by rw [hf739]; decide)).1.trans hf739
                    have hf766 : K752.1 r731 = 1 := (h755.1 r731 (by rw [hf744]; decide)).1.trans hf744
                    have hon9 : Onc K752 dr nd q2 := Onc.add (Onc.ext hon2 hps2.2.1 hwp2 hps2.1.2.2.2.1 h734.2.1.1) hps743.2.1 hwp742 hps743.1.2.2.2.1 h755 hf739 (by rw [hg760]; decide)
                    have hpzP := PzK.addP hpz745 hwp742 h755 h756 ((h734.2.1.1 q2 (by rw [hq2]; decide)).1.trans hq2) (((h734.2.1.1 q2 (by rw [hq2]; decide)).2.2.1 6).trans hc62) h754 ((TtQ.no h716 (h515.2 (by omega)) (h609.2 (by omega)) (h703.2 (by omega))).elim)
                    have hmeP := MeI.ad (MeI.sm hme2 hd2 h734.2.1.1) hwp742 ((h734.2.1.1 d0 (by rw [hd2]; decide)).1.trans hd2) h755 hf739 (by rw [hg760]; decide)
                    have h9P : K752.2.1 9 q2 = -1 := ((AdQ.sm h755 (p := q2) (by rw [((h734.2.1.1 q2 (by rw [hq2]; decide)).1.trans hq2)]; decide) (fun z => by have z2 := ((h734.2.1.1 q2 (by rw [hq2]; decide)).1.trans hq2); rw [z, hf739] at z2; exact absurd z2 (by decide)) (by rw [((h734.2.1.1 q2 (by rw [hq2]; decide)).1.trans hq2)]; decide)).2.1 9).trans (((h734.2.1.1 q2 (by rw [hq2]; decide)).2.1 9).trans h92)
                    have h18P : K752.2.1 18 d0 = K.2.1 18 d0 := ((AdQ.sm h755 (p := d0) (by rw [((h734.2.1.1 d0 (by rw [hd2]; decide)).1.trans hd2)]; decide) (fun z => by have z2 := ((h734.2.1.1 d0 (by rw [hd2]; decide)).1.trans hd2); rw [z, hf739] at z2; exact absurd z2 (by decide)) (by rw [((h734.2.1.1 d0 (by rw [hd2]; decide)).1.trans hd2)]; decide)).2.1 18).trans (((h734.2.1.1 d0 (by rw [hd2]; decide)).2.1 18).trans h18k2)
                    have hg5P : g733 5 d0 = 0 := (h734.2.1.2 d0 (by rw [hd2]; decide) 5).trans hg52
                    refine lv_pop hx hb dX8_head_184 rfl ?_
                    refine lv_aload_n hx hb dX8_head_185 rfl (lv_at hl 8 rfl) ?_
                    refine lv_bipush (v := 39) hx hb dX8_head_186 (by decide) ?_
                    have hO : OKW G h0 a (upd (upd (upd (upd F 2 (nI sz)) 9 (nI (at712 + 1))) 2 (nI sz)) 9 (nI (at712 + 1))) (updR R 1 (.ref pq)) Z (updA B 10 f713) J K752.1 (fun q99 x99 => x99 = rep G a K752 q99) w := hO.to rfl
                    obtain ⟨_, qr770, hqr771⟩ := hO.2.1 23 _ (sg_23 G h0 a _ _ _ _ _)
                    refine pc_V0 (G := G) (As := [.int 39]) (rest := []) hx hb hml hown hq hE hX pX0_al hP hD hS hA hl.1 (P_takeIf l G h0 a (upd (upd F 2 (nI sz)) 9 (nI (at712 + 1))) (updR R 1 (.ref pq)) Z (updA B 10 f713) J K752.1 (fun q99 x99 => x99 = rep G a K752 q99) w 39 (at712 + 1) sz (by omega) (by omega) (by decide) hO) (gV pw_797 pw_798 pw_799 pw_796 pw_789) hV_X8_takeIf qr770 5 hqr771 rfl rfl rfl (Nat.le_of_ble_eq_true rfl) dX8_head_188 ⟨(by show (((3 + 2 * np) + 1) + 1) + 0 ≤ (2 * (sz - at9) + 10); omega), (by show (((120 + 11 * np + 4 * cp2) + 11) + (4 * d753)) + 0 ≤ (60 * (sz - at9) + 400); omega)⟩ ⟨Nat.le_of_ble_eq_true rfl, Nat.le_of_ble_eq_true rfl⟩ (fun v769 u767 H locs hw768 hP hD hS => ?_)
                    obtain ⟨w, r772⟩ := u767
                    obtain ⟨hw768, h773, h774, h775, hO⟩ := hw768
                    have h773 : r772 ≤ 1 := h773
                    have h774 : (at712 + 1) + r772 ≤ sz := h774
                    have h775 : SeQ ((B 7)) sz (at712 + 1) 39 r772 := h775
                    obtain rfl : v769 = some (.int (nI r772)) := hw768
                    have hO : OKP G h0 a (upd (upd F 2 (nI sz)) 9 (nI ((at712 + 1) + r772))) (updR R 1 (.ref pq)) Z (updA B 10 f713) J K752 w := hO.to rfl
                    refine W.widen (k := (((3 + 2 * np) + 1) + 1)) (n := (((120 + 11 * np + 4 * cp2) + 11) + (4 * d753))) (by show (((3 + 2 * np) + 1) + 1) + 0 ≤ (((3 + 2 * np) + 1) + 1); omega) (by show (((120 + 11 * np + 4 * cp2) + 11) + (4 * d753)) + 0 ≤ (((120 + 11 * np + 4 * cp2) + 11) + (4 * d753)); omega) ?_
                    refine W.eq (g2 := F0 m 191 ls [.int (nI r772)]) rfl ?_
                    refine lv_istore (lv' := [(5, .int (nI r772)), (8, .int (nI at2)), (7, .int 0), (6, .int (nI i2)), (4, .ref q2), (3, .int (nI tk)), (2, .int x1), (1, .ref d0), (0, .ref (a 3))]) hx hb dX8_head_191 hl (by decide) rfl (fun ls hl => ?_)
                    refine lv_iinc (v := (nI (i2 + 1))) (lv' := [(6, .int (nI (i2 + 1))), (5, .int (nI r772)), (8, .int (nI at2)), (7, .int 0), (4, .ref q2), (3, .int (nI tk)), (2, .int x1), (1, .ref d0), (0, .ref (a 3))]) hx hb dX8_head_193 hl (k := 3) rfl (nI_1 i2) (by decide) rfl (fun ls hl => ?_)
                    refine lv_goto (tgt := 77) hx hb dX8_head_196 (by decide) ?_
                    refine W.widen (k := (3 + 2 * (np + 1))) (n := (120 + 11 * (np + 1) + 4 * (cp2 + d753))) (by show (((3 + 2 * np) + 1) + 1) ≤ _; omega) (by show (((120 + 11 * np + 4 * cp2) + 11) + (4 * d753)) ≤ _; omega) ?_
                    have hO : OKP G h0 a (upd (upd F 2 (nI sz)) 9 (nI ((at712 + 1) + r772))) (updR R 1 (.ref pq)) Z (updA B 10 f713) J K752 w := hO.to rfl
                    exact ih_i (i2 + 1) ((at712 + 1) + r772) f713 (nI r772) K752 g733 q2 f2 (np + 1) (cp2 + d753) (upQ it2 np r731) s2 _ _ _ _ (by omega) (by omega) (by omega) hwp761 hps762 (by omega) hf763 hf764 (((AdQ.sm h755 (by rw [hf737]; decide) (fun z => by have z2 := hf737; rw [z, hf739] at z2; exact absurd z2 (by decide)) (by rw [hf737]; decide)).2.2.1 6).trans ((h734.2.1.1 q2 (by rw [hq2]; decide)).2.2.1 6 |>.trans hc62)) hg760 h754 (by omega) hon9 hpzP hmeP h9P h18P hg5P (NwT.le htk759 (by omega)) hP hD hS hO (lv_sub hl [0, 1, 4, 5, 6, 7, 8] rfl)
                  · have n776 : ¬ (r701 = 0) := fun h9 => c704 ((nI_eq (a := r701) (b := 0) (by omega) (by omega)).mpr h9)
                    refine lv_iconst (v := 1) hx hb dX8_head_120 (by decide) ?_
                    refine lv_goto (tgt := 125) hx hb dX8_head_121 (by decide) ?_
                    refine lv_istore (lv' := [(7, .int 1), (6, .int (nI i2)), (5, .int mo2), (4, .ref q2), (3, .int (nI tk)), (2, .int x1), (1, .ref d0), (0, .ref (a 3))]) hx hb dX8_head_125 hl (by decide) rfl (fun ls hl => ?_)
                    refine lv_iload hx hb dX8_head_127 (lv_at hl 0 rfl) ?_
                    refine lv_if_eq (tgt := 157) hx hb dX8_head_129 (by decide) (fun c777 => absurd c777 (by decide)) (fun c777 => ?_)
                    refine lv_aload hx hb dX8_head_132 (lv_at hl 3 rfl) ?_
                    refine p_get (v := .ref f2) (C := RX6) (Tc := TX6) (N := 12) (ci := 12) hx hb hq pin_wsX60 hown hE hP hO (by rw [hq2]; decide) (rep_3 hq2) rfl 4 (by decide) (hq _ pw_881) (fun _ h9 => h9) (congrArg (fun z => some (va_rf z)) hc62) dX8_head_134 ?_
                    have hO : OKP G h0 a (upd (upd F 2 (nI sz)) 9 (nI at2)) (updR R 1 (.ref pq)) Z (updA B 10 f9) J K2 w := hO.to rfl
                    obtain ⟨qr781, hqr782⟩ := p_recv hO (by rw [ht2]; decide) (rep_5 ht2)
                    refine pc_V0 (G := G) (As := []) (rest := []) hx hb hml hown hq hE hX pX0_al hP hD hS hA hl.1 (L_size l G h0 a (upd (upd F 2 (nI sz)) 9 (nI at2)) (updR R 1 (.ref pq)) Z (updA B 10 f9) J K2 w f2 1 np it2 hlc2.ls hO) (gV pw_882 pw_87 pw_88 pw_32 pw_16) hV_Jx4a65c_size_8abf5 qr781 10 hqr782 rfl rfl rfl (Nat.le_of_ble_eq_true rfl) dX8_head_137 ⟨(by show (3 + 2 * np) + 0 ≤ (2 * (sz - at9) + 10); omega), (by show (120 + 11 * np + 4 * cp2) + 0 ≤ (60 * (sz - at9) + 400); omega)⟩ ⟨Nat.le_of_ble_eq_true rfl, Nat.le_of_ble_eq_true rfl⟩ (fun v780 u778 H locs hw779 hP hD hS => ?_)
                    obtain ⟨w, _⟩ := u778
                    obtain ⟨hw779, hO⟩ := hw779
                    obtain rfl : v780 = some (.int (nI np)) := hw779
                    have hO : OKP G h0 a (upd (upd F 2 (nI sz)) 9 (nI at2)) (updR R 1 (.ref pq)) Z (updA B 10 f9) J K2 w := hO.to rfl
                    refine W.widen (k := (3 + 2 * np)) (n := (120 + 11 * np + 4 * cp2)) (by show (3 + 2 * np) + 0 ≤ (3 + 2 * np); omega) (by show (120 + 11 * np + 4 * cp2) + 0 ≤ (120 + 11 * np + 4 * cp2); omega) ?_
                    refine W.eq (g2 := F0 m 140 ls [.int (nI np)]) rfl ?_
                    refine lv_bipush (v := 8) hx hb dX8_head_140 (by decide) ?_
                    refine lv_icmp_lt (tgt := 157) hx hb dX8_head_142 (by decide) (fun c783 => ?_) (fun c783 => ?_)
                    · have n784 : np < 8 := (nI_ltI (a := np) (b := 8) (by omega) (by omega)).mp c783
                      refine lv_aload_n hx hb dX8_head_157 rfl (lv_at hl 7 rfl) ?_
                      refine lv_iconst (v := 1) hx hb dX8_head_158 (by decide) ?_
                      have hO : OKW G h0 a (upd (upd (upd (upd (upd F 2 (nI sz)) 9 (nI at9)) 9 (nI at2)) 2 (nI sz)) 9 (nI at2)) (updR R 1 (.ref pq)) Z (updA B 10 f9) J K2.1 (fun q99 x99 => x99 = rep G a K2 q99) w := hO.to rfl
                      obtain ⟨_, qr788, hqr789⟩ := hO.2.1 23 _ (sg_23 G h0 a _ _ _ _ _)
                      refine pn_V0 (G := G) (As := [.int 1]) (rest := []) hx hb hml hown hq hE hX pX0_al hP hD hS hA hl.1 (P_takeType l G h0 a (upd (upd (upd F 2 (nI sz)) 9 (nI at9)) 9 (nI at2)) (updR R 1 (.ref pq)) Z (updA B 10 f9) J K2.1 (fun q99 x99 => x99 = rep G a K2 q99) w 1 at2 sz (by omega) (by omega) hO hl0) (gV pw_825 pw_826 pw_827 pw_796 pw_821) hV_X8_takeType qr788 5 hqr789 rfl rfl rfl (Nat.le_of_ble_eq_true rfl) dX8_head_159 ⟨(by show (3 + 2 * np) + 1 ≤ (2 * (sz - at9) + 10); omega), (by show (120 + 11 * np + 4 * cp2) + 6 ≤ (60 * (sz - at9) + 400); omega)⟩ ⟨Nat.le_of_ble_eq_true rfl, Nat.le_of_ble_eq_true rfl⟩ (fun v787 u785 H locs hw786 hP hD hS => ?_) (fun ux ce9 q9 H9 locs9 hux hP9 hD9 hS9 hce hcv hcl => pb_out ux (ThQ.up (Thx.same (Thx.same (Thx.b (Thx.f Thx.rfl (by omega)) (by omega) (by decide)) rfl) rfl) RhX.rfl hux) hnt hlocks hce hcv hcl hP9 hD9 hS9 (by show (3 + 2 * np) + 1 ≤ (2 * (sz - at9) + 10); omega) (by show (120 + 11 * np + 4 * cp2) + 6 ≤ (60 * (sz - at9) + 400); omega))
                      obtain ⟨w, at790, f791⟩ := u785
                      obtain ⟨hw786, h792, h793, h794, h795, hO⟩ := hw786
                      have h792 : at2 + 1 ≤ at790 ∧ at790 ≤ sz := h792
                      have h793 : RoS (f9) f791 at2 := h793
                      have h794 : TtQ ((B 7)) sz f791 at2 := h794
                      have h795 : (1 : Int32) = 0 → at790 = at2 + 1 := h795
                      obtain rfl : v787 = some (.int (nI at2)) := hw786
                      have hO : OKP G h0 a (upd (upd F 2 (nI sz)) 9 (nI at790)) (updR R 1 (.ref pq)) Z (updA B 10 f791) J K2 w := hO.to rfl
                      refine W.widen (k := (3 + 2 * np)) (n := (120 + 11 * np + 4 * cp2)) (by show (3 + 2 * np) + 0 ≤ (3 + 2 * np); omega) (by show (120 + 11 * np + 4 * cp2) + 0 ≤ (120 + 11 * np + 4 * cp2); omega) ?_
                      refine W.eq (g2 := F0 m 162 ls [.int (nI at2)]) rfl ?_
                      have htk796 : NwT (B 7) sz (B 10) f791 K K2 at9 at2 := (NwT.role htki h793 (by omega))
                      refine lv_istore (lv' := [(8, .int (nI at2)), (7, .int 1), (6, .int (nI i2)), (5, .int mo2), (4, .ref q2), (3, .int (nI tk)), (2, .int x1), (1, .ref d0), (0, .ref (a 3))]) hx hb dX8_head_162 hl (by decide) rfl (fun ls hl => ?_)
                      refine lv_aload hx hb dX8_head_164 (lv_at hl 4 rfl) ?_
                      refine p_get (v := .ref f2) (C := RX6) (Tc := TX6) (N := 12) (ci := 12) hx hb hq pin_wsX60 hown hE hP hO (by rw [hq2]; decide) (rep_3 hq2) rfl 4 (by decide) (hq _ pw_881) (fun _ h9 => h9) (congrArg (fun z => some (va_rf z)) hc62) dX8_head_166 ?_
                      refine lv_aload_n hx hb dX8_head_169 rfl (lv_at hl 8 rfl) ?_
                      refine lv_iload hx hb dX8_head_170 (lv_at hl 0 rfl) ?_
                      refine lv_aload_n hx hb dX8_head_172 rfl (lv_at hl 8 rfl) ?_
                      refine lv_bipush (v := 65) hx hb dX8_head_173 (by decide) ?_
                      have hO : OKW G h0 a (upd (upd (upd (upd (upd F 2 (nI sz)) 9 (nI at9)) 9 (nI at790)) 2 (nI sz)) 9 (nI at790)) (updR R 1 (.ref pq)) Z (updA B 10 f791) J K2.1 (fun q99 x99 => x99 = rep G a K2 q99) w := hO.to rfl
                      obtain ⟨_, qr800, hqr801⟩ := hO.2.1 23 _ (sg_23 G h0 a _ _ _ _ _)
                      refine pn_V0 (G := G) (As := [.int 65]) (rest := [.int (nI at2), .ref (a 3), .ref f2]) hx hb hml hown hq hE hX pX0_al hP hD hS hA hl.1 (P_take l G h0 a (upd (upd (upd F 2 (nI sz)) 9 (nI at9)) 9 (nI at790)) (updR R 1 (.ref pq)) Z (updA B 10 f791) J K2.1 (fun q99 x99 => x99 = rep G a K2 q99) w 65 at790 sz (by omega) (by omega) (by decide) hO hl0) (gV pw_793 pw_794 pw_795 pw_796 pw_781) hV_X8_take qr800 5 hqr801 rfl rfl rfl (Nat.le_of_ble_eq_true rfl) dX8_head_175 ⟨(by show (3 + 2 * np) + 1 ≤ (2 * (sz - at9) + 10); omega), (by show (120 + 11 * np + 4 * cp2) + 6 ≤ (60 * (sz - at9) + 400); omega)⟩ ⟨Nat.le_of_ble_eq_true rfl, Nat.le_of_ble_eq_true rfl⟩ (fun v799 u797 H locs hw798 hP hD hS => ?_) (fun ux ce9 q9 H9 locs9 hux hP9 hD9 hS9 hce hcv hcl => pb_out ux (ThQ.up (Thx.same (Thx.same (Thx.b (Thx.f Thx.rfl (by omega)) (by omega) (by decide)) rfl) rfl) RhX.rfl hux) hnt hlocks hce hcv hcl hP9 hD9 hS9 (by show (3 + 2 * np) + 1 ≤ (2 * (sz - at9) + 10); omega) (by show (120 + 11 * np + 4 * cp2) + 6 ≤ (60 * (sz - at9) + 400); omega))
                      obtain ⟨w, _⟩ := u797
                      obtain ⟨hw798, h802, h803, hO⟩ := hw798
                      have h802 : at790 + 1 ≤ sz := h802
                      have h803 : tkN ((B 7)) sz 67 (nI at790) = 65 := h803
                      obtain rfl : v799 = some (.int (nI at790)) := hw798
                      have hO : OKP G h0 a (upd (upd F 2 (nI sz)) 9 (nI (at790 + 1))) (updR R 1 (.ref pq)) Z (updA B 10 f791) J K2 w := hO.to rfl
                      refine W.widen (k := (3 + 2 * np)) (n := (120 + 11 * np + 4 * cp2)) (by show (3 + 2 * np) + 0 ≤ (3 + 2 * np); omega) (by show (120 + 11 * np + 4 * cp2) + 0 ≤ (120 + 11 * np + 4 * cp2); omega) ?_
                      refine W.eq (g2 := F0 m 178 ls [.int (nI at790), .int (nI at2), .ref (a 3), .ref f2]) rfl ?_
                      have hO : OKP G h0 a (upd (upd (upd F 2 (nI sz)) 9 (nI (at790 + 1))) 2 (nI sz)) (updR R 1 (.ref pq)) Z (updA B 10 f791) J K2 w := hO.to rfl
                      obtain ⟨_, qr807, hqr808⟩ := hO.2.1 23 _ (sg_23 G h0 a _ _ _ _ _)
                      refine pc_V0 (G := G) (As := [.int (nI at2), .int (nI at790)]) (rest := [.ref f2]) hx hb hml hown hq hE hX pX0_al hP hD hS hA hl.1 (P_variable l G h0 a (upd (upd F 2 (nI sz)) 9 (nI (at790 + 1))) (updR R 1 (.ref pq)) Z (updA B 10 f791) J K2 w (nI at2) (nI at790) sz 0 (rK 0 1 0 0 0 0) g2 (by omega) hwp2.1 (fun o9 h9 => absurd h9 (by omega)) (Itv.of (by omega)) hO) (gV pw_888 pw_889 pw_890 pw_796 pw_869) hV_X8_variable qr807 5 hqr808 rfl rfl rfl (Nat.le_of_ble_eq_true rfl) dX8_head_178 ⟨(by show (3 + 2 * np) + 1 ≤ (2 * (sz - at9) + 10); omega), (by show (120 + 11 * np + 4 * cp2) + 11 ≤ (60 * (sz - at9) + 400); omega)⟩ ⟨Nat.le_of_ble_eq_true rfl, Nat.le_of_ble_eq_true rfl⟩ (fun v806 u804 H locs hw805 hP hD hS => ?_)
                      obtain ⟨w, r809, K810, g811⟩ := u804
                      obtain ⟨hw805, h812, h813, h814, hO⟩ := hw805
                      have h812 : NwR K2 K810 g2 g811 r809 0 (rK 0 1 0 0 0 0) 1 := h812
                      have h813 : K810.2.1 0 r809 = 36 := h813
                      have h814 : VaT K2 K810 := h814
                      obtain rfl : v806 = some (.ref r809) := hw805
                      have hf815 : K810.1 q2 = 3 := (((h812).2.1.1 q2 (by rw [hq2]; decide)).1).trans hq2
                      have hf816 : K810.1 d0 = 4 := (((h812).2.1.1 d0 (by rw [hd2]; decide)).1).trans hd2
                      have hf817 : K810.1 f2 = 5 := (((h812).2.1.1 f2 (by rw [ht2]; decide)).1).trans ht2
                      have hf818 : K810.2.2.1 6 q2 = some f2 := (((h812).2.1.1 q2 (by rw [hq2]; decide)).2.2.1 6).trans hc62
                      have hO : OKP G h0 a (upd (upd F 2 (nI sz)) 9 (nI (at790 + 1))) (updR R 1 (.ref pq)) Z (updA B 10 f791) J K810 w := hO.to rfl
                      refine W.widen (k := ((3 + 2 * np) + 1)) (n := ((120 + 11 * np + 4 * cp2) + 11)) (by show (3 + 2 * np) + 1 ≤ ((3 + 2 * np) + 1); omega) (by show (120 + 11 * np + 4 * cp2) + 11 ≤ ((120 + 11 * np + 4 * cp2) + 11); omega) ?_
                      refine W.eq (g2 := F0 m 181 ls [.ref r809, .ref f2]) rfl ?_
                      have htk819 : NwT (B 7) sz (B 10) f791 K K810 at9 (at790 + 1) := (NwT.call (NwT.le htk796 (show _ ≤ (at790 + 1) by omega)) (h814 (B 7) f791 sz (at790 + 1)) (Nat.le_refl _))
                      have hwp820 := WPr.nd hwp2 h812
                      have hps821 := PgS.nd hps2 hwp2 h812
                      have hf822 : K810.1 r809 = 1 := h812.2.2.1.2.1
                      have hpz823 := PzK.nds hpz2 hwp2 h812.2.1 h812.new1
                      have hlc824 : LsC G K810 f2 1 np it2 cp2 := (LsC.wx (fun p hp => (h812.2.1.1 p hp).1) (by decide) (h812.2.1.1 f2 (by rw [ht2]; decide)) (fun e he _ => h812.2.1.1 e (by rw [he]; decide)) hlc2)
                      have hO : OKP G h0 a (upd (upd (upd F 2 (nI sz)) 9 (nI at9)) 9 (nI (at790 + 1))) (updR R 1 (.ref pq)) Z (updA B 10 f791) J K810 w := hO.to rfl
                      obtain ⟨qr828, hqr829⟩ := p_recv hO (by rw [hf817]; decide) (rep_5 hf817)
                      refine pn_V0 (G := G) (As := [.ref r809]) (rest := []) hx hb hml hown hq hE hX pX0_al hP hD hS hA hl.1 (L_addC l G h0 a (upd (upd (upd F 2 (nI sz)) 9 (nI at9)) 9 (nI (at790 + 1))) (updR R 1 (.ref pq)) Z (updA B 10 f791) J K810 w f2 1 np it2 cp2 r809 hlc824 (by decide) hf822 (by omega) (by omega) hO hl0) (gV pw_885 pw_886 pw_887 pw_32 pw_868) hV_Jx4a65c_add_9ea2d qr828 10 hqr829 rfl rfl rfl (Nat.le_of_ble_eq_true rfl) dX8_head_181 ⟨(by show ((3 + 2 * np) + 1) + 1 ≤ (2 * (sz - at9) + 10); omega), (by show ((120 + 11 * np + 4 * cp2) + 11) + (10 + np + np / 2) ≤ (60 * (sz - at9) + 400); omega)⟩ ⟨Nat.le_of_ble_eq_true rfl, Nat.le_of_ble_eq_true rfl⟩ (fun v827 u825 H locs hw826 hP hD hS => ?_) (fun ux ce9 q9 H9 locs9 hux hP9 hD9 hS9 hce hcv hcl => pb_out ux (ThQ.up (Thx.b (Thx.f Thx.rfl (by omega)) (by omega) (by decide)) RhX.rfl hux) hnt hlocks hce hcv hcl hP9 hD9 hS9 (by show ((3 + 2 * np) + 1) + 1 ≤ (2 * (sz - at9) + 10); omega) (by show ((120 + 11 * np + 4 * cp2) + 11) + (10 + np + np / 2) ≤ (60 * (sz - at9) + 400); omega))
                      obtain ⟨w, K830, d831⟩ := u825
                      obtain ⟨hw826, h832, h833, h834, h835, h836, hO⟩ := hw826
                      have h832 : LsC G K830 f2 1 (np + 1) (upQ it2 np r809) (cp2 + d831) := h832
                      have h833 : AdQ K810 K830 f2 := h833
                      have h834 : N6 K810 K830 := h834
                      have h835 : cp2 + d831 ≤ 10 + 2 * (np + 1) := h835
                      have h836 : d831 ≤ 10 + np / 2 := h836
                      obtain rfl : v827 = some (.int 1) := hw826
                      have hO : OKP G h0 a (upd (upd F 2 (nI sz)) 9 (nI (at790 + 1))) (updR R 1 (.ref pq)) Z (updA B 10 f791) J K830 w := hO.to rfl
                      refine W.widen (k := (((3 + 2 * np) + 1) + 1)) (n := (((120 + 11 * np + 4 * cp2) + 11) + (4 * d831))) (by show ((3 + 2 * np) + 1) + 1 ≤ (((3 + 2 * np) + 1) + 1); omega) (by show ((120 + 11 * np + 4 * cp2) + 11) + (4 * d831) ≤ (((120 + 11 * np + 4 * cp2) + 11) + (4 * d831)); omega) ?_
                      refine W.eq (g2 := F0 m 184 ls [.int 1]) rfl ?_
                      have htk837 : NwT (B 7) sz (B 10) f791 K K830 at9 (at790 + 1) := (NwT.ad htk819 h833 h834 hf817)
                      have hg838 : g811 3 f2 = 3 := (h812.2.1.2 f2 (by rw [ht2]; decide) 3).trans hr2
                      have hwp839 : WPr G K830 g811 := WPr.add hwp820 h833 h834 hf817 (by rw [hg838]; exact h832) (by rw [hg838]; show _ ≤ 5000 ∧ _; omega)
                      have hps840 : PgS G K830 g811 (a 1) pq dr ml nd nm cp it s2 := by have z9 := PgS.add hps821 hwp820 h833 h834 hf817 (fun z => by have z2 := hg838; rw [z, hps821.1.2.2.2.2.2.2.1] at z2; exact absurd z2 (by decide)) (by rw [szL_of h832, szL_of hlc824]) (by rw [hg838]; decide) (by rw [hg838]; decide) (fun z => by rw [hg838] at z; exact absurd z (by decide)); rw [hg838] at z9; exact z9
                      have hf841 : K830.1 q2 = 3 := (h833.1 q2 (by rw [hf815]; decide)).1.trans hf815
                      have hf842 : K830.1 d0 = 4 := (h833.1 d0 (by rw [hf816]; decide)).1.trans hf816
                      have hf843 : K830.1 f2 = 5 := (h833.1 f2 (by rw [hf817]; decide)).1.trans hf817
                      have hf844 : K830.1 r809 = 1 := (h833.1 r809 (by rw [hf822]; decide)).1.trans hf822
                      have hon9 : Onc K830 dr nd q2 := Onc.add (Onc.ext hon2 hps2.2.1 hwp2 hps2.1.2.2.2.1 h812.2.1.1) hps821.2.1 hwp820 hps821.1.2.2.2.1 h833 hf817 (by rw [hg838]; decide)
                      have hpzP := PzK.addP hpz823 hwp820 h833 h834 ((h812.2.1.1 q2 (by rw [hq2]; decide)).1.trans hq2) (((h812.2.1.1 q2 (by rw [hq2]; decide)).2.2.1 6).trans hc62) h832 (by omega)
                      have hmeP := MeI.ad (MeI.sm hme2 hd2 h812.2.1.1) hwp820 ((h812.2.1.1 d0 (by rw [hd2]; decide)).1.trans hd2) h833 hf817 (by rw [hg838]; decide)
                      have h9P : K830.2.1 9 q2 = -1 := ((AdQ.sm h833 (p := q2) (by rw [((h812.2.1.1 q2 (by rw [hq2]; decide)).1.trans hq2)]; decide) (fun z => by have z2 := ((h812.2.1.1 q2 (by rw [hq2]; decide)).1.trans hq2); rw [z, hf817] at z2; exact absurd z2 (by decide)) (by rw [((h812.2.1.1 q2 (by rw [hq2]; decide)).1.trans hq2)]; decide)).2.1 9).trans (((h812.2.1.1 q2 (by rw [hq2]; decide)).2.1 9).trans h92)
                      have h18P : K830.2.1 18 d0 = K.2.1 18 d0 := ((AdQ.sm h833 (p := d0) (by rw [((h812.2.1.1 d0 (by rw [hd2]; decide)).1.trans hd2)]; decide) (fun z => by have z2 := ((h812.2.1.1 d0 (by rw [hd2]; decide)).1.trans hd2); rw [z, hf817] at z2; exact absurd z2 (by decide)) (by rw [((h812.2.1.1 d0 (by rw [hd2]; decide)).1.trans hd2)]; decide)).2.1 18).trans (((h812.2.1.1 d0 (by rw [hd2]; decide)).2.1 18).trans h18k2)
                      have hg5P : g811 5 d0 = 0 := (h812.2.1.2 d0 (by rw [hd2]; decide) 5).trans hg52
                      refine lv_pop hx hb dX8_head_184 rfl ?_
                      refine lv_aload_n hx hb dX8_head_185 rfl (lv_at hl 8 rfl) ?_
                      refine lv_bipush (v := 39) hx hb dX8_head_186 (by decide) ?_
                      have hO : OKW G h0 a (upd (upd (upd (upd F 2 (nI sz)) 9 (nI (at790 + 1))) 2 (nI sz)) 9 (nI (at790 + 1))) (updR R 1 (.ref pq)) Z (updA B 10 f791) J K830.1 (fun q99 x99 => x99 = rep G a K830 q99) w := hO.to rfl
                      obtain ⟨_, qr848, hqr849⟩ := hO.2.1 23 _ (sg_23 G h0 a _ _ _ _ _)
                      refine pc_V0 (G := G) (As := [.int 39]) (rest := []) hx hb hml hown hq hE hX pX0_al hP hD hS hA hl.1 (P_takeIf l G h0 a (upd (upd F 2 (nI sz)) 9 (nI (at790 + 1))) (updR R 1 (.ref pq)) Z (updA B 10 f791) J K830.1 (fun q99 x99 => x99 = rep G a K830 q99) w 39 (at790 + 1) sz (by omega) (by omega) (by decide) hO) (gV pw_797 pw_798 pw_799 pw_796 pw_789) hV_X8_takeIf qr848 5 hqr849 rfl rfl rfl (Nat.le_of_ble_eq_true rfl) dX8_head_188 ⟨(by show (((3 + 2 * np) + 1) + 1) + 0 ≤ (2 * (sz - at9) + 10); omega), (by show (((120 + 11 * np + 4 * cp2) + 11) + (4 * d831)) + 0 ≤ (60 * (sz - at9) + 400); omega)⟩ ⟨Nat.le_of_ble_eq_true rfl, Nat.le_of_ble_eq_true rfl⟩ (fun v847 u845 H locs hw846 hP hD hS => ?_)
                      obtain ⟨w, r850⟩ := u845
                      obtain ⟨hw846, h851, h852, h853, hO⟩ := hw846
                      have h851 : r850 ≤ 1 := h851
                      have h852 : (at790 + 1) + r850 ≤ sz := h852
                      have h853 : SeQ ((B 7)) sz (at790 + 1) 39 r850 := h853
                      obtain rfl : v847 = some (.int (nI r850)) := hw846
                      have hO : OKP G h0 a (upd (upd F 2 (nI sz)) 9 (nI ((at790 + 1) + r850))) (updR R 1 (.ref pq)) Z (updA B 10 f791) J K830 w := hO.to rfl
                      refine W.widen (k := (((3 + 2 * np) + 1) + 1)) (n := (((120 + 11 * np + 4 * cp2) + 11) + (4 * d831))) (by show (((3 + 2 * np) + 1) + 1) + 0 ≤ (((3 + 2 * np) + 1) + 1); omega) (by show (((120 + 11 * np + 4 * cp2) + 11) + (4 * d831)) + 0 ≤ (((120 + 11 * np + 4 * cp2) + 11) + (4 * d831)); omega) ?_
                      refine W.eq (g2 := F0 m 191 ls [.int (nI r850)]) rfl ?_
                      refine lv_istore (lv' := [(5, .int (nI r850)), (8, .int (nI at2)), (7, .int 1), (6, .int (nI i2)), (4, .ref q2), (3, .int (nI tk)), (2, .int x1), (1, .ref d0), (0, .ref (a 3))]) hx hb dX8_head_191 hl (by decide) rfl (fun ls hl => ?_)
                      refine lv_iinc (v := (nI (i2 + 1))) (lv' := [(6, .int (nI (i2 + 1))), (5, .int (nI r850)), (8, .int (nI at2)), (7, .int 1), (4, .ref q2), (3, .int (nI tk)), (2, .int x1), (1, .ref d0), (0, .ref (a 3))]) hx hb dX8_head_193 hl (k := 3) rfl (nI_1 i2) (by decide) rfl (fun ls hl => ?_)
                      refine lv_goto (tgt := 77) hx hb dX8_head_196 (by decide) ?_
                      refine W.widen (k := (3 + 2 * (np + 1))) (n := (120 + 11 * (np + 1) + 4 * (cp2 + d831))) (by show (((3 + 2 * np) + 1) + 1) ≤ _; omega) (by show (((120 + 11 * np + 4 * cp2) + 11) + (4 * d831)) ≤ _; omega) ?_
                      have hO : OKP G h0 a (upd (upd F 2 (nI sz)) 9 (nI ((at790 + 1) + r850))) (updR R 1 (.ref pq)) Z (updA B 10 f791) J K830 w := hO.to rfl
                      exact ih_i (i2 + 1) ((at790 + 1) + r850) f791 (nI r850) K830 g811 q2 f2 (np + 1) (cp2 + d831) (upQ it2 np r809) s2 _ _ _ _ (by omega) (by omega) (by omega) hwp839 hps840 (by omega) hf841 hf842 (((AdQ.sm h833 (by rw [hf815]; decide) (fun z => by have z2 := hf815; rw [z, hf817] at z2; exact absurd z2 (by decide)) (by rw [hf815]; decide)).2.2.1 6).trans ((h812.2.1.1 q2 (by rw [hq2]; decide)).2.2.1 6 |>.trans hc62)) hg838 h832 (by omega) hon9 hpzP hmeP h9P h18P hg5P (NwT.le htk837 (by omega)) hP hD hS hO (lv_sub hl [0, 1, 4, 5, 6, 7, 8] rfl)
                    · have n854 : ¬ (np < 8) := fun h9 => c783 ((nI_ltI (a := np) (b := 8) (by omega) (by omega)).mpr h9)
                      refine lv_aload_n hx hb dX8_head_145 rfl (lv_at hl 7 rfl) ?_
                      refine c_get (v := .ref (a 1)) (C := RX8) (Tc := TX8) (N := 5) (ci := 5) hx hb hq pin_wsX80 hown hE hP hO 23 (sg_23 G h0 a _ _ _ _ _) rfl 0 (by decide) (hq _ pw_774) (fun _ h9 => h9) rfl dX8_head_146 ?_
                      refine lv_iconst (v := 2) hx hb dX8_head_149 (by decide) ?_
                      refine lv_aload_n hx hb dX8_head_150 rfl (lv_at hl 7 rfl) ?_
                      refine c_get (v := .int (nI at2)) (C := RX8) (Tc := TX8) (N := 5) (ci := 5) hx hb hq pin_wsX80 hown hE hP hO 23 (sg_23 G h0 a _ _ _ _ _) rfl 2 (by decide) (hq _ pw_776) (fun _ h9 => h9) rfl dX8_head_151 ?_
                      have hO : OKW G h0 a (upd (upd (upd (upd F 2 (nI sz)) 9 (nI at9)) 9 (nI at2)) 2 (nI sz)) (updR R 1 (.ref pq)) Z (updA B 10 f9) J K2.1 (fun q99 x99 => x99 = rep G a K2 q99) w := hO.to rfl
                      obtain ⟨_, qr858, hqr859⟩ := hO.2.1 2 _ (sg_2 G h0 a _ _ _ _ _)
                      refine pn_V0 (G := G) (As := [.int 2, .int (nI at2)]) (rest := []) hx hb hml hown hq hE hX pX0_al hP hD hS hA hl.1 (K_fail l G h0 a (upd (upd (upd F 2 (nI sz)) 9 (nI at9)) 9 (nI at2)) (updR R 1 (.ref pq)) Z (updA B 10 f9) J K2.1 (fun q99 x99 => x99 = rep G a K2 q99) w 2 (nI at2) sz (by omega) hO hl0) (gV pw_779 pw_65 pw_66 pw_59 pw_43) hV_X10_fail qr858 7 hqr859 rfl rfl rfl (Nat.le_of_ble_eq_true rfl) dX8_head_154 ⟨(by show (3 + 2 * np) + 1 ≤ (2 * (sz - at9) + 10); omega), (by show (120 + 11 * np + 4 * cp2) + 6 ≤ (60 * (sz - at9) + 400); omega)⟩ ⟨Nat.le_of_ble_eq_true rfl, Nat.le_of_ble_eq_true rfl⟩ (fun v857 u855 H locs hw856 hP hD hS => hw856.elim) (fun ux ce9 q9 H9 locs9 hux hP9 hD9 hS9 hce hcv hcl => pb_out ux (ThQ.up (Thx.same (Thx.b (Thx.f Thx.rfl (by omega)) (by omega) (by decide)) rfl) RhX.rfl hux) hnt hlocks hce hcv hcl hP9 hD9 hS9 (by show (3 + 2 * np) + 1 ≤ (2 * (sz - at9) + 10); omega) (by show (120 + 11 * np + 4 * cp2) + 6 ≤ (60 * (sz - at9) + 400); omega))
      refine W.widen (k := (3 + 2 * 0)) (n := (120 + 11 * 0 + 4 * 0)) (by show 3 ≤ _; omega) (by show ((12 + 3) + (4 * d40)) ≤ _; omega) ?_
      have hO : OKP G h0 a (upd (upd F 2 (nI sz)) 9 (nI (at9 + 1))) (updR R 1 (.ref pq)) Z (updA B 10 (B 10)) J K39 w := hO.to rfl
      exact loop_i (sz + 1) 0 (at9 + 1) (B 10) (1 : Int32) K39 (gM g q8 f25) q8 f25 0 0 (fun _ => 0) (s9 + 5) _ _ _ _ (by omega) (by omega) (by omega) hwp48 hps49 (by omega) hf50 hf52 hc6 hm7 hl6 (by omega) hon0 hpzM.1 hpzM.2 h9M h18M (((hm2 d0 (by rw [hd0]; decide)).2 5).trans hg5) (NwT.le htk46 (by omega)) hP hD hS hO (lv_sub hl [0, 1, 2, 6, 5, 4, 3] rfl)
  · have n860 : ¬ (nlm < 30) := fun h9 => c6 ((nI_ltI (a := nlm) (b := 30) (by omega) (by omega)).mpr h9)
    refine lv_aload_n hx hb dX8_head_12 rfl (lv_at hl 0 rfl) ?_
    refine c_get (v := .ref (a 1)) (C := RX8) (Tc := TX8) (N := 5) (ci := 5) hx hb hq pin_wsX80 hown hE hP hO 23 (sg_23 G h0 a _ _ _ _ _) rfl 0 (by decide) (hq _ pw_774) (fun _ h9 => h9) rfl dX8_head_13 ?_
    refine lv_iconst (v := 2) hx hb dX8_head_16 (by decide) ?_
    refine lv_iload_n hx hb dX8_head_17 rfl (lv_at hl 3 rfl) ?_
    have hO : OKW G h0 a (upd (upd (upd F 2 (nI sz)) 9 (nI at9)) 2 (nI sz)) (updR R 1 (.ref pq)) Z B J K.1 (fun q99 x99 => x99 = rep G a K q99) w := hO.to rfl
    obtain ⟨_, qr864, hqr865⟩ := hO.2.1 2 _ (sg_2 G h0 a _ _ _ _ _)
    refine pn_V0 (G := G) (As := [.int 2, .int (nI tk)]) (rest := []) hx hb hml hown hq hE hX pX0_al hP hD hS hA hl.1 (K_fail l G h0 a (upd (upd F 2 (nI sz)) 9 (nI at9)) (updR R 1 (.ref pq)) Z B J K.1 (fun q99 x99 => x99 = rep G a K q99) w 2 (nI tk) sz (by omega) hO hl0) (gV pw_779 pw_65 pw_66 pw_59 pw_43) hV_X10_fail qr864 7 hqr865 rfl rfl rfl (Nat.le_of_ble_eq_true rfl) dX8_head_18 ⟨(by show 0 + 1 ≤ (2 * (sz - at9) + 10); omega), (by show 0 + 6 ≤ (60 * (sz - at9) + 400); omega)⟩ ⟨Nat.le_of_ble_eq_true rfl, Nat.le_of_ble_eq_true rfl⟩ (fun v863 u861 H locs hw862 hP hD hS => hw862.elim) (fun ux ce9 q9 H9 locs9 hux hP9 hD9 hS9 hce hcv hcl => pb_out ux (ThQ.up (Thx.same Thx.rfl rfl) RhX.rfl hux) hnt hlocks hce hcv hcl hP9 hD9 hS9 (by show 0 + 1 ≤ (2 * (sz - at9) + 10); omega) (by show 0 + 6 ≤ (60 * (sz - at9) + 400); omega))
