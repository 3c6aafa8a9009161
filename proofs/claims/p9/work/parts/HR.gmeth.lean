section BJ
variable {G : pT} {K K1 : PK} {g : Nat → Nat → Nat} {q f n m b : Nat} {v : Int32}
theorem MtB.kI (h : MtB K) (hf : ¬ 12 = f) : MtB (_root_.Jvm.Pilot.@@N@@.kI K f q v) := fun p hp => by
  rw [kI_of hf]; exact h p hp
theorem MtB.set (h : MtB K) (hn : n ≤ 1000) : MtB (_root_.Jvm.Pilot.@@N@@.kI K 12 q (nI n)) := fun p hp => by
  by_cases e : p = q
  · subst e; exact ⟨n, hn, kI_eq⟩
  · rw [kI_ne e]; exact h p hp
theorem bl_of (h : K.2.2.1 7 m = some b) : bl K g m = rE (g 2 b) - rS (g 2 b) - 2 := by
  unfold bl
  rw [h]
theorem BdX.C (h : BdX K K1) (hp : ¬ K.1 q = 0) (f : Nat) : K1.2.2.1 f q = K.2.2.1 f q := (h.1 q hp).2.2.1 f
theorem BdX.I (h : BdX K K1) (hp : ¬ K.1 q = 0) (hf : (decide (f = 5) || decide (11 ≤ f ∧ f ≤ 14) || decide (26 ≤ f)) = false) : K1.2.1 f q = K.2.1 f q := (h.1 q hp).2.1 f (bdI_no hf)
end BJ
theorem dX0_beginMethod_0 : decode cX0_beginMethod 0 = .ok (.aload_n 0, 1) := by decide +kernel
theorem dX0_beginMethod_1 : decode cX0_beginMethod 1 = .ok (.aload_n 1, 1) := by decide +kernel
theorem dX0_beginMethod_2 : decode cX0_beginMethod 2 = .ok (.putfield 69, 3) := by decide +kernel
theorem dX0_beginMethod_5 : decode cX0_beginMethod 5 = .ok (.aload_n 0, 1) := by decide +kernel
theorem dX0_beginMethod_6 : decode cX0_beginMethod 6 = .ok (.aconst_null, 1) := by decide +kernel
theorem dX0_beginMethod_7 : decode cX0_beginMethod 7 = .ok (.putfield 84, 3) := by decide +kernel
theorem dX0_beginMethod_10 : decode cX0_beginMethod 10 = .ok (.aload_n 0, 1) := by decide +kernel
theorem dX0_beginMethod_11 : decode cX0_beginMethod 11 = .ok (.iconst 0, 1) := by decide +kernel
theorem dX0_beginMethod_12 : decode cX0_beginMethod 12 = .ok (.putfield 88, 3) := by decide +kernel
theorem dX0_beginMethod_15 : decode cX0_beginMethod 15 = .ok (.aload_n 0, 1) := by decide +kernel
theorem dX0_beginMethod_16 : decode cX0_beginMethod 16 = .ok (.iconst 0, 1) := by decide +kernel
theorem dX0_beginMethod_17 : decode cX0_beginMethod 17 = .ok (.putfield 91, 3) := by decide +kernel
theorem dX0_beginMethod_20 : decode cX0_beginMethod 20 = .ok (.aload_n 0, 1) := by decide +kernel
theorem dX0_beginMethod_21 : decode cX0_beginMethod 21 = .ok (.iconst 0, 1) := by decide +kernel
theorem dX0_beginMethod_22 : decode cX0_beginMethod 22 = .ok (.putfield 94, 3) := by decide +kernel
theorem dX0_beginMethod_25 : decode cX0_beginMethod 25 = .ok (.aload_n 0, 1) := by decide +kernel
theorem dX0_beginMethod_26 : decode cX0_beginMethod 26 = .ok (.getfield 15, 3) := by decide +kernel
theorem dX0_beginMethod_29 : decode cX0_beginMethod 29 = .ok (.invokevirtual 97, 3) := by decide +kernel
theorem dX0_beginMethod_32 : decode cX0_beginMethod 32 = .ok (.aload_n 0, 1) := by decide +kernel
theorem dX0_beginMethod_33 : decode cX0_beginMethod 33 = .ok (.getfield 69, 3) := by decide +kernel
theorem dX0_beginMethod_36 : decode cX0_beginMethod 36 = .ok (.aload_n 0, 1) := by decide +kernel
theorem dX0_beginMethod_37 : decode cX0_beginMethod 37 = .ok (.getfield 15, 3) := by decide +kernel
theorem dX0_beginMethod_40 : decode cX0_beginMethod 40 = .ok (.getfield 99, 3) := by decide +kernel
theorem dX0_beginMethod_43 : decode cX0_beginMethod 43 = .ok (.putfield 100, 3) := by decide +kernel
theorem dX0_beginMethod_46 : decode cX0_beginMethod 46 = .ok (.aload_n 0, 1) := by decide +kernel
theorem dX0_beginMethod_47 : decode cX0_beginMethod 47 = .ok (.getfield 69, 3) := by decide +kernel
theorem dX0_beginMethod_50 : decode cX0_beginMethod 50 = .ok (.aload_n 0, 1) := by decide +kernel
theorem dX0_beginMethod_51 : decode cX0_beginMethod 51 = .ok (.getfield 15, 3) := by decide +kernel
theorem dX0_beginMethod_54 : decode cX0_beginMethod 54 = .ok (.getfield 103, 3) := by decide +kernel
theorem dX0_beginMethod_57 : decode cX0_beginMethod 57 = .ok (.putfield 106, 3) := by decide +kernel
theorem dX0_beginMethod_60 : decode cX0_beginMethod 60 = .ok (.iconst 0, 1) := by decide +kernel
theorem dX0_beginMethod_61 : decode cX0_beginMethod 61 = .ok (.istore_n 2, 1) := by decide +kernel
theorem dX0_beginMethod_62 : decode cX0_beginMethod 62 = .ok (.iload_n 2, 1) := by decide +kernel
theorem dX0_beginMethod_63 : decode cX0_beginMethod 63 = .ok (.aload_n 0, 1) := by decide +kernel
theorem dX0_beginMethod_64 : decode cX0_beginMethod 64 = .ok (.getfield 69, 3) := by decide +kernel
theorem dX0_beginMethod_67 : decode cX0_beginMethod 67 = .ok (.getfield 109, 3) := by decide +kernel
theorem dX0_beginMethod_70 : decode cX0_beginMethod 70 = .ok (.invokevirtual 54, 3) := by decide +kernel
theorem dX0_beginMethod_73 : decode cX0_beginMethod 73 = .ok (.if_icmp .ge 58, 3) := by decide +kernel
theorem dX0_beginMethod_131 : decode cX0_beginMethod 131 = .ok (.return_, 1) := by decide +kernel
theorem dX0_beginMethod_76 : decode cX0_beginMethod 76 = .ok (.aload_n 0, 1) := by decide +kernel
theorem dX0_beginMethod_77 : decode cX0_beginMethod 77 = .ok (.getfield 69, 3) := by decide +kernel
theorem dX0_beginMethod_80 : decode cX0_beginMethod 80 = .ok (.getfield 109, 3) := by decide +kernel
theorem dX0_beginMethod_83 : decode cX0_beginMethod 83 = .ok (.iload_n 2, 1) := by decide +kernel
theorem dX0_beginMethod_84 : decode cX0_beginMethod 84 = .ok (.invokevirtual 59, 3) := by decide +kernel
theorem dX0_beginMethod_87 : decode cX0_beginMethod 87 = .ok (.checkcast 112, 3) := by decide +kernel
theorem dX0_beginMethod_90 : decode cX0_beginMethod 90 = .ok (.astore_n 3, 1) := by decide +kernel
theorem dX0_beginMethod_91 : decode cX0_beginMethod 91 = .ok (.aload_n 0, 1) := by decide +kernel
theorem dX0_beginMethod_92 : decode cX0_beginMethod 92 = .ok (.aload_n 3, 1) := by decide +kernel
theorem dX0_beginMethod_93 : decode cX0_beginMethod 93 = .ok (.getfield 114, 3) := by decide +kernel
theorem dX0_beginMethod_96 : decode cX0_beginMethod 96 = .ok (.aload_n 0, 1) := by decide +kernel
theorem dX0_beginMethod_97 : decode cX0_beginMethod 97 = .ok (.getfield 9, 3) := by decide +kernel
theorem dX0_beginMethod_100 : decode cX0_beginMethod 100 = .ok (.aload_n 3, 1) := by decide +kernel
theorem dX0_beginMethod_101 : decode cX0_beginMethod 101 = .ok (.getfield 117, 3) := by decide +kernel
theorem dX0_beginMethod_104 : decode cX0_beginMethod 104 = .ok (.invokevirtual 120, 3) := by decide +kernel
theorem dX0_beginMethod_107 : decode cX0_beginMethod 107 = .ok (.invokevirtual 126, 3) := by decide +kernel
theorem dX0_beginMethod_110 : decode cX0_beginMethod 110 = .ok (.istore 4, 2) := by decide +kernel
theorem dX0_beginMethod_112 : decode cX0_beginMethod 112 = .ok (.aload_n 0, 1) := by decide +kernel
theorem dX0_beginMethod_113 : decode cX0_beginMethod 113 = .ok (.dup, 1) := by decide +kernel
theorem dX0_beginMethod_114 : decode cX0_beginMethod 114 = .ok (.getfield 94, 3) := by decide +kernel
theorem dX0_beginMethod_117 : decode cX0_beginMethod 117 = .ok (.iconst 1, 1) := by decide +kernel
theorem dX0_beginMethod_118 : decode cX0_beginMethod 118 = .ok (.iload 4, 2) := by decide +kernel
theorem dX0_beginMethod_120 : decode cX0_beginMethod 120 = .ok (.ishl, 1) := by decide +kernel
theorem dX0_beginMethod_121 : decode cX0_beginMethod 121 = .ok (.ior, 1) := by decide +kernel
theorem dX0_beginMethod_122 : decode cX0_beginMethod 122 = .ok (.putfield 94, 3) := by decide +kernel
theorem dX0_beginMethod_125 : decode cX0_beginMethod 125 = .ok (.iinc 2 1, 3) := by decide +kernel
theorem dX0_beginMethod_128 : decode cX0_beginMethod 128 = .ok (.goto (-66), 3) := by decide +kernel
theorem hV_X1_beginMethod : yX1_beginMethod.cls = RX1 ∧ yX1_beginMethod.cls ≠ "java/lang/invoke/MethodHandle" ∧ yX1_beginMethod.cls ≠ "java/lang/invoke/VarHandle" ∧ (parseMethodDescriptor yX1_beginMethod.desc).map (fun d => d.parameters.length) = some 0 := by decide +kernel
set_option maxHeartbeats 16000000 in
set_option maxRecDepth 100000 in
theorem B_beginMethod (l : Launch) (G : pT) (h0 : Nat) (a : Nat → Nat) (F : Nat → Int32) (R : Nat → Value) (Z : Int64) (B : Nat → Nat → Int32) (J : Nat → Nat → Int64) (K : PK) (w : va_W) (m0 : Nat) (cs : Nat) (rg : Nat) (sz : Nat) (g : Nat → Nat → Nat) (hsz : sz ≤ 5000) (hcs : cs ≤ 10000) (hrg : rg ≤ 625) (hwp : WPr G K g) (hm0 : K.1 m0 = 3) (hng : Nng (B 18)) (hO : OKP G h0 a (upd (upd (upd F 2 (nI sz)) 5 (nI cs)) 6 (nI rg)) R Z B J K w) (hl0 : l.stackTraces = false) : PBn l G pX0 yX0_beginMethod cX0_beginMethod 5 none ({ frames := 8, cells := 1, slots := 6, locals := 145 }) [.ref (a 4), .ref m0] w (fun (v : Option Value) (u : va_W × (PK × (Nat → Nat → Int32) × Nat × Nat × Int32)) => v = none ∧ (BdX K u.2.1) ∧ (MtB u.2.1) ∧ (Bth B u.2.2.1) ∧ (u.2.2.2.1 ≤ 30 ∧ u.2.2.2.2.1 ≤ 1000) ∧ (OKP G h0 a (upd (upd (upd (upd (upd (upd (upd (upd F 2 (nI sz)) 5 (nI cs)) 6 (nI rg)) 7 (nI (u.2.2.2.1 + 1))) 8 (nI u.2.2.2.2.1)) 12 (nI u.2.2.2.1)) 13 u.2.2.2.2.2) 16 0) (updR (updR R 3 (.ref m0)) 4 (.null)) Z u.2.2.1 J u.2.1 u.1)) (fun u => u.1) (fun (u : va_W × (PK × (Nat → Nat → Int32) × Nat × Nat × Int32)) => 0) (fun (u : va_W × (PK × (Nat → Nat → Int32) × Nat × Nat × Int32)) => 0) (fun (u : va_W × (Nat → Int32) × (Nat → Value) × (Nat → Nat → Int32)) => ThQ G h0 a (upd (upd (upd F 2 (nI sz)) 5 (nI cs)) 6 (nI rg)) R Z B J u) (fun u => u.1) := by
  intro sz
  refine vx_ofW (cc := cX0_beginMethod) (maxL := 5) (ret := none) (by decide) rfl ?_
  intro p e s m args below meth c s₁ B9 hml hnt hv
  obtain ⟨rfl, hsz, hP, hD0, hE, hX⟩ := hv
  have hx := B9.exec
  have hb := B9.bytes
  have hr := B9.returns
  have hts := atoms_spec (ws := Cond.code yX0_beginMethod cX0_beginMethod 5 none :: pw) B9.pre
  have hq : ∀ w ∈ pw, w.before _ s = true := fun w h => hts w (List.mem_cons_of_mem _ h)
  have hown : s.vm.findClass RX0 = some m.cls := findClass_of_methodNamed B9.named
  have hlocks := B9.notSynchronized
  subst hsz
  have hD := hD0.self (sz := s.heap.size)
  have hA : ∀ q : Nat, s.heap.size ≤ q → va_A w s.heap.size q := fun q h => Or.inr h
  generalize va_A w s.heap.size = A at hD hE hA ⊢
  have hS : va_S A s.heap s.heap [] := va_S.rf
  have hl := lv_entry ([.ref (a 4), .ref m0]) (n := 5) (Nat.le_of_ble_eq_true rfl)
  rw [lg_entry_eq]
  generalize (lg_sl ([.ref (a 4), .ref m0]) ++ List.replicate (5 - (lg_sl ([.ref (a 4), .ref m0])).length) Slot.unset).toArray = ls at hl ⊢
  have hl : lv_has ls 5 [(0, .ref (a 4)), (1, .ref m0)] := hl
  obtain ⟨lp, hflp, htlp, hrlp, holp⟩ := (hwp.2.2.2 m0 hm0).1
  obtain ⟨nlp, itlp, cplp, hlclp, hnblp, hcblp⟩ := hwp.2.1 lp htlp
  rw [hrlp] at hlclp hnblp
  have hnclp := hlclp.2.2.1
  have hnblp : nlp ≤ 5000 := hnblp
  have hlclp : LsC G K lp 1 nlp itlp cplp := hlclp
  refine lv_aload_n hx hb dX0_beginMethod_0 rfl (lv_at hl 0 rfl) ?_
  refine lv_aload_n hx hb dX0_beginMethod_1 rfl (lv_at hl 1 rfl) ?_
  refine c_put (v := .ref m0) (ty := (.object "JinjaTongue$Method")) (C := RX0) (Tc := TX0) (N := 13) (ci := 0) hx hb hq pin_wsX00 tyX0 tyX0_ok nmX0 hown hE hP hD hS hO 24 (sg_24 G h0 a _ _ _ _ _) rfl 7 (by decide) (hq _ pw_72) (fun _ h9 => h9) rfl (by decide +kernel) rfl rfl (Nat.le_of_ble_eq_true rfl) (sr_3 G h0 a _ _ _ _ _ (.ref m0)) dX0_beginMethod_2 (fun H locs w hP hD hS hO => ?_)
  refine lv_aload_n hx hb dX0_beginMethod_5 rfl (lv_at hl 0 rfl) ?_
  refine lv_null hx hb dX0_beginMethod_6 ?_
  refine c_put (v := .null) (ty := (.object "JinjaTongue$Loop")) (C := RX0) (Tc := TX0) (N := 13) (ci := 0) hx hb hq pin_wsX00 tyX0 tyX0_ok nmX0 hown hE hP hD hS hO 24 (sg_24 G h0 a _ _ _ _ _) rfl 11 (by decide) (hq _ pw_73) (fun _ h9 => h9) rfl (by decide +kernel) rfl rfl (Nat.le_of_ble_eq_true rfl) (sr_4 G h0 a _ _ _ _ _ (.null)) dX0_beginMethod_7 (fun H locs w hP hD hS hO => ?_)
  refine lv_aload_n hx hb dX0_beginMethod_10 rfl (lv_at hl 0 rfl) ?_
  refine lv_iconst (v := 0) hx hb dX0_beginMethod_11 (by decide) ?_
  refine c_put (v := .int 0) (ty := .int) (C := RX0) (Tc := TX0) (N := 13) (ci := 0) hx hb hq pin_wsX00 tyX0 tyX0_ok nmX0 hown hE hP hD hS hO 24 (sg_24 G h0 a _ _ _ _ _) rfl 12 (by decide) (hq _ pw_74) (fun _ h9 => h9) rfl (by decide +kernel) rfl rfl (Nat.le_of_ble_eq_true rfl) (sf_16 G h0 a _ _ _ _ _ 0) dX0_beginMethod_12 (fun H locs w hP hD hS hO => ?_)
  refine lv_aload_n hx hb dX0_beginMethod_15 rfl (lv_at hl 0 rfl) ?_
  refine lv_iconst (v := 0) hx hb dX0_beginMethod_16 (by decide) ?_
  refine c_put (v := .int 0) (ty := .int) (C := RX0) (Tc := TX0) (N := 13) (ci := 0) hx hb hq pin_wsX00 tyX0 tyX0_ok nmX0 hown hE hP hD hS hO 24 (sg_24 G h0 a _ _ _ _ _) rfl 5 (by decide) (hq _ pw_42) (fun _ h9 => h9) rfl (by decide +kernel) rfl rfl (Nat.le_of_ble_eq_true rfl) (sf_12 G h0 a _ _ _ _ _ 0) dX0_beginMethod_17 (fun H locs w hP hD hS hO => ?_)
  refine lv_aload_n hx hb dX0_beginMethod_20 rfl (lv_at hl 0 rfl) ?_
  refine lv_iconst (v := 0) hx hb dX0_beginMethod_21 (by decide) ?_
  refine c_put (v := .int 0) (ty := .int) (C := RX0) (Tc := TX0) (N := 13) (ci := 0) hx hb hq pin_wsX00 tyX0 tyX0_ok nmX0 hown hE hP hD hS hO 24 (sg_24 G h0 a _ _ _ _ _) rfl 8 (by decide) (hq _ pw_55) (fun _ h9 => h9) rfl (by decide +kernel) rfl rfl (Nat.le_of_ble_eq_true rfl) (sf_13 G h0 a _ _ _ _ _ 0) dX0_beginMethod_22 (fun H locs w hP hD hS hO => ?_)
  refine lv_aload_n hx hb dX0_beginMethod_25 rfl (lv_at hl 0 rfl) ?_
  refine c_get (v := .ref (a 2)) (C := RX0) (Tc := TX0) (N := 13) (ci := 0) hx hb hq pin_wsX00 hown hE hP hO 24 (sg_24 G h0 a _ _ _ _ _) rfl 1 (by decide) (hq _ pw_5) (fun _ h9 => h9) rfl dX0_beginMethod_26 ?_
  have hO : OKW G h0 a (upd (upd (upd (upd (upd (upd F 2 (nI sz)) 5 (nI cs)) 6 (nI rg)) 12 0) 13 0) 16 0) (updR (updR R 3 (.ref m0)) 4 (.null)) Z B J K.1 (fun q99 x99 => x99 = rep G a K q99) w := hO.to rfl
  obtain ⟨_, qr4, hqr5⟩ := hO.2.1 13 _ (sg_13 G h0 a _ _ _ _ _)
  refine pc_V0 (G := G) (As := []) (rest := []) hx hb hml hown hq hE hX pX0_al hP hD hS hA hl.1 (K_codeBegin l G h0 a (upd (upd (upd (upd (upd (upd F 2 (nI sz)) 5 (nI cs)) 6 (nI rg)) 12 0) 13 0) 16 0) (updR (updR R 3 (.ref m0)) 4 (.null)) Z B J K.1 (fun q99 x99 => x99 = rep G a K q99) w hO) (gV pw_83 pw_84 pw_85 pw_70 pw_33) hV_X1_beginMethod qr4 1 hqr5 rfl rfl rfl (Nat.le_of_ble_eq_true rfl) dX0_beginMethod_29 ⟨(by show 0 + 0 ≤ 1; omega), (by show 0 + 0 ≤ 6; omega)⟩ ⟨Nat.le_of_ble_eq_true rfl, Nat.le_of_ble_eq_true rfl⟩ (fun v3 u1 H locs hw2 hP hD hS => ?_)
  obtain ⟨w, _⟩ := u1
  obtain ⟨hw2, hO⟩ := hw2
  obtain rfl : v3 = none := hw2
  have hO : OKP G h0 a (upd (upd (upd (upd (upd (upd (upd (upd F 2 (nI sz)) 5 (nI cs)) 6 (nI rg)) 7 1) 8 1) 12 0) 13 0) 16 0) (updR (updR R 3 (.ref m0)) 4 (.null)) Z B J K w := hO.to rfl
  refine W.widen (k := 0) (n := 0) (Nat.le_of_ble_eq_true rfl) (Nat.le_of_ble_eq_true rfl) ?_
  refine W.eq (g2 := F0 m 32 ls []) rfl ?_
  refine lv_aload_n hx hb dX0_beginMethod_32 rfl (lv_at hl 0 rfl) ?_
  refine c_get (v := .ref m0) (C := RX0) (Tc := TX0) (N := 13) (ci := 0) hx hb hq pin_wsX00 hown hE hP hO 24 (sg_24 G h0 a _ _ _ _ _) rfl 7 (by decide) (hq _ pw_72) (fun _ h9 => h9) rfl dX0_beginMethod_33 ?_
  refine lv_aload_n hx hb dX0_beginMethod_36 rfl (lv_at hl 0 rfl) ?_
  refine c_get (v := .ref (a 2)) (C := RX0) (Tc := TX0) (N := 13) (ci := 0) hx hb hq pin_wsX00 hown hE hP hO 24 (sg_24 G h0 a _ _ _ _ _) rfl 1 (by decide) (hq _ pw_5) (fun _ h9 => h9) rfl dX0_beginMethod_37 ?_
  refine c_get (v := .int (nI cs)) (C := RX1) (Tc := TX1) (N := 13) (ci := 1) hx hb hq pin_wsX10 hown hE hP hO 13 (sg_13 G h0 a _ _ _ _ _) rfl 4 (by decide) (hq _ pw_75) (fun _ h9 => h9) rfl dX0_beginMethod_40 ?_
  refine p_put (v := .int (nI cs)) (ty := .int) (C := RX6) (Tc := TX6) (N := 12) (ci := 12) (K' := (kI K 11 m0 (nI cs))) hx hb hq pin_wsX60 tyX6 tyX6_ok nmX6 hown hE hP hD hS hO (by rw [hm0]; decide) (rep_3 hm0) rfl 8 (by decide) (hq _ pw_76) (fun _ h9 => h9) rfl (by decide +kernel) rfl rfl (Nat.le_of_ble_eq_true rfl) rfl (by rw [rep_3 (show (kI K 11 m0 (nI cs)).1 m0 = 3 from hm0), pi_11] <;> rfl) (fun p9 hp9 => rep_kI hp9) dX0_beginMethod_43 (fun H locs w hP hD hS hO => ?_)
  obtain ⟨K6, hK7⟩ : ∃ z : PK, z = (kI K 11 m0 (nI cs)) := ⟨_, rfl⟩
  rw [← hK7] at hO
  have hf8 : K6.1 m0 = 3 := (by rw [hK7]; exact hm0)
  have hf9 : K6.2.2.1 6 m0 = some lp := (by rw [hK7]; exact hflp)
  have hf10 : K6.1 lp = 5 := (by rw [hK7]; exact htlp)
  have hf11 : K6.2.1 11 m0 = (nI cs) := by rw [hK7]; exact kI_eq
  have hbx12 : BdX K K6 := BdX.trans BdX.rfl (by rw [hK7]; exact BdX.kI (by unfold bdI; omega))
  have hmt13 : MtB K6 := by rw [hK7]; exact MtB.kI (MtB.of hwp) (by decide)
  refine lv_aload_n hx hb dX0_beginMethod_46 rfl (lv_at hl 0 rfl) ?_
  refine c_get (v := .ref m0) (C := RX0) (Tc := TX0) (N := 13) (ci := 0) hx hb hq pin_wsX00 hown hE hP hO 24 (sg_24 G h0 a _ _ _ _ _) rfl 7 (by decide) (hq _ pw_72) (fun _ h9 => h9) rfl dX0_beginMethod_47 ?_
  refine lv_aload_n hx hb dX0_beginMethod_50 rfl (lv_at hl 0 rfl) ?_
  refine c_get (v := .ref (a 2)) (C := RX0) (Tc := TX0) (N := 13) (ci := 0) hx hb hq pin_wsX00 hown hE hP hO 24 (sg_24 G h0 a _ _ _ _ _) rfl 1 (by decide) (hq _ pw_5) (fun _ h9 => h9) rfl dX0_beginMethod_51 ?_
  refine c_get (v := .int (nI rg)) (C := RX1) (Tc := TX1) (N := 13) (ci := 1) hx hb hq pin_wsX10 hown hE hP hO 13 (sg_13 G h0 a _ _ _ _ _) rfl 10 (by decide) (hq _ pw_77) (fun _ h9 => h9) rfl dX0_beginMethod_54 ?_
  refine p_put (v := .int (nI rg)) (ty := .int) (C := RX6) (Tc := TX6) (N := 12) (ci := 12) (K' := (kI K6 13 m0 (nI rg))) hx hb hq pin_wsX60 tyX6 tyX6_ok nmX6 hown hE hP hD hS hO (by rw [hf8]; decide) (rep_3 hf8) rfl 10 (by decide) (hq _ pw_78) (fun _ h9 => h9) rfl (by decide +kernel) rfl rfl (Nat.le_of_ble_eq_true rfl) rfl (by rw [rep_3 (show (kI K6 13 m0 (nI rg)).1 m0 = 3 from hf8), pi_13] <;> rfl) (fun p9 hp9 => rep_kI hp9) dX0_beginMethod_57 (fun H locs w hP hD hS hO => ?_)
  obtain ⟨K14, hK15⟩ : ∃ z : PK, z = (kI K6 13 m0 (nI rg)) := ⟨_, rfl⟩
  rw [← hK15] at hO
  have hf16 : K14.1 m0 = 3 := (by rw [hK15]; exact hf8)
  have hf17 : K14.2.2.1 6 m0 = some lp := (by rw [hK15]; exact hf9)
  have hf18 : K14.1 lp = 5 := (by rw [hK15]; exact hf10)
  have hf19 : K14.2.1 11 m0 = (nI cs) := (by rw [hK15]; exact (kI_of (by decide)).trans hf11)
  have hf20 : K14.2.1 13 m0 = (nI rg) := by rw [hK15]; exact kI_eq
  have hbx21 : BdX K K14 := BdX.trans hbx12 (by rw [hK15]; exact BdX.kI (by unfold bdI; omega))
  have hmt22 : MtB K14 := by rw [hK15]; exact MtB.kI hmt13 (by decide)
  refine lv_iconst (v := 0) hx hb dX0_beginMethod_60 (by decide) ?_
  refine lv_istore_n (lv' := [(2, .int 0), (0, .ref (a 4)), (1, .ref m0)]) hx hb dX0_beginMethod_61 rfl hl (by decide) rfl (fun ls hl => ?_)
  have loop_g : ∀ (n_g : Nat) (i2 : Nat) (K2 : PK) (B2 : Nat → Nat → Int32) (dp2 : Nat) (as2 : Int32) (H : Heap) (locs : List Loc) (ls : Array Slot) (w : va_W), i2 ≤ nlp → nlp + 1 ≤ i2 + n_g → (BdX K K2) → (MtB K2) → (Bth B B2) → (dp2 ≤ 1000 ∧ i2 ≤ 30) → va_P G.1 pCl w H → va_D A w → va_S A s.heap H locs → OKP G h0 a (upd (upd (upd (upd (upd (upd (upd (upd F 2 (nI sz)) 5 (nI cs)) 6 (nI rg)) 7 (nI (i2 + 1))) 8 (nI dp2)) 12 (nI i2)) 13 as2) 16 0) (updR (updR R 3 (.ref m0)) 4 (.null)) Z B2 J K2 w → lv_has ls 5 [(2, .int (nI i2)), (1, .ref m0), (0, .ref (a 4))] → W p l e (headSpec (Cond.code yX0_beginMethod cX0_beginMethod 5 none :: pw) ({ frames := 8, cells := 1, slots := 6, locals := 145 } : Room)).room s m ([.ref (a 4), .ref m0] : List Value).toArray below meth c H locs 0 0 (vx_MQ below (pQn G A (fun (v : Option Value) (u : va_W × (PK × (Nat → Nat → Int32) × Nat × Nat × Int32)) => v = none ∧ (BdX K u.2.1) ∧ (MtB u.2.1) ∧ (Bth B u.2.2.1) ∧ (u.2.2.2.1 ≤ 30 ∧ u.2.2.2.2.1 ≤ 1000) ∧ (OKP G h0 a (upd (upd (upd (upd (upd (upd (upd (upd F 2 (nI sz)) 5 (nI cs)) 6 (nI rg)) 7 (nI (u.2.2.2.1 + 1))) 8 (nI u.2.2.2.2.1)) 12 (nI u.2.2.2.1)) 13 u.2.2.2.2.2) 16 0) (updR (updR R 3 (.ref m0)) 4 (.null)) Z u.2.2.1 J u.2.1 u.1)) (fun u => u.1) (fun (u : va_W × (PK × (Nat → Nat → Int32) × Nat × Nat × Int32)) => 0) (fun (u : va_W × (PK × (Nat → Nat → Int32) × Nat × Nat × Int32)) => 0)) (pXX G A (fun (u : va_W × (Nat → Int32) × (Nat → Value) × (Nat → Nat → Int32)) => ThQ G h0 a (upd (upd (upd F 2 (nI sz)) 5 (nI cs)) 6 (nI rg)) R Z B J u) (fun u => u.1)) ([.ref (a 4), .ref m0] : List Value).toArray s ({ frames := 8, cells := 1, slots := 6, locals := 145 } : Room).cells ({ frames := 8, cells := 1, slots := 6, locals := 145 } : Room).slots A) (F0 m 62 ls []) := by
    intro n_g
    induction n_g with
    | zero => intro i2 K2 B2 dp2 as2 H locs ls w hk_g hn_g; omega
    | succ n_g ih_g =>
      intro i2 K2 B2 dp2 as2 H locs ls w hk_g hn_g hbx2 hmt2 hbb2 hdp2 hP hD hS hO hl
      have hf23 : K2.1 m0 = 3 := (BdX.T hbx2 hm0 (by decide))
      have hf24 : K2.2.2.1 6 m0 = some lp := (BdX.C hbx2 (by rw [hm0]; decide) 6).trans hflp
      have hf25 : K2.1 lp = 5 := (BdX.T hbx2 htlp (by decide))
      refine lv_iload_n hx hb dX0_beginMethod_62 rfl (lv_at hl 0 rfl) ?_
      refine lv_aload_n hx hb dX0_beginMethod_63 rfl (lv_at hl 2 rfl) ?_
      refine c_get (v := .ref m0) (C := RX0) (Tc := TX0) (N := 13) (ci := 0) hx hb hq pin_wsX00 hown hE hP hO 24 (sg_24 G h0 a _ _ _ _ _) rfl 7 (by decide) (hq _ pw_72) (fun _ h9 => h9) rfl dX0_beginMethod_64 ?_
      refine p_get (v := .ref lp) (C := RX6) (Tc := TX6) (N := 12) (ci := 12) hx hb hq pin_wsX60 hown hE hP hO (by rw [hf23]; decide) (rep_3 hf23) rfl 4 (by decide) (hq _ pw_79) (fun _ h9 => h9) (congrArg (fun z => some (va_rf z)) hf24) dX0_beginMethod_67 ?_
      have hO : OKP G h0 a (upd (upd (upd (upd (upd (upd (upd (upd F 2 (nI sz)) 5 (nI cs)) 6 (nI rg)) 7 (nI (i2 + 1))) 8 (nI dp2)) 12 (nI i2)) 13 as2) 16 0) (updR (updR R 3 (.ref m0)) 4 (.null)) Z B2 J K2 w := hO.to rfl
      obtain ⟨qr29, hqr30⟩ := p_recv hO (by rw [hf25]; decide) (rep_5 hf25)
      refine pc_V0 (G := G) (As := []) (rest := [.int (nI i2)]) hx hb hml hown hq hE hX pX0_al hP hD hS hA hl.1 (L_size l G h0 a (upd (upd (upd (upd (upd (upd (upd (upd F 2 (nI sz)) 5 (nI cs)) 6 (nI rg)) 7 (nI (i2 + 1))) 8 (nI dp2)) 12 (nI i2)) 13 as2) 16 0) (updR (updR R 3 (.ref m0)) 4 (.null)) Z B2 J K2 w lp 1 nlp itlp (BdX.ls hbx2 (by decide) hlclp).ls hO) (gV pw_86 pw_87 pw_88 pw_32 pw_16) hV_Jx4a65c_size_8abf5 qr29 10 hqr30 rfl rfl rfl (Nat.le_of_ble_eq_true rfl) dX0_beginMethod_70 ⟨(by show 0 + 0 ≤ 1; omega), (by show 0 + 0 ≤ 6; omega)⟩ ⟨Nat.le_of_ble_eq_true rfl, Nat.le_of_ble_eq_true rfl⟩ (fun v28 u26 H locs hw27 hP hD hS => ?_)
      obtain ⟨w, _⟩ := u26
      obtain ⟨hw27, hO⟩ := hw27
      obtain rfl : v28 = some (.int (nI nlp)) := hw27
      have hO : OKP G h0 a (upd (upd (upd (upd (upd (upd (upd (upd F 2 (nI sz)) 5 (nI cs)) 6 (nI rg)) 7 (nI (i2 + 1))) 8 (nI dp2)) 12 (nI i2)) 13 as2) 16 0) (updR (updR R 3 (.ref m0)) 4 (.null)) Z B2 J K2 w := hO.to rfl
      refine W.widen (k := 0) (n := 0) (Nat.le_of_ble_eq_true rfl) (Nat.le_of_ble_eq_true rfl) ?_
      refine W.eq (g2 := F0 m 73 ls [.int (nI nlp), .int (nI i2)]) rfl ?_
      refine lv_icmp_ge (tgt := 131) hx hb dX0_beginMethod_73 (by decide) (fun c31 => ?_) (fun c31 => ?_)
      · have n32 : nlp ≤ i2 := (nI_leI (a := nlp) (b := i2) (by omega) (by omega)).mp c31
        refine W_size (fun hz1 hz2 => ?_)
        refine vx_ret ?_
        have hz33 : BdX K K2 := hbx2
        have hz34 : MtB K2 := hmt2
        have hz35 : Bth B B2 := (show Thx (upd (upd (upd F 2 (nI sz)) 5 (nI cs)) 6 (nI rg)) (upd (upd (upd (upd (upd (upd (upd (upd F 2 (nI sz)) 5 (nI cs)) 6 (nI rg)) 7 (nI (i2 + 1))) 8 (nI dp2)) 12 (nI i2)) 13 as2) 16 0) B B2 from (Thx.f (Thx.f (Thx.f (Thx.f (Thx.f (Bth.thx hbb2) (by omega)) (by omega)) (by omega)) (by omega)) (by omega))).2
        have hz36 : i2 ≤ 30 ∧ dp2 ≤ 1000 := (by omega)
        have hO : OKP G h0 a (upd (upd (upd (upd (upd (upd (upd (upd F 2 (nI sz)) 5 (nI cs)) 6 (nI rg)) 7 (nI (i2 + 1))) 8 (nI dp2)) 12 (nI i2)) 13 as2) 16 0) (updR (updR R 3 (.ref m0)) 4 (.null)) Z B2 J K2 w := hO.to rfl
        refine W.widen (k := 1) (n := 6) (by omega) (by omega) ?_
        have hzz1 : H.size ≤ s.heap.size + (0) := (by have z : 0 ≤ 0 := (by omega); omega)
        have hzz2 : hSl H ≤ hSl s.heap + (0) := (by have z : 0 ≤ 0 := (by omega); omega)
        exact W.vret hx hb hr (fun t99 ht99 hW99 => ⟨⟨_, (w, (K2, B2, i2, dp2, as2)), rfl, ⟨rfl, hz33, hz34, hz35, hz36, hO⟩, by rw [ht99]; exact hP, hD, by rw [ht99]; exact hzz1, by rw [ht99]; exact hzz2⟩, hS.F ht99⟩) hS.2.2 dX0_beginMethod_131
      · have n37 : ¬ (nlp ≤ i2) := fun h9 => c31 ((nI_leI (a := nlp) (b := i2) (by omega) (by omega)).mpr h9)
        refine lv_aload_n hx hb dX0_beginMethod_76 rfl (lv_at hl 2 rfl) ?_
        refine c_get (v := .ref m0) (C := RX0) (Tc := TX0) (N := 13) (ci := 0) hx hb hq pin_wsX00 hown hE hP hO 24 (sg_24 G h0 a _ _ _ _ _) rfl 7 (by decide) (hq _ pw_72) (fun _ h9 => h9) rfl dX0_beginMethod_77 ?_
        refine p_get (v := .ref lp) (C := RX6) (Tc := TX6) (N := 12) (ci := 12) hx hb hq pin_wsX60 hown hE hP hO (by rw [hf23]; decide) (rep_3 hf23) rfl 4 (by decide) (hq _ pw_79) (fun _ h9 => h9) (congrArg (fun z => some (va_rf z)) hf24) dX0_beginMethod_80 ?_
        refine lv_iload_n hx hb dX0_beginMethod_83 rfl (lv_at hl 0 rfl) ?_
        have hO : OKP G h0 a (upd (upd (upd (upd (upd (upd (upd (upd F 2 (nI sz)) 5 (nI cs)) 6 (nI rg)) 7 (nI (i2 + 1))) 8 (nI dp2)) 12 (nI i2)) 13 as2) 16 0) (updR (updR R 3 (.ref m0)) 4 (.null)) Z B2 J K2 w := hO.to rfl
        obtain ⟨qr41, hqr42⟩ := p_recv hO (by rw [hf25]; decide) (rep_5 hf25)
        refine pc_V0 (G := G) (As := [.int (nI i2)]) (rest := []) hx hb hml hown hq hE hX pX0_al hP hD hS hA hl.1 (L_get l G h0 a (upd (upd (upd (upd (upd (upd (upd (upd F 2 (nI sz)) 5 (nI cs)) 6 (nI rg)) 7 (nI (i2 + 1))) 8 (nI dp2)) 12 (nI i2)) 13 as2) 16 0) (updR (updR R 3 (.ref m0)) 4 (.null)) Z B2 J K2 w lp 1 nlp itlp i2 (BdX.ls hbx2 (by decide) hlclp).ls (by omega) hO) (gV pw_89 pw_90 pw_91 pw_32 pw_25) hV_Jx4a65c_get_915e3 qr41 10 hqr42 rfl rfl rfl (Nat.le_of_ble_eq_true rfl) dX0_beginMethod_84 ⟨(by show 0 + 0 ≤ 1; omega), (by show 0 + 0 ≤ 6; omega)⟩ ⟨Nat.le_of_ble_eq_true rfl, Nat.le_of_ble_eq_true rfl⟩ (fun v40 u38 H locs hw39 hP hD hS => ?_)
        obtain ⟨w, _⟩ := u38
        obtain ⟨hw39, hO⟩ := hw39
        obtain rfl : v40 = some (.ref (itlp i2)) := hw39
        have hO : OKP G h0 a (upd (upd (upd (upd (upd (upd (upd (upd F 2 (nI sz)) 5 (nI cs)) 6 (nI rg)) 7 (nI (i2 + 1))) 8 (nI dp2)) 12 (nI i2)) 13 as2) 16 0) (updR (updR R 3 (.ref m0)) 4 (.null)) Z B2 J K2 w := hO.to rfl
        refine W.widen (k := 0) (n := 0) (Nat.le_of_ble_eq_true rfl) (Nat.le_of_ble_eq_true rfl) ?_
        refine W.eq (g2 := F0 m 87 ls [.ref (itlp i2)]) rfl ?_
        have hf43 : K2.1 (itlp i2) = 1 := (BdX.ls hbx2 (by decide) hlclp).T (by omega)
        refine p_cast (C := RX7) (Tc := TX7) (N := 11) (ci := 13) hx hb hown (hq _ pw_80) hE hP hO (by rw [hf43]; decide) (rep_1 hf43) rfl dX0_beginMethod_87 ?_
        refine lv_astore_n (lv' := [(3, .ref (itlp i2)), (2, .int (nI i2)), (1, .ref m0), (0, .ref (a 4))]) hx hb dX0_beginMethod_90 rfl hl (by decide) rfl (fun ls hl => ?_)
        refine lv_aload_n hx hb dX0_beginMethod_91 rfl (lv_at hl 3 rfl) ?_
        refine lv_aload_n hx hb dX0_beginMethod_92 rfl (lv_at hl 0 rfl) ?_
        refine p_get (v := .int (K2.2.1 1 (itlp i2))) (C := RX7) (Tc := TX7) (N := 11) (ci := 13) hx hb hq pin_wsX70 hown hE hP hO (by rw [hf43]; decide) (rep_1 hf43) rfl 1 (by decide) (hq _ pw_81) (fun _ h9 => h9) rfl dX0_beginMethod_93 ?_
        refine lv_aload_n hx hb dX0_beginMethod_96 rfl (lv_at hl 3 rfl) ?_
        refine c_get (v := .ref (a 1)) (C := RX0) (Tc := TX0) (N := 13) (ci := 0) hx hb hq pin_wsX00 hown hE hP hO 24 (sg_24 G h0 a _ _ _ _ _) rfl 0 (by decide) (hq _ pw_4) (fun _ h9 => h9) rfl dX0_beginMethod_97 ?_
        refine lv_aload_n hx hb dX0_beginMethod_100 rfl (lv_at hl 0 rfl) ?_
        refine p_get (v := .int (K2.2.1 2 (itlp i2))) (C := RX7) (Tc := TX7) (N := 11) (ci := 13) hx hb hq pin_wsX70 hown hE hP hO (by rw [hf43]; decide) (rep_1 hf43) rfl 2 (by decide) (hq _ pw_82) (fun _ h9 => h9) rfl dX0_beginMethod_101 ?_
        have hO : OKW G h0 a (upd (upd (upd (upd (upd (upd (upd (upd (upd F 2 (nI sz)) 5 (nI cs)) 6 (nI rg)) 7 (nI (i2 + 1))) 8 (nI dp2)) 12 (nI i2)) 13 as2) 16 0) 2 (nI sz)) (updR (updR R 3 (.ref m0)) 4 (.null)) Z B2 J K2.1 (fun q99 x99 => x99 = rep G a K2 q99) w := hO.to rfl
        obtain ⟨_, qr47, hqr48⟩ := hO.2.1 2 _ (sg_2 G h0 a _ _ _ _ _)
        refine pc_V0 (G := G) (As := [.int (K2.2.1 2 (itlp i2))]) (rest := [.int (K2.2.1 1 (itlp i2)), .ref (a 4)]) hx hb hml hown hq hE hX pX0_al hP hD hS hA hl.1 (K_typeAt l G h0 a (upd (upd (upd (upd (upd (upd (upd (upd F 2 (nI sz)) 5 (nI cs)) 6 (nI rg)) 7 (nI (i2 + 1))) 8 (nI dp2)) 12 (nI i2)) 13 as2) 16 0) (updR (updR R 3 (.ref m0)) 4 (.null)) Z B2 J K2.1 (fun q99 x99 => x99 = rep G a K2 q99) w (K2.2.1 2 (itlp i2)) sz (by omega) hO) (gV pw_92 pw_93 pw_94 pw_59 pw_36) hV_X10_typeAt qr47 7 hqr48 rfl rfl rfl (Nat.le_of_ble_eq_true rfl) dX0_beginMethod_104 ⟨(by show 0 + 0 ≤ 1; omega), (by show 0 + 0 ≤ 6; omega)⟩ ⟨Nat.le_of_ble_eq_true rfl, Nat.le_of_ble_eq_true rfl⟩ (fun v46 u44 H locs hw45 hP hD hS => ?_)
        obtain ⟨w, r49⟩ := u44
        obtain ⟨hw45, hO⟩ := hw45
        obtain rfl : v46 = some (.int r49) := hw45
        have hO : OKP G h0 a (upd (upd (upd (upd (upd (upd (upd (upd F 2 (nI sz)) 5 (nI cs)) 6 (nI rg)) 7 (nI (i2 + 1))) 8 (nI dp2)) 12 (nI i2)) 13 as2) 16 0) (updR (updR R 3 (.ref m0)) 4 (.null)) Z B2 J K2 w := hO.to rfl
        refine W.widen (k := 0) (n := 0) (Nat.le_of_ble_eq_true rfl) (Nat.le_of_ble_eq_true rfl) ?_
        refine W.eq (g2 := F0 m 107 ls [.int r49, .int (K2.2.1 1 (itlp i2)), .ref (a 4)]) rfl ?_
        have hO : OKW G h0 a (upd (upd (upd (upd (upd (upd (upd (upd (upd (upd (upd (upd F 2 (nI sz)) 5 (nI cs)) 6 (nI rg)) 7 (nI (i2 + 1))) 8 (nI dp2)) 12 (nI i2)) 13 as2) 16 0) 2 (nI sz)) 7 (nI (i2 + 1))) 8 (nI dp2)) 12 (nI i2)) (updR (updR R 3 (.ref m0)) 4 (.null)) Z B2 J K2.1 (fun q99 x99 => x99 = rep G a K2 q99) w := hO.to rfl
        obtain ⟨_, qr53, hqr54⟩ := hO.2.1 24 _ (sg_24 G h0 a _ _ _ _ _)
        refine pn_V0 (G := G) (As := [.int (K2.2.1 1 (itlp i2)), .int r49]) (rest := []) hx hb hml hown hq hE hX pX0_al hP hD hS hA hl.1 (B_declare l G h0 a (upd (upd (upd (upd (upd (upd (upd (upd F 2 (nI sz)) 5 (nI cs)) 6 (nI rg)) 7 (nI (i2 + 1))) 8 (nI dp2)) 12 (nI i2)) 13 as2) 16 0) (updR (updR R 3 (.ref m0)) 4 (.null)) Z B2 J K2.1 (fun q99 x99 => x99 = rep G a K2 q99) w (K2.2.1 1 (itlp i2)) r49 i2 (i2 + 1) dp2 sz (by omega) (by omega) (by omega) (by omega) hO hl0) (gV pw_95 pw_96 pw_97 pw_63 pw_71) hV_X0_declare qr53 0 hqr54 rfl rfl rfl (Nat.le_of_ble_eq_true rfl) dX0_beginMethod_107 ⟨(by show 0 + 1 ≤ 1; omega), (by show 0 + 6 ≤ 6; omega)⟩ ⟨Nat.le_of_ble_eq_true rfl, Nat.le_of_ble_eq_true rfl⟩ (fun v52 u50 H locs hw51 hP hD hS => ?_) (fun ux ce9 q9 H9 locs9 hux hP9 hD9 hS9 hce hcv hcl => pb_out ux (ThQ.up (Thx.same (Thx.same (Thx.same (Thx.same (Thx.f (Thx.f (Thx.f (Thx.f (Thx.f (Bth.thx hbb2) (by omega)) (by omega)) (by omega)) (by omega)) (by omega)) rfl) rfl) rfl) rfl) (show RhX R (updR (updR R 3 (.ref m0)) 4 (.null)) from fun k9 hk9 => by unfold updR; simp only [show ¬ k9 = 1 by omega, show ¬ k9 = 2 by omega, show ¬ k9 = 3 by omega, show ¬ k9 = 4 by omega, if_false]) hux) hnt hlocks hce hcv hcl hP9 hD9 hS9 (by show 0 + 1 ≤ 1; omega) (by show 0 + 6 ≤ 6; omega))
        obtain ⟨w, dp55, as56, f57, f58, f59⟩ := u50
        obtain ⟨hw51, h60, h61, hO⟩ := hw51
        have h60 : i2 + 1 ≤ 30 := h60
        have h61 : dp55 ≤ 1000 := h61
        obtain rfl : v52 = some (.int (nI i2)) := hw51
        have hO : OKP G h0 a (upd (upd (upd (upd (upd (upd (upd (upd F 2 (nI sz)) 5 (nI cs)) 6 (nI rg)) 7 (nI ((i2 + 1) + 1))) 8 (nI dp55)) 12 (nI (i2 + 1))) 13 as56) 16 0) (updR (updR R 3 (.ref m0)) 4 (.null)) Z (updA (updA (updA B2 25 f57) 26 f58) 27 f59) J K2 w := hO.to rfl
        refine W.widen (k := 0) (n := 0) (by show 0 + 0 ≤ 0; omega) (by show 0 + 0 ≤ 0; omega) ?_
        refine W.eq (g2 := F0 m 110 ls [.int (nI i2)]) rfl ?_
        refine lv_istore (lv' := [(4, .int (nI i2)), (3, .ref (itlp i2)), (2, .int (nI i2)), (1, .ref m0), (0, .ref (a 4))]) hx hb dX0_beginMethod_110 hl (by decide) rfl (fun ls hl => ?_)
        refine lv_aload_n hx hb dX0_beginMethod_112 rfl (lv_at hl 4 rfl) ?_
        refine lv_dup hx hb dX0_beginMethod_113 rfl ?_
        refine c_get (v := .int as56) (C := RX0) (Tc := TX0) (N := 13) (ci := 0) hx hb hq pin_wsX00 hown hE hP hO 24 (sg_24 G h0 a _ _ _ _ _) rfl 8 (by decide) (hq _ pw_55) (fun _ h9 => h9) rfl dX0_beginMethod_114 ?_
        refine lv_iconst (v := 1) hx hb dX0_beginMethod_117 (by decide) ?_
        refine lv_iload hx hb dX0_beginMethod_118 (lv_at hl 0 rfl) ?_
        refine lv_ishl hx hb dX0_beginMethod_120 ?_
        refine lv_topi (fun x62 e63 => ?_)
        refine lv_ior hx hb dX0_beginMethod_121 ?_
        refine lv_topi (fun x64 e65 => ?_)
        refine c_put (v := .int x64) (ty := .int) (C := RX0) (Tc := TX0) (N := 13) (ci := 0) hx hb hq pin_wsX00 tyX0 tyX0_ok nmX0 hown hE hP hD hS hO 24 (sg_24 G h0 a _ _ _ _ _) rfl 8 (by decide) (hq _ pw_55) (fun _ h9 => h9) rfl (by decide +kernel) rfl rfl (Nat.le_of_ble_eq_true rfl) (sf_13 G h0 a _ _ _ _ _ x64) dX0_beginMethod_122 (fun H locs w hP hD hS hO => ?_)
        refine lv_iinc (v := (nI (i2 + 1))) (lv' := [(2, .int (nI (i2 + 1))), (4, .int (nI i2)), (3, .ref (itlp i2)), (1, .ref m0), (0, .ref (a 4))]) hx hb dX0_beginMethod_125 hl (k := 2) rfl (nI_1 i2) (by decide) rfl (fun ls hl => ?_)
        refine lv_goto (tgt := 62) hx hb dX0_beginMethod_128 (by decide) ?_
        have hO : OKP G h0 a (upd (upd (upd (upd (upd (upd (upd (upd F 2 (nI sz)) 5 (nI cs)) 6 (nI rg)) 7 (nI ((i2 + 1) + 1))) 8 (nI dp55)) 12 (nI (i2 + 1))) 13 x64) 16 0) (updR (updR R 3 (.ref m0)) 4 (.null)) Z (updA (updA (updA B2 25 f57) 26 f58) 27 f59) J K2 w := hO.to rfl
        exact ih_g (i2 + 1) K2 (updA (updA (updA B2 25 f57) 26 f58) 27 f59) dp55 x64 _ _ _ _ (by omega) (by omega) hbx2 hmt2 ((show Thx (upd (upd (upd F 2 (nI sz)) 5 (nI cs)) 6 (nI rg)) (upd (upd (upd (upd (upd (upd (upd (upd F 2 (nI sz)) 5 (nI cs)) 6 (nI rg)) 7 (nI ((i2 + 1) + 1))) 8 (nI dp55)) 12 (nI (i2 + 1))) 13 x64) 16 0) B (updA (updA (updA B2 25 f57) 26 f58) 27 f59) from (Thx.b (Thx.b (Thx.b (Thx.f (Thx.f (Thx.f (Thx.f (Thx.f (Bth.thx hbb2) (by omega)) (by omega)) (by omega)) (by omega)) (by omega)) (by omega) (by decide)) (by omega) (by decide)) (by omega) (by decide))).2) (by omega) hP hD hS hO (lv_sub hl [0, 3, 4] rfl)
  have hO : OKP G h0 a (upd (upd (upd (upd (upd (upd (upd (upd F 2 (nI sz)) 5 (nI cs)) 6 (nI rg)) 7 (nI (0 + 1))) 8 (nI 1)) 12 (nI 0)) 13 (0 : Int32)) 16 0) (updR (updR R 3 (.ref m0)) 4 (.null)) Z B J K14 w := hO.to rfl
  exact loop_g (nlp + 1) 0 K14 B 1 (0 : Int32) _ _ _ _ (by omega) (by omega) hbx21 hmt22 ((show Thx (upd (upd (upd F 2 (nI sz)) 5 (nI cs)) 6 (nI rg)) (upd (upd (upd (upd (upd (upd (upd (upd F 2 (nI sz)) 5 (nI cs)) 6 (nI rg)) 7 1) 8 1) 12 0) 13 0) 16 0) B B from (Thx.f (Thx.f (Thx.f (Thx.f (Thx.f Thx.rfl (by omega)) (by omega)) (by omega)) (by omega)) (by omega))).2) (by omega) hP hD hS hO (lv_sub hl [0, 2, 1] rfl)
theorem dX0_endMethod_0 : decode cX0_endMethod 0 = .ok (.aload_n 0, 1) := by decide +kernel
theorem dX0_endMethod_1 : decode cX0_endMethod 1 = .ok (.getfield 69, 3) := by decide +kernel
theorem dX0_endMethod_4 : decode cX0_endMethod 4 = .ok (.getfield 130, 3) := by decide +kernel
theorem dX0_endMethod_7 : decode cX0_endMethod 7 = .ok (.bipush 63, 2) := by decide +kernel
theorem dX0_endMethod_9 : decode cX0_endMethod 9 = .ok (.if_icmp .eq 30, 3) := by decide +kernel
theorem dX0_endMethod_39 : decode cX0_endMethod 39 = .ok (.aload_n 0, 1) := by decide +kernel
theorem dX0_endMethod_40 : decode cX0_endMethod 40 = .ok (.getfield 15, 3) := by decide +kernel
theorem dX0_endMethod_43 : decode cX0_endMethod 43 = .ok (.aload_n 0, 1) := by decide +kernel
theorem dX0_endMethod_44 : decode cX0_endMethod 44 = .ok (.getfield 69, 3) := by decide +kernel
theorem dX0_endMethod_47 : decode cX0_endMethod 47 = .ok (.getfield 130, 3) := by decide +kernel
theorem dX0_endMethod_50 : decode cX0_endMethod 50 = .ok (.bipush 63, 2) := by decide +kernel
theorem dX0_endMethod_52 : decode cX0_endMethod 52 = .ok (.if_icmp .ne 8, 3) := by decide +kernel
theorem dX0_endMethod_60 : decode cX0_endMethod 60 = .ok (.bipush 31, 2) := by decide +kernel
theorem dX0_endMethod_62 : decode cX0_endMethod 62 = .ok (.iconst 0, 1) := by decide +kernel
theorem dX0_endMethod_63 : decode cX0_endMethod 63 = .ok (.iconst 0, 1) := by decide +kernel
theorem dX0_endMethod_64 : decode cX0_endMethod 64 = .ok (.invokevirtual 140, 3) := by decide +kernel
theorem dX0_endMethod_67 : decode cX0_endMethod 67 = .ok (.aload_n 0, 1) := by decide +kernel
theorem dX0_endMethod_68 : decode cX0_endMethod 68 = .ok (.getfield 69, 3) := by decide +kernel
theorem dX0_endMethod_71 : decode cX0_endMethod 71 = .ok (.aload_n 0, 1) := by decide +kernel
theorem dX0_endMethod_72 : decode cX0_endMethod 72 = .ok (.getfield 15, 3) := by decide +kernel
theorem dX0_endMethod_75 : decode cX0_endMethod 75 = .ok (.getfield 144, 3) := by decide +kernel
theorem dX0_endMethod_78 : decode cX0_endMethod 78 = .ok (.putfield 147, 3) := by decide +kernel
theorem dX0_endMethod_81 : decode cX0_endMethod 81 = .ok (.aload_n 0, 1) := by decide +kernel
theorem dX0_endMethod_82 : decode cX0_endMethod 82 = .ok (.getfield 69, 3) := by decide +kernel
theorem dX0_endMethod_85 : decode cX0_endMethod 85 = .ok (.aload_n 0, 1) := by decide +kernel
theorem dX0_endMethod_86 : decode cX0_endMethod 86 = .ok (.getfield 15, 3) := by decide +kernel
theorem dX0_endMethod_89 : decode cX0_endMethod 89 = .ok (.getfield 103, 3) := by decide +kernel
theorem dX0_endMethod_92 : decode cX0_endMethod 92 = .ok (.putfield 149, 3) := by decide +kernel
theorem dX0_endMethod_95 : decode cX0_endMethod 95 = .ok (.return_, 1) := by decide +kernel
theorem dX0_endMethod_55 : decode cX0_endMethod 55 = .ok (.bipush 26, 2) := by decide +kernel
theorem dX0_endMethod_57 : decode cX0_endMethod 57 = .ok (.goto 5, 3) := by decide +kernel
theorem dX0_endMethod_12 : decode cX0_endMethod 12 = .ok (.aload_n 0, 1) := by decide +kernel
theorem dX0_endMethod_13 : decode cX0_endMethod 13 = .ok (.getfield 94, 3) := by decide +kernel
theorem dX0_endMethod_16 : decode cX0_endMethod 16 = .ok (.iconst (-1), 1) := by decide +kernel
theorem dX0_endMethod_17 : decode cX0_endMethod 17 = .ok (.if_icmp .eq 22, 3) := by decide +kernel
theorem dX0_endMethod_20 : decode cX0_endMethod 20 = .ok (.aload_n 0, 1) := by decide +kernel
theorem dX0_endMethod_21 : decode cX0_endMethod 21 = .ok (.getfield 9, 3) := by decide +kernel
theorem dX0_endMethod_24 : decode cX0_endMethod 24 = .ok (.bipush 15, 2) := by decide +kernel
theorem dX0_endMethod_26 : decode cX0_endMethod 26 = .ok (.aload_n 0, 1) := by decide +kernel
theorem dX0_endMethod_27 : decode cX0_endMethod 27 = .ok (.getfield 69, 3) := by decide +kernel
theorem dX0_endMethod_30 : decode cX0_endMethod 30 = .ok (.getfield 73, 3) := by decide +kernel
theorem dX0_endMethod_33 : decode cX0_endMethod 33 = .ok (.getfield 133, 3) := by decide +kernel
theorem dX0_endMethod_36 : decode cX0_endMethod 36 = .ok (.invokevirtual 136, 3) := by decide +kernel
set_option maxHeartbeats 16000000 in
set_option maxRecDepth 100000 in
theorem B_endMethod (l : Launch) (G : pT) (h0 : Nat) (a : Nat → Nat) (F : Nat → Int32) (R : Nat → Value) (Z : Int64) (B : Nat → Nat → Int32) (J : Nat → Nat → Int64) (K : PK) (w : va_W) (m0 : Nat) (b0 : Nat) (cs : Nat) (dp : Nat) (rg : Nat) (sz : Nat) (g : Nat → Nat → Nat) (hsz : sz ≤ 5000) (hcs : cs ≤ 10000) (hrg : rg ≤ 625) (hdp : dp ≤ 1000) (hwp : WPr G K g) (hm0 : K.1 m0 = 3) (hb0 : K.2.2.1 7 m0 = some b0) (hbT : K.1 b0 = 1) (hng : Nng (B 18)) (hO : OKP G h0 a (upd (upd (upd (upd F 2 (nI sz)) 5 (nI cs)) 6 (nI rg)) 8 (nI dp)) (updR R 3 (.ref m0)) Z B J K w) (hl0 : l.stackTraces = false) : PBn l G pX0 yX0_endMethod cX0_endMethod 1 none ({ frames := 7, cells := 1, slots := 6, locals := 122 }) [.ref (a 4)] w (fun (v : Option Value) (u : va_W × (PK × (Nat → Nat → Int32) × Nat)) => v = none ∧ (BdX K u.2.1) ∧ (MtB u.2.1) ∧ (Bth B u.2.2.1) ∧ (u.2.2.2 ≤ 10000) ∧ (OKP G h0 a (upd (upd (upd (upd F 2 (nI sz)) 5 (nI u.2.2.2)) 6 (nI rg)) 8 (nI dp)) (updR R 3 (.ref m0)) Z u.2.2.1 J u.2.1 u.1)) (fun u => u.1) (fun (u : va_W × (PK × (Nat → Nat → Int32) × Nat)) => 0) (fun (u : va_W × (PK × (Nat → Nat → Int32) × Nat)) => 0) (fun (u : va_W × (Nat → Int32) × (Nat → Value) × (Nat → Nat → Int32)) => ThQ G h0 a (upd (upd (upd (upd F 2 (nI sz)) 5 (nI cs)) 6 (nI rg)) 8 (nI dp)) (updR R 3 (.ref m0)) Z B J u) (fun u => u.1) := by
  intro sz
  refine vx_ofW (cc := cX0_endMethod) (maxL := 1) (ret := none) (by decide) rfl ?_
  intro p e s m args below meth c s₁ B9 hml hnt hv
  obtain ⟨rfl, hsz, hP, hD0, hE, hX⟩ := hv
  have hx := B9.exec
  have hb := B9.bytes
  have hr := B9.returns
  have hts := atoms_spec (ws := Cond.code yX0_endMethod cX0_endMethod 1 none :: pw) B9.pre
  have hq : ∀ w ∈ pw, w.before _ s = true := fun w h => hts w (List.mem_cons_of_mem _ h)
  have hown : s.vm.findClass RX0 = some m.cls := findClass_of_methodNamed B9.named
  have hlocks := B9.notSynchronized
  subst hsz
  have hD := hD0.self (sz := s.heap.size)
  have hA : ∀ q : Nat, s.heap.size ≤ q → va_A w s.heap.size q := fun q h => Or.inr h
  generalize va_A w s.heap.size = A at hD hE hA ⊢
  have hS : va_S A s.heap s.heap [] := va_S.rf
  have hl := lv_entry ([.ref (a 4)]) (n := 1) (Nat.le_of_ble_eq_true rfl)
  rw [lg_entry_eq]
  generalize (lg_sl ([.ref (a 4)]) ++ List.replicate (1 - (lg_sl ([.ref (a 4)])).length) Slot.unset).toArray = ls at hl ⊢
  have hl : lv_has ls 1 [(0, .ref (a 4))] := hl
  refine lv_aload_n hx hb dX0_endMethod_0 rfl (lv_at hl 0 rfl) ?_
  refine c_get (v := .ref m0) (C := RX0) (Tc := TX0) (N := 13) (ci := 0) hx hb hq pin_wsX00 hown hE hP hO 24 (sg_24 G h0 a _ _ _ _ _) rfl 7 (by decide) (hq _ pw_72) (fun _ h9 => h9) rfl dX0_endMethod_1 ?_
  refine p_get (v := .int (K.2.1 10 m0)) (C := RX6) (Tc := TX6) (N := 12) (ci := 12) hx hb hq pin_wsX60 hown hE hP hO (by rw [hm0]; decide) (rep_3 hm0) rfl 7 (by decide) (hq _ pw_172) (fun _ h9 => h9) rfl dX0_endMethod_4 ?_
  refine lv_bipush (v := 63) hx hb dX0_endMethod_7 (by decide) ?_
  refine lv_icmp_eq (tgt := 39) hx hb dX0_endMethod_9 (by decide) (fun c1 => ?_) (fun c1 => ?_)
  · refine lv_aload_n hx hb dX0_endMethod_39 rfl (lv_at hl 0 rfl) ?_
    refine c_get (v := .ref (a 2)) (C := RX0) (Tc := TX0) (N := 13) (ci := 0) hx hb hq pin_wsX00 hown hE hP hO 24 (sg_24 G h0 a _ _ _ _ _) rfl 1 (by decide) (hq _ pw_5) (fun _ h9 => h9) rfl dX0_endMethod_40 ?_
    refine lv_aload_n hx hb dX0_endMethod_43 rfl (lv_at hl 0 rfl) ?_
    refine c_get (v := .ref m0) (C := RX0) (Tc := TX0) (N := 13) (ci := 0) hx hb hq pin_wsX00 hown hE hP hO 24 (sg_24 G h0 a _ _ _ _ _) rfl 7 (by decide) (hq _ pw_72) (fun _ h9 => h9) rfl dX0_endMethod_44 ?_
    refine p_get (v := .int (K.2.1 10 m0)) (C := RX6) (Tc := TX6) (N := 12) (ci := 12) hx hb hq pin_wsX60 hown hE hP hO (by rw [hm0]; decide) (rep_3 hm0) rfl 7 (by decide) (hq _ pw_172) (fun _ h9 => h9) rfl dX0_endMethod_47 ?_
    refine lv_bipush (v := 63) hx hb dX0_endMethod_50 (by decide) ?_
    refine lv_icmp_ne (tgt := 60) hx hb dX0_endMethod_52 (by decide) (fun c2 => ?_) (fun c2 => ?_)
    · refine lv_bipush (v := 31) hx hb dX0_endMethod_60 (by decide) ?_
      refine lv_iconst (v := 0) hx hb dX0_endMethod_62 (by decide) ?_
      refine lv_iconst (v := 0) hx hb dX0_endMethod_63 (by decide) ?_
      have hO : OKW G h0 a (upd (upd (upd (upd (upd F 2 (nI sz)) 5 (nI cs)) 6 (nI rg)) 8 (nI dp)) 5 (nI cs)) (updR R 3 (.ref m0)) Z B J K.1 (fun q99 x99 => x99 = rep G a K q99) w := hO.to rfl
      obtain ⟨_, qr6, hqr7⟩ := hO.2.1 13 _ (sg_13 G h0 a _ _ _ _ _)
      refine pc_V0 (G := G) (As := [.int 31, .int 0, .int (nI 0)]) (rest := []) hx hb hml hown hq hE hX pX0_al hP hD hS hA hl.1 (K_emit l G h0 a (upd (upd (upd (upd F 2 (nI sz)) 5 (nI cs)) 6 (nI rg)) 8 (nI dp)) (updR R 3 (.ref m0)) Z B J K.1 (fun q99 x99 => x99 = rep G a K q99) w 31 0 0 cs (by omega) (by omega) hng hO) (gV pw_129 pw_130 pw_131 pw_70 pw_115) hV_X1_emit qr6 1 hqr7 rfl rfl rfl (Nat.le_of_ble_eq_true rfl) dX0_endMethod_64 ⟨(by show 0 + 0 ≤ 1; omega), (by show 0 + 0 ≤ 6; omega)⟩ ⟨Nat.le_of_ble_eq_true rfl, Nat.le_of_ble_eq_true rfl⟩ (fun v5 u3 H locs hw4 hP hD hS => ?_)
      obtain ⟨w, cs8, f9, f10, f11, f12⟩ := u3
      obtain ⟨hw4, h13, h14, hO⟩ := hw4
      have h13 : cs ≤ cs8 ∧ cs8 ≤ cs + 1 ∧ cs8 ≤ 10000 := h13
      have h14 : Nng f11 := h14
      obtain rfl : v5 = none := hw4
      have hO : OKP G h0 a (upd (upd (upd (upd F 2 (nI sz)) 5 (nI cs8)) 6 (nI rg)) 8 (nI dp)) (updR R 3 (.ref m0)) Z (updA (updA (updA (updA B 16 f9) 17 f10) 18 f11) 19 f12) J K w := hO.to rfl
      refine W.widen (k := 0) (n := 0) (Nat.le_of_ble_eq_true rfl) (Nat.le_of_ble_eq_true rfl) ?_
      refine W.eq (g2 := F0 m 67 ls []) rfl ?_
      refine lv_aload_n hx hb dX0_endMethod_67 rfl (lv_at hl 0 rfl) ?_
      refine c_get (v := .ref m0) (C := RX0) (Tc := TX0) (N := 13) (ci := 0) hx hb hq pin_wsX00 hown hE hP hO 24 (sg_24 G h0 a _ _ _ _ _) rfl 7 (by decide) (hq _ pw_72) (fun _ h9 => h9) rfl dX0_endMethod_68 ?_
      refine lv_aload_n hx hb dX0_endMethod_71 rfl (lv_at hl 0 rfl) ?_
      refine c_get (v := .ref (a 2)) (C := RX0) (Tc := TX0) (N := 13) (ci := 0) hx hb hq pin_wsX00 hown hE hP hO 24 (sg_24 G h0 a _ _ _ _ _) rfl 1 (by decide) (hq _ pw_5) (fun _ h9 => h9) rfl dX0_endMethod_72 ?_
      refine c_get (v := .int (nI dp)) (C := RX1) (Tc := TX1) (N := 13) (ci := 1) hx hb hq pin_wsX10 hown hE hP hO 13 (sg_13 G h0 a _ _ _ _ _) rfl 12 (by decide) (hq _ pw_360) (fun _ h9 => h9) rfl dX0_endMethod_75 ?_
      refine p_put (v := .int (nI dp)) (ty := .int) (C := RX6) (Tc := TX6) (N := 12) (ci := 12) (K' := (kI K 12 m0 (nI dp))) hx hb hq pin_wsX60 tyX6 tyX6_ok nmX6 hown hE hP hD hS hO (by rw [hm0]; decide) (rep_3 hm0) rfl 9 (by decide) (hq _ pw_361) (fun _ h9 => h9) rfl (by decide +kernel) rfl rfl (Nat.le_of_ble_eq_true rfl) rfl (by rw [rep_3 (show (kI K 12 m0 (nI dp)).1 m0 = 3 from hm0), pi_12] <;> rfl) (fun p9 hp9 => rep_kI hp9) dX0_endMethod_78 (fun H locs w hP hD hS hO => ?_)
      obtain ⟨K15, hK16⟩ : ∃ z : PK, z = (kI K 12 m0 (nI dp)) := ⟨_, rfl⟩
      rw [← hK16] at hO
      have hf17 : K15.1 m0 = 3 := (by rw [hK16]; exact hm0)
      have hf18 : K15.2.2.1 7 m0 = some b0 := (by rw [hK16]; exact hb0)
      have hf19 : K15.1 b0 = 1 := (by rw [hK16]; exact hbT)
      have hf20 : K15.2.1 12 m0 = (nI dp) := by rw [hK16]; exact kI_eq
      have hbx21 : BdX K K15 := BdX.trans BdX.rfl (by rw [hK16]; exact BdX.kI (by unfold bdI; omega))
      have hmt22 : MtB K15 := by rw [hK16]; exact MtB.set (MtB.of hwp) (by omega)
      refine lv_aload_n hx hb dX0_endMethod_81 rfl (lv_at hl 0 rfl) ?_
      refine c_get (v := .ref m0) (C := RX0) (Tc := TX0) (N := 13) (ci := 0) hx hb hq pin_wsX00 hown hE hP hO 24 (sg_24 G h0 a _ _ _ _ _) rfl 7 (by decide) (hq _ pw_72) (fun _ h9 => h9) rfl dX0_endMethod_82 ?_
      refine lv_aload_n hx hb dX0_endMethod_85 rfl (lv_at hl 0 rfl) ?_
      refine c_get (v := .ref (a 2)) (C := RX0) (Tc := TX0) (N := 13) (ci := 0) hx hb hq pin_wsX00 hown hE hP hO 24 (sg_24 G h0 a _ _ _ _ _) rfl 1 (by decide) (hq _ pw_5) (fun _ h9 => h9) rfl dX0_endMethod_86 ?_
      refine c_get (v := .int (nI rg)) (C := RX1) (Tc := TX1) (N := 13) (ci := 1) hx hb hq pin_wsX10 hown hE hP hO 13 (sg_13 G h0 a _ _ _ _ _) rfl 10 (by decide) (hq _ pw_77) (fun _ h9 => h9) rfl dX0_endMethod_89 ?_
      refine p_put (v := .int (nI rg)) (ty := .int) (C := RX6) (Tc := TX6) (N := 12) (ci := 12) (K' := (kI K15 14 m0 (nI rg))) hx hb hq pin_wsX60 tyX6 tyX6_ok nmX6 hown hE hP hD hS hO (by rw [hf17]; decide) (rep_3 hf17) rfl 11 (by decide) (hq _ pw_362) (fun _ h9 => h9) rfl (by decide +kernel) rfl rfl (Nat.le_of_ble_eq_true rfl) rfl (by rw [rep_3 (show (kI K15 14 m0 (nI rg)).1 m0 = 3 from hf17), pi_14] <;> rfl) (fun p9 hp9 => rep_kI hp9) dX0_endMethod_92 (fun H locs w hP hD hS hO => ?_)
      obtain ⟨K23, hK24⟩ : ∃ z : PK, z = (kI K15 14 m0 (nI rg)) := ⟨_, rfl⟩
      rw [← hK24] at hO
      have hf25 : K23.1 m0 = 3 := (by rw [hK24]; exact hf17)
      have hf26 : K23.2.2.1 7 m0 = some b0 := (by rw [hK24]; exact hf18)
      have hf27 : K23.1 b0 = 1 := (by rw [hK24]; exact hf19)
      have hf28 : K23.2.1 12 m0 = (nI dp) := (by rw [hK24]; exact (kI_of (by decide)).trans hf20)
      have hf29 : K23.2.1 14 m0 = (nI rg) := by rw [hK24]; exact kI_eq
      have hbx30 : BdX K K23 := BdX.trans hbx21 (by rw [hK24]; exact BdX.kI (by unfold bdI; omega))
      have hmt31 : MtB K23 := by rw [hK24]; exact MtB.kI hmt22 (by decide)
      refine W_size (fun hz1 hz2 => ?_)
      refine vx_ret ?_
      have hz32 : BdX K K23 := hbx30
      have hz33 : MtB K23 := hmt31
      have hz34 : Bth B (updA (updA (updA (updA B 16 f9) 17 f10) 18 f11) 19 f12) := (show Thx (upd (upd (upd (upd F 2 (nI sz)) 5 (nI cs)) 6 (nI rg)) 8 (nI dp)) (upd (upd (upd (upd (upd F 2 (nI sz)) 5 (nI cs)) 6 (nI rg)) 8 (nI dp)) 5 (nI cs8)) B (updA (updA (updA (updA B 16 f9) 17 f10) 18 f11) 19 f12) from (Thx.b (Thx.b8 (Thx.b (Thx.b (Thx.f Thx.rfl (by omega)) (by omega) (by decide)) (by omega) (by decide)) h14) (by omega) (by decide))).2
      have hz35 : cs8 ≤ 10000 := (by omega)
      have hO : OKP G h0 a (upd (upd (upd (upd F 2 (nI sz)) 5 (nI cs8)) 6 (nI rg)) 8 (nI dp)) (updR R 3 (.ref m0)) Z (updA (updA (updA (updA B 16 f9) 17 f10) 18 f11) 19 f12) J K23 w := hO.to rfl
      refine W.widen (k := 1) (n := 6) (by omega) (by omega) ?_
      have hzz1 : H.size ≤ s.heap.size + (0) := (by have z : 0 ≤ 0 := (by omega); omega)
      have hzz2 : hSl H ≤ hSl s.heap + (0) := (by have z : 0 ≤ 0 := (by omega); omega)
      exact W.vret hx hb hr (fun t99 ht99 hW99 => ⟨⟨_, (w, (K23, (updA (updA (updA (updA B 16 f9) 17 f10) 18 f11) 19 f12), cs8)), rfl, ⟨rfl, hz32, hz33, hz34, hz35, hO⟩, by rw [ht99]; exact hP, hD, by rw [ht99]; exact hzz1, by rw [ht99]; exact hzz2⟩, hS.F ht99⟩) hS.2.2 dX0_endMethod_95
    · refine lv_bipush (v := 26) hx hb dX0_endMethod_55 (by decide) ?_
      refine lv_goto (tgt := 62) hx hb dX0_endMethod_57 (by decide) ?_
      refine lv_iconst (v := 0) hx hb dX0_endMethod_62 (by decide) ?_
      refine lv_iconst (v := 0) hx hb dX0_endMethod_63 (by decide) ?_
      have hO : OKW G h0 a (upd (upd (upd (upd (upd F 2 (nI sz)) 5 (nI cs)) 6 (nI rg)) 8 (nI dp)) 5 (nI cs)) (updR R 3 (.ref m0)) Z B J K.1 (fun q99 x99 => x99 = rep G a K q99) w := hO.to rfl
      obtain ⟨_, qr39, hqr40⟩ := hO.2.1 13 _ (sg_13 G h0 a _ _ _ _ _)
      refine pc_V0 (G := G) (As := [.int 26, .int 0, .int (nI 0)]) (rest := []) hx hb hml hown hq hE hX pX0_al hP hD hS hA hl.1 (K_emit l G h0 a (upd (upd (upd (upd F 2 (nI sz)) 5 (nI cs)) 6 (nI rg)) 8 (nI dp)) (updR R 3 (.ref m0)) Z B J K.1 (fun q99 x99 => x99 = rep G a K q99) w 26 0 0 cs (by omega) (by omega) hng hO) (gV pw_129 pw_130 pw_131 pw_70 pw_115) hV_X1_emit qr39 1 hqr40 rfl rfl rfl (Nat.le_of_ble_eq_true rfl) dX0_endMethod_64 ⟨(by show 0 + 0 ≤ 1; omega), (by show 0 + 0 ≤ 6; omega)⟩ ⟨Nat.le_of_ble_eq_true rfl, Nat.le_of_ble_eq_true rfl⟩ (fun v38 u36 H locs hw37 hP hD hS => ?_)
      obtain ⟨w, cs41, f42, f43, f44, f45⟩ := u36
      obtain ⟨hw37, h46, h47, hO⟩ := hw37
      have h46 : cs ≤ cs41 ∧ cs41 ≤ cs + 1 ∧ cs41 ≤ 10000 := h46
      have h47 : Nng f44 := h47
      obtain rfl : v38 = none := hw37
      have hO : OKP G h0 a (upd (upd (upd (upd F 2 (nI sz)) 5 (nI cs41)) 6 (nI rg)) 8 (nI dp)) (updR R 3 (.ref m0)) Z (updA (updA (updA (updA B 16 f42) 17 f43) 18 f44) 19 f45) J K w := hO.to rfl
      refine W.widen (k := 0) (n := 0) (Nat.le_of_ble_eq_true rfl) (Nat.le_of_ble_eq_true rfl) ?_
      refine W.eq (g2 := F0 m 67 ls []) rfl ?_
      refine lv_aload_n hx hb dX0_endMethod_67 rfl (lv_at hl 0 rfl) ?_
      refine c_get (v := .ref m0) (C := RX0) (Tc := TX0) (N := 13) (ci := 0) hx hb hq pin_wsX00 hown hE hP hO 24 (sg_24 G h0 a _ _ _ _ _) rfl 7 (by decide) (hq _ pw_72) (fun _ h9 => h9) rfl dX0_endMethod_68 ?_
      refine lv_aload_n hx hb dX0_endMethod_71 rfl (lv_at hl 0 rfl) ?_
      refine c_get (v := .ref (a 2)) (C := RX0) (Tc := TX0) (N := 13) (ci := 0) hx hb hq pin_wsX00 hown hE hP hO 24 (sg_24 G h0 a _ _ _ _ _) rfl 1 (by decide) (hq _ pw_5) (fun _ h9 => h9) rfl dX0_endMethod_72 ?_
      refine c_get (v := .int (nI dp)) (C := RX1) (Tc := TX1) (N := 13) (ci := 1) hx hb hq pin_wsX10 hown hE hP hO 13 (sg_13 G h0 a _ _ _ _ _) rfl 12 (by decide) (hq _ pw_360) (fun _ h9 => h9) rfl dX0_endMethod_75 ?_
      refine p_put (v := .int (nI dp)) (ty := .int) (C := RX6) (Tc := TX6) (N := 12) (ci := 12) (K' := (kI K 12 m0 (nI dp))) hx hb hq pin_wsX60 tyX6 tyX6_ok nmX6 hown hE hP hD hS hO (by rw [hm0]; decide) (rep_3 hm0) rfl 9 (by decide) (hq _ pw_361) (fun _ h9 => h9) rfl (by decide +kernel) rfl rfl (Nat.le_of_ble_eq_true rfl) rfl (by rw [rep_3 (show (kI K 12 m0 (nI dp)).1 m0 = 3 from hm0), pi_12] <;> rfl) (fun p9 hp9 => rep_kI hp9) dX0_endMethod_78 (fun H locs w hP hD hS hO => ?_)
      obtain ⟨K48, hK49⟩ : ∃ z : PK, z = (kI K 12 m0 (nI dp)) := ⟨_, rfl⟩
      rw [← hK49] at hO
      have hf50 : K48.1 m0 = 3 := (by rw [hK49]; exact hm0)
      have hf51 : K48.2.2.1 7 m0 = some b0 := (by rw [hK49]; exact hb0)
      have hf52 : K48.1 b0 = 1 := (by rw [hK49]; exact hbT)
      have hf53 : K48.2.1 12 m0 = (nI dp) := by rw [hK49]; exact kI_eq
      have hbx54 : BdX K K48 := BdX.trans BdX.rfl (by rw [hK49]; exact BdX.kI (by unfold bdI; omega))
      have hmt55 : MtB K48 := by rw [hK49]; exact MtB.set (MtB.of hwp) (by omega)
      refine lv_aload_n hx hb dX0_endMethod_81 rfl (lv_at hl 0 rfl) ?_
      refine c_get (v := .ref m0) (C := RX0) (Tc := TX0) (N := 13) (ci := 0) hx hb hq pin_wsX00 hown hE hP hO 24 (sg_24 G h0 a _ _ _ _ _) rfl 7 (by decide) (hq _ pw_72) (fun _ h9 => h9) rfl dX0_endMethod_82 ?_
      refine lv_aload_n hx hb dX0_endMethod_85 rfl (lv_at hl 0 rfl) ?_
      refine c_get (v := .ref (a 2)) (C := RX0) (Tc := TX0) (N := 13) (ci := 0) hx hb hq pin_wsX00 hown hE hP hO 24 (sg_24 G h0 a _ _ _ _ _) rfl 1 (by decide) (hq _ pw_5) (fun _ h9 => h9) rfl dX0_endMethod_86 ?_
      refine c_get (v := .int (nI rg)) (C := RX1) (Tc := TX1) (N := 13) (ci := 1) hx hb hq pin_wsX10 hown hE hP hO 13 (sg_13 G h0 a _ _ _ _ _) rfl 10 (by decide) (hq _ pw_77) (fun _ h9 => h9) rfl dX0_endMethod_89 ?_
      refine p_put (v := .int (nI rg)) (ty := .int) (C := RX6) (Tc := TX6) (N := 12) (ci := 12) (K' := (kI K48 14 m0 (nI rg))) hx hb hq pin_wsX60 tyX6 tyX6_ok nmX6 hown hE hP hD hS hO (by rw [hf50]; decide) (rep_3 hf50) rfl 11 (by decide) (hq _ pw_362) (fun _ h9 => h9) rfl (by decide +kernel) rfl rfl (Nat.le_of_ble_eq_true rfl) rfl (by rw [rep_3 (show (kI K48 14 m0 (nI rg)).1 m0 = 3 from hf50), pi_14] <;> rfl) (fun p9 hp9 => rep_kI hp9) dX0_endMethod_92 (fun H locs w hP hD hS hO => ?_)
      obtain ⟨K56, hK57⟩ : ∃ z : PK, z = (kI K48 14 m0 (nI rg)) := ⟨_, rfl⟩
      rw [← hK57] at hO
      have hf58 : K56.1 m0 = 3 := (by rw [hK57]; exact hf50)
      have hf59 : K56.2.2.1 7 m0 = some b0 := (by rw [hK57]; exact hf51)
      have hf60 : K56.1 b0 = 1 := (by rw [hK57]; exact hf52)
      have hf61 : K56.2.1 12 m0 = (nI dp) := (by rw [hK57]; exact (kI_of (by decide)).trans hf53)
      have hf62 : K56.2.1 14 m0 = (nI rg) := by rw [hK57]; exact kI_eq
      have hbx63 : BdX K K56 := BdX.trans hbx54 (by rw [hK57]; exact BdX.kI (by unfold bdI; omega))
      have hmt64 : MtB K56 := by rw [hK57]; exact MtB.kI hmt55 (by decide)
      refine W_size (fun hz1 hz2 => ?_)
      refine vx_ret ?_
      have hz65 : BdX K K56 := hbx63
      have hz66 : MtB K56 := hmt64
      have hz67 : Bth B (updA (updA (updA (updA B 16 f42) 17 f43) 18 f44) 19 f45) := (show Thx (upd (upd (upd (upd F 2 (nI sz)) 5 (nI cs)) 6 (nI rg)) 8 (nI dp)) (upd (upd (upd (upd (upd F 2 (nI sz)) 5 (nI cs)) 6 (nI rg)) 8 (nI dp)) 5 (nI cs41)) B (updA (updA (updA (updA B 16 f42) 17 f43) 18 f44) 19 f45) from (Thx.b (Thx.b8 (Thx.b (Thx.b (Thx.f Thx.rfl (by omega)) (by omega) (by decide)) (by omega) (by decide)) h47) (by omega) (by decide))).2
      have hz68 : cs41 ≤ 10000 := (by omega)
      have hO : OKP G h0 a (upd (upd (upd (upd F 2 (nI sz)) 5 (nI cs41)) 6 (nI rg)) 8 (nI dp)) (updR R 3 (.ref m0)) Z (updA (updA (updA (updA B 16 f42) 17 f43) 18 f44) 19 f45) J K56 w := hO.to rfl
      refine W.widen (k := 1) (n := 6) (by omega) (by omega) ?_
      have hzz1 : H.size ≤ s.heap.size + (0) := (by have z : 0 ≤ 0 := (by omega); omega)
      have hzz2 : hSl H ≤ hSl s.heap + (0) := (by have z : 0 ≤ 0 := (by omega); omega)
      exact W.vret hx hb hr (fun t99 ht99 hW99 => ⟨⟨_, (w, (K56, (updA (updA (updA (updA B 16 f42) 17 f43) 18 f44) 19 f45), cs41)), rfl, ⟨rfl, hz65, hz66, hz67, hz68, hO⟩, by rw [ht99]; exact hP, hD, by rw [ht99]; exact hzz1, by rw [ht99]; exact hzz2⟩, hS.F ht99⟩) hS.2.2 dX0_endMethod_95
  · refine lv_aload_n hx hb dX0_endMethod_12 rfl (lv_at hl 0 rfl) ?_
    refine c_get (v := .int (F 13)) (C := RX0) (Tc := TX0) (N := 13) (ci := 0) hx hb hq pin_wsX00 hown hE hP hO 24 (sg_24 G h0 a _ _ _ _ _) rfl 8 (by decide) (hq _ pw_55) (fun _ h9 => h9) rfl dX0_endMethod_13 ?_
    refine lv_iconst (v := (-1)) hx hb dX0_endMethod_16 (by decide) ?_
    refine lv_icmp_eq (tgt := 39) hx hb dX0_endMethod_17 (by decide) (fun c69 => ?_) (fun c69 => ?_)
    · refine lv_aload_n hx hb dX0_endMethod_39 rfl (lv_at hl 0 rfl) ?_
      refine c_get (v := .ref (a 2)) (C := RX0) (Tc := TX0) (N := 13) (ci := 0) hx hb hq pin_wsX00 hown hE hP hO 24 (sg_24 G h0 a _ _ _ _ _) rfl 1 (by decide) (hq _ pw_5) (fun _ h9 => h9) rfl dX0_endMethod_40 ?_
      refine lv_aload_n hx hb dX0_endMethod_43 rfl (lv_at hl 0 rfl) ?_
      refine c_get (v := .ref m0) (C := RX0) (Tc := TX0) (N := 13) (ci := 0) hx hb hq pin_wsX00 hown hE hP hO 24 (sg_24 G h0 a _ _ _ _ _) rfl 7 (by decide) (hq _ pw_72) (fun _ h9 => h9) rfl dX0_endMethod_44 ?_
      refine p_get (v := .int (K.2.1 10 m0)) (C := RX6) (Tc := TX6) (N := 12) (ci := 12) hx hb hq pin_wsX60 hown hE hP hO (by rw [hm0]; decide) (rep_3 hm0) rfl 7 (by decide) (hq _ pw_172) (fun _ h9 => h9) rfl dX0_endMethod_47 ?_
      refine lv_bipush (v := 63) hx hb dX0_endMethod_50 (by decide) ?_
      refine lv_icmp_ne (tgt := 60) hx hb dX0_endMethod_52 (by decide) (fun c70 => ?_) (fun c70 => ?_)
      · refine lv_bipush (v := 31) hx hb dX0_endMethod_60 (by decide) ?_
        refine lv_iconst (v := 0) hx hb dX0_endMethod_62 (by decide) ?_
        refine lv_iconst (v := 0) hx hb dX0_endMethod_63 (by decide) ?_
        have hO : OKW G h0 a (upd (upd (upd (upd (upd F 2 (nI sz)) 5 (nI cs)) 6 (nI rg)) 8 (nI dp)) 5 (nI cs)) (updR R 3 (.ref m0)) Z B J K.1 (fun q99 x99 => x99 = rep G a K q99) w := hO.to rfl
        obtain ⟨_, qr74, hqr75⟩ := hO.2.1 13 _ (sg_13 G h0 a _ _ _ _ _)
        refine pc_V0 (G := G) (As := [.int 31, .int 0, .int (nI 0)]) (rest := []) hx hb hml hown hq hE hX pX0_al hP hD hS hA hl.1 (K_emit l G h0 a (upd (upd (upd (upd F 2 (nI sz)) 5 (nI cs)) 6 (nI rg)) 8 (nI dp)) (updR R 3 (.ref m0)) Z B J K.1 (fun q99 x99 => x99 = rep G a K q99) w 31 0 0 cs (by omega) (by omega) hng hO) (gV pw_129 pw_130 pw_131 pw_70 pw_115) hV_X1_emit qr74 1 hqr75 rfl rfl rfl (Nat.le_of_ble_eq_true rfl) dX0_endMethod_64 ⟨(by show 0 + 0 ≤ 1; omega), (by show 0 + 0 ≤ 6; omega)⟩ ⟨Nat.le_of_ble_eq_true rfl, Nat.le_of_ble_eq_true rfl⟩ (fun v73 u71 H locs hw72 hP hD hS => ?_)
        obtain ⟨w, cs76, f77, f78, f79, f80⟩ := u71
        obtain ⟨hw72, h81, h82, hO⟩ := hw72
        have h81 : cs ≤ cs76 ∧ cs76 ≤ cs + 1 ∧ cs76 ≤ 10000 := h81
        have h82 : Nng f79 := h82
        obtain rfl : v73 = none := hw72
        have hO : OKP G h0 a (upd (upd (upd (upd F 2 (nI sz)) 5 (nI cs76)) 6 (nI rg)) 8 (nI dp)) (updR R 3 (.ref m0)) Z (updA (updA (updA (updA B 16 f77) 17 f78) 18 f79) 19 f80) J K w := hO.to rfl
        refine W.widen (k := 0) (n := 0) (Nat.le_of_ble_eq_true rfl) (Nat.le_of_ble_eq_true rfl) ?_
        refine W.eq (g2 := F0 m 67 ls []) rfl ?_
        refine lv_aload_n hx hb dX0_endMethod_67 rfl (lv_at hl 0 rfl) ?_
        refine c_get (v := .ref m0) (C := RX0) (Tc := TX0) (N := 13) (ci := 0) hx hb hq pin_wsX00 hown hE hP hO 24 (sg_24 G h0 a _ _ _ _ _) rfl 7 (by decide) (hq _ pw_72) (fun _ h9 => h9) rfl dX0_endMethod_68 ?_
        refine lv_aload_n hx hb dX0_endMethod_71 rfl (lv_at hl 0 rfl) ?_
        refine c_get (v := .ref (a 2)) (C := RX0) (Tc := TX0) (N := 13) (ci := 0) hx hb hq pin_wsX00 hown hE hP hO 24 (sg_24 G h0 a _ _ _ _ _) rfl 1 (by decide) (hq _ pw_5) (fun _ h9 => h9) rfl dX0_endMethod_72 ?_
        refine c_get (v := .int (nI dp)) (C := RX1) (Tc := TX1) (N := 13) (ci := 1) hx hb hq pin_wsX10 hown hE hP hO 13 (sg_13 G h0 a _ _ _ _ _) rfl 12 (by decide) (hq _ pw_360) (fun _ h9 => h9) rfl dX0_endMethod_75 ?_
        refine p_put (v := .int (nI dp)) (ty := .int) (C := RX6) (Tc := TX6) (N := 12) (ci := 12) (K' := (kI K 12 m0 (nI dp))) hx hb hq pin_wsX60 tyX6 tyX6_ok nmX6 hown hE hP hD hS hO (by rw [hm0]; decide) (rep_3 hm0) rfl 9 (by decide) (hq _ pw_361) (fun _ h9 => h9) rfl (by decide +kernel) rfl rfl (Nat.le_of_ble_eq_true rfl) rfl (by rw [rep_3 (show (kI K 12 m0 (nI dp)).1 m0 = 3 from hm0), pi_12] <;> rfl) (fun p9 hp9 => rep_kI hp9) dX0_endMethod_78 (fun H locs w hP hD hS hO => ?_)
        obtain ⟨K83, hK84⟩ : ∃ z : PK, z = (kI K 12 m0 (nI dp)) := ⟨_, rfl⟩
        rw [← hK84] at hO
        have hf85 : K83.1 m0 = 3 := (by rw [hK84]; exact hm0)
        have hf86 : K83.2.2.1 7 m0 = some b0 := (by rw [hK84]; exact hb0)
        have hf87 : K83.1 b0 = 1 := (by rw [hK84]; exact hbT)
        have hf88 : K83.2.1 12 m0 = (nI dp) := by rw [hK84]; exact kI_eq
        have hbx89 : BdX K K83 := BdX.trans BdX.rfl (by rw [hK84]; exact BdX.kI (by unfold bdI; omega))
        have hmt90 : MtB K83 := by rw [hK84]; exact MtB.set (MtB.of hwp) (by omega)
        refine lv_aload_n hx hb dX0_endMethod_81 rfl (lv_at hl 0 rfl) ?_
        refine c_get (v := .ref m0) (C := RX0) (Tc := TX0) (N := 13) (ci := 0) hx hb hq pin_wsX00 hown hE hP hO 24 (sg_24 G h0 a _ _ _ _ _) rfl 7 (by decide) (hq _ pw_72) (fun _ h9 => h9) rfl dX0_endMethod_82 ?_
        refine lv_aload_n hx hb dX0_endMethod_85 rfl (lv_at hl 0 rfl) ?_
        refine c_get (v := .ref (a 2)) (C := RX0) (Tc := TX0) (N := 13) (ci := 0) hx hb hq pin_wsX00 hown hE hP hO 24 (sg_24 G h0 a _ _ _ _ _) rfl 1 (by decide) (hq _ pw_5) (fun _ h9 => h9) rfl dX0_endMethod_86 ?_
        refine c_get (v := .int (nI rg)) (C := RX1) (Tc := TX1) (N := 13) (ci := 1) hx hb hq pin_wsX10 hown hE hP hO 13 (sg_13 G h0 a _ _ _ _ _) rfl 10 (by decide) (hq _ pw_77) (fun _ h9 => h9) rfl dX0_endMethod_89 ?_
        refine p_put (v := .int (nI rg)) (ty := .int) (C := RX6) (Tc := TX6) (N := 12) (ci := 12) (K' := (kI K83 14 m0 (nI rg))) hx hb hq pin_wsX60 tyX6 tyX6_ok nmX6 hown hE hP hD hS hO (by rw [hf85]; decide) (rep_3 hf85) rfl 11 (by decide) (hq _ pw_362) (fun _ h9 => h9) rfl (by decide +kernel) rfl rfl (Nat.le_of_ble_eq_true rfl) rfl (by rw [rep_3 (show (kI K83 14 m0 (nI rg)).1 m0 = 3 from hf85), pi_14] <;> rfl) (fun p9 hp9 => rep_kI hp9) dX0_endMethod_92 (fun H locs w hP hD hS hO => ?_)
        obtain ⟨K91, hK92⟩ : ∃ z : PK, z = (kI K83 14 m0 (nI rg)) := ⟨_, rfl⟩
        rw [← hK92] at hO
        have hf93 : K91.1 m0 = 3 := (by rw [hK92]; exact hf85)
        have hf94 : K91.2.2.1 7 m0 = some b0 := (by rw [hK92]; exact hf86)
        have hf95 : K91.1 b0 = 1 := (by rw [hK92]; exact hf87)
        have hf96 : K91.2.1 12 m0 = (nI dp) := (by rw [hK92]; exact (kI_of (by decide)).trans hf88)
        have hf97 : K91.2.1 14 m0 = (nI rg) := by rw [hK92]; exact kI_eq
        have hbx98 : BdX K K91 := BdX.trans hbx89 (by rw [hK92]; exact BdX.kI (by unfold bdI; omega))
        have hmt99 : MtB K91 := by rw [hK92]; exact MtB.kI hmt90 (by decide)
        refine W_size (fun hz1 hz2 => ?_)
        refine vx_ret ?_
        have hz100 : BdX K K91 := hbx98
        have hz101 : MtB K91 := hmt99
        have hz102 : Bth B (updA (updA (updA (updA B 16 f77) 17 f78) 18 f79) 19 f80) := (show Thx (upd (upd (upd (upd F 2 (nI sz)) 5 (nI cs)) 6 (nI rg)) 8 (nI dp)) (upd (upd (upd (upd (upd F 2 (nI sz)) 5 (nI cs)) 6 (nI rg)) 8 (nI dp)) 5 (nI cs76)) B (updA (updA (updA (updA B 16 f77) 17 f78) 18 f79) 19 f80) from (Thx.b (Thx.b8 (Thx.b (Thx.b (Thx.f Thx.rfl (by omega)) (by omega) (by decide)) (by omega) (by decide)) h82) (by omega) (by decide))).2
        have hz103 : cs76 ≤ 10000 := (by omega)
        have hO : OKP G h0 a (upd (upd (upd (upd F 2 (nI sz)) 5 (nI cs76)) 6 (nI rg)) 8 (nI dp)) (updR R 3 (.ref m0)) Z (updA (updA (updA (updA B 16 f77) 17 f78) 18 f79) 19 f80) J K91 w := hO.to rfl
        refine W.widen (k := 1) (n := 6) (by omega) (by omega) ?_
        have hzz1 : H.size ≤ s.heap.size + (0) := (by have z : 0 ≤ 0 := (by omega); omega)
        have hzz2 : hSl H ≤ hSl s.heap + (0) := (by have z : 0 ≤ 0 := (by omega); omega)
        exact W.vret hx hb hr (fun t99 ht99 hW99 => ⟨⟨_, (w, (K91, (updA (updA (updA (updA B 16 f77) 17 f78) 18 f79) 19 f80), cs76)), rfl, ⟨rfl, hz100, hz101, hz102, hz103, hO⟩, by rw [ht99]; exact hP, hD, by rw [ht99]; exact hzz1, by rw [ht99]; exact hzz2⟩, hS.F ht99⟩) hS.2.2 dX0_endMethod_95
      · refine lv_bipush (v := 26) hx hb dX0_endMethod_55 (by decide) ?_
        refine lv_goto (tgt := 62) hx hb dX0_endMethod_57 (by decide) ?_
        refine lv_iconst (v := 0) hx hb dX0_endMethod_62 (by decide) ?_
        refine lv_iconst (v := 0) hx hb dX0_endMethod_63 (by decide) ?_
        have hO : OKW G h0 a (upd (upd (upd (upd (upd F 2 (nI sz)) 5 (nI cs)) 6 (nI rg)) 8 (nI dp)) 5 (nI cs)) (updR R 3 (.ref m0)) Z B J K.1 (fun q99 x99 => x99 = rep G a K q99) w := hO.to rfl
        obtain ⟨_, qr107, hqr108⟩ := hO.2.1 13 _ (sg_13 G h0 a _ _ _ _ _)
        refine pc_V0 (G := G) (As := [.int 26, .int 0, .int (nI 0)]) (rest := []) hx hb hml hown hq hE hX pX0_al hP hD hS hA hl.1 (K_emit l G h0 a (upd (upd (upd (upd F 2 (nI sz)) 5 (nI cs)) 6 (nI rg)) 8 (nI dp)) (updR R 3 (.ref m0)) Z B J K.1 (fun q99 x99 => x99 = rep G a K q99) w 26 0 0 cs (by omega) (by omega) hng hO) (gV pw_129 pw_130 pw_131 pw_70 pw_115) hV_X1_emit qr107 1 hqr108 rfl rfl rfl (Nat.le_of_ble_eq_true rfl) dX0_endMethod_64 ⟨(by show 0 + 0 ≤ 1; omega), (by show 0 + 0 ≤ 6; omega)⟩ ⟨Nat.le_of_ble_eq_true rfl, Nat.le_of_ble_eq_true rfl⟩ (fun v106 u104 H locs hw105 hP hD hS => ?_)
        obtain ⟨w, cs109, f110, f111, f112, f113⟩ := u104
        obtain ⟨hw105, h114, h115, hO⟩ := hw105
        have h114 : cs ≤ cs109 ∧ cs109 ≤ cs + 1 ∧ cs109 ≤ 10000 := h114
        have h115 : Nng f112 := h115
        obtain rfl : v106 = none := hw105
        have hO : OKP G h0 a (upd (upd (upd (upd F 2 (nI sz)) 5 (nI cs109)) 6 (nI rg)) 8 (nI dp)) (updR R 3 (.ref m0)) Z (updA (updA (updA (updA B 16 f110) 17 f111) 18 f112) 19 f113) J K w := hO.to rfl
        refine W.widen (k := 0) (n := 0) (Nat.le_of_ble_eq_true rfl) (Nat.le_of_ble_eq_true rfl) ?_
        refine W.eq (g2 := F0 m 67 ls []) rfl ?_
        refine lv_aload_n hx hb dX0_endMethod_67 rfl (lv_at hl 0 rfl) ?_
        refine c_get (v := .ref m0) (C := RX0) (Tc := TX0) (N := 13) (ci := 0) hx hb hq pin_wsX00 hown hE hP hO 24 (sg_24 G h0 a _ _ _ _ _) rfl 7 (by decide) (hq _ pw_72) (fun _ h9 => h9) rfl dX0_endMethod_68 ?_
        refine lv_aload_n hx hb dX0_endMethod_71 rfl (lv_at hl 0 rfl) ?_
        refine c_get (v := .ref (a 2)) (C := RX0) (Tc := TX0) (N := 13) (ci := 0) hx hb hq pin_wsX00 hown hE hP hO 24 (sg_24 G h0 a _ _ _ _ _) rfl 1 (by decide) (hq _ pw_5) (fun _ h9 => h9) rfl dX0_endMethod_72 ?_
        refine c_get (v := .int (nI dp)) (C := RX1) (Tc := TX1) (N := 13) (ci := 1) hx hb hq pin_wsX10 hown hE hP hO 13 (sg_13 G h0 a _ _ _ _ _) rfl 12 (by decide) (hq _ pw_360) (fun _ h9 => h9) rfl dX0_endMethod_75 ?_
        refine p_put (v := .int (nI dp)) (ty := .int) (C := RX6) (Tc := TX6) (N := 12) (ci := 12) (K' := (kI K 12 m0 (nI dp))) hx hb hq pin_wsX60 tyX6 tyX6_ok nmX6 hown hE hP hD hS hO (by rw [hm0]; decide) (rep_3 hm0) rfl 9 (by decide) (hq _ pw_361) (fun _ h9 => h9) rfl (by decide +kernel) rfl rfl (Nat.le_of_ble_eq_true rfl) rfl (by rw [rep_3 (show (kI K 12 m0 (nI dp)).1 m0 = 3 from hm0), pi_12] <;> rfl) (fun p9 hp9 => rep_kI hp9) dX0_endMethod_78 (fun H locs w hP hD hS hO => ?_)
        obtain ⟨K116, hK117⟩ : ∃ z : PK, z = (kI K 12 m0 (nI dp)) := ⟨_, rfl⟩
        rw [← hK117] at hO
        have hf118 : K116.1 m0 = 3 := (by rw [hK117]; exact hm0)
        have hf119 : K116.2.2.1 7 m0 = some b0 := (by rw [hK117]; exact hb0)
        have hf120 : K116.1 b0 = 1 := (by rw [hK117]; exact hbT)
        have hf121 : K116.2.1 12 m0 = (nI dp) := by rw [hK117]; exact kI_eq
        have hbx122 : BdX K K116 := BdX.trans BdX.rfl (by rw [hK117]; exact BdX.kI (by unfold bdI; omega))
        have hmt123 : MtB K116 := by rw [hK117]; exact MtB.set (MtB.of hwp) (by omega)
        refine lv_aload_n hx hb dX0_endMethod_81 rfl (lv_at hl 0 rfl) ?_
        refine c_get (v := .ref m0) (C := RX0) (Tc := TX0) (N := 13) (ci := 0) hx hb hq pin_wsX00 hown hE hP hO 24 (sg_24 G h0 a _ _ _ _ _) rfl 7 (by decide) (hq _ pw_72) (fun _ h9 => h9) rfl dX0_endMethod_82 ?_
        refine lv_aload_n hx hb dX0_endMethod_85 rfl (lv_at hl 0 rfl) ?_
        refine c_get (v := .ref (a 2)) (C := RX0) (Tc := TX0) (N := 13) (ci := 0) hx hb hq pin_wsX00 hown hE hP hO 24 (sg_24 G h0 a _ _ _ _ _) rfl 1 (by decide) (hq _ pw_5) (fun _ h9 => h9) rfl dX0_endMethod_86 ?_
        refine c_get (v := .int (nI rg)) (C := RX1) (Tc := TX1) (N := 13) (ci := 1) hx hb hq pin_wsX10 hown hE hP hO 13 (sg_13 G h0 a _ _ _ _ _) rfl 10 (by decide) (hq _ pw_77) (fun _ h9 => h9) rfl dX0_endMethod_89 ?_
        refine p_put (v := .int (nI rg)) (ty := .int) (C := RX6) (Tc := TX6) (N := 12) (ci := 12) (K' := (kI K116 14 m0 (nI rg))) hx hb hq pin_wsX60 tyX6 tyX6_ok nmX6 hown hE hP hD hS hO (by rw [hf118]; decide) (rep_3 hf118) rfl 11 (by decide) (hq _ pw_362) (fun _ h9 => h9) rfl (by decide +kernel) rfl rfl (Nat.le_of_ble_eq_true rfl) rfl (by rw [rep_3 (show (kI K116 14 m0 (nI rg)).1 m0 = 3 from hf118), pi_14] <;> rfl) (fun p9 hp9 => rep_kI hp9) dX0_endMethod_92 (fun H locs w hP hD hS hO => ?_)
        obtain ⟨K124, hK125⟩ : ∃ z : PK, z = (kI K116 14 m0 (nI rg)) := ⟨_, rfl⟩
        rw [← hK125] at hO
        have hf126 : K124.1 m0 = 3 := (by rw [hK125]; exact hf118)
        have hf127 : K124.2.2.1 7 m0 = some b0 := (by rw [hK125]; exact hf119)
        have hf128 : K124.1 b0 = 1 := (by rw [hK125]; exact hf120)
        have hf129 : K124.2.1 12 m0 = (nI dp) := (by rw [hK125]; exact (kI_of (by decide)).trans hf121)
        have hf130 : K124.2.1 14 m0 = (nI rg) := by rw [hK125]; exact kI_eq
        have hbx131 : BdX K K124 := BdX.trans hbx122 (by rw [hK125]; exact BdX.kI (by unfold bdI; omega))
        have hmt132 : MtB K124 := by rw [hK125]; exact MtB.kI hmt123 (by decide)
        refine W_size (fun hz1 hz2 => ?_)
        refine vx_ret ?_
        have hz133 : BdX K K124 := hbx131
        have hz134 : MtB K124 := hmt132
        have hz135 : Bth B (updA (updA (updA (updA B 16 f110) 17 f111) 18 f112) 19 f113) := (show Thx (upd (upd (upd (upd F 2 (nI sz)) 5 (nI cs)) 6 (nI rg)) 8 (nI dp)) (upd (upd (upd (upd (upd F 2 (nI sz)) 5 (nI cs)) 6 (nI rg)) 8 (nI dp)) 5 (nI cs109)) B (updA (updA (updA (updA B 16 f110) 17 f111) 18 f112) 19 f113) from (Thx.b (Thx.b8 (Thx.b (Thx.b (Thx.f Thx.rfl (by omega)) (by omega) (by decide)) (by omega) (by decide)) h115) (by omega) (by decide))).2
        have hz136 : cs109 ≤ 10000 := (by omega)
        have hO : OKP G h0 a (upd (upd (upd (upd F 2 (nI sz)) 5 (nI cs109)) 6 (nI rg)) 8 (nI dp)) (updR R 3 (.ref m0)) Z (updA (updA (updA (updA B 16 f110) 17 f111) 18 f112) 19 f113) J K124 w := hO.to rfl
        refine W.widen (k := 1) (n := 6) (by omega) (by omega) ?_
        have hzz1 : H.size ≤ s.heap.size + (0) := (by have z : 0 ≤ 0 := (by omega); omega)
        have hzz2 : hSl H ≤ hSl s.heap + (0) := (by have z : 0 ≤ 0 := (by omega); omega)
        exact W.vret hx hb hr (fun t99 ht99 hW99 => ⟨⟨_, (w, (K124, (updA (updA (updA (updA B 16 f110) 17 f111) 18 f112) 19 f113), cs109)), rfl, ⟨rfl, hz133, hz134, hz135, hz136, hO⟩, by rw [ht99]; exact hP, hD, by rw [ht99]; exact hzz1, by rw [ht99]; exact hzz2⟩, hS.F ht99⟩) hS.2.2 dX0_endMethod_95
    · refine lv_aload_n hx hb dX0_endMethod_20 rfl (lv_at hl 0 rfl) ?_
      refine c_get (v := .ref (a 1)) (C := RX0) (Tc := TX0) (N := 13) (ci := 0) hx hb hq pin_wsX00 hown hE hP hO 24 (sg_24 G h0 a _ _ _ _ _) rfl 0 (by decide) (hq _ pw_4) (fun _ h9 => h9) rfl dX0_endMethod_21 ?_
      refine lv_bipush (v := 15) hx hb dX0_endMethod_24 (by decide) ?_
      refine lv_aload_n hx hb dX0_endMethod_26 rfl (lv_at hl 0 rfl) ?_
      refine c_get (v := .ref m0) (C := RX0) (Tc := TX0) (N := 13) (ci := 0) hx hb hq pin_wsX00 hown hE hP hO 24 (sg_24 G h0 a _ _ _ _ _) rfl 7 (by decide) (hq _ pw_72) (fun _ h9 => h9) rfl dX0_endMethod_27 ?_
      refine p_get (v := .ref b0) (C := RX6) (Tc := TX6) (N := 12) (ci := 12) hx hb hq pin_wsX60 hown hE hP hO (by rw [hm0]; decide) (rep_3 hm0) rfl 5 (by decide) (hq _ pw_359) (fun _ h9 => h9) (congrArg (fun z => some (va_rf z)) hb0) dX0_endMethod_30 ?_
      refine p_get (v := .int (K.2.1 4 b0)) (C := RX7) (Tc := TX7) (N := 11) (ci := 13) hx hb hq pin_wsX70 hown hE hP hO (by rw [hbT]; decide) (rep_1 hbT) rfl 4 (by decide) (hq _ pw_171) (fun _ h9 => h9) rfl dX0_endMethod_33 ?_
      have hO : OKW G h0 a (upd (upd (upd (upd (upd F 2 (nI sz)) 5 (nI cs)) 6 (nI rg)) 8 (nI dp)) 2 (nI sz)) (updR R 3 (.ref m0)) Z B J K.1 (fun q99 x99 => x99 = rep G a K q99) w := hO.to rfl
      obtain ⟨_, qr140, hqr141⟩ := hO.2.1 2 _ (sg_2 G h0 a _ _ _ _ _)
      refine pn_V0 (G := G) (As := [.int 15, .int (K.2.1 4 b0)]) (rest := []) hx hb hml hown hq hE hX pX0_al hP hD hS hA hl.1 (K_fail l G h0 a (upd (upd (upd (upd F 2 (nI sz)) 5 (nI cs)) 6 (nI rg)) 8 (nI dp)) (updR R 3 (.ref m0)) Z B J K.1 (fun q99 x99 => x99 = rep G a K q99) w 15 (K.2.1 4 b0) sz (by omega) hO hl0) (gV pw_64 pw_65 pw_66 pw_59 pw_43) hV_X10_fail qr140 7 hqr141 rfl rfl rfl (Nat.le_of_ble_eq_true rfl) dX0_endMethod_36 ⟨(by show 0 + 1 ≤ 1; omega), (by show 0 + 6 ≤ 6; omega)⟩ ⟨Nat.le_of_ble_eq_true rfl, Nat.le_of_ble_eq_true rfl⟩ (fun v139 u137 H locs hw138 hP hD hS => hw138.elim) (fun ux ce9 q9 H9 locs9 hux hP9 hD9 hS9 hce hcv hcl => pb_out ux (ThQ.up (Thx.same Thx.rfl rfl) RhX.rfl hux) hnt hlocks hce hcv hcl hP9 hD9 hS9 (by show 0 + 1 ≤ 1; omega) (by show 0 + 6 ≤ 6; omega))
