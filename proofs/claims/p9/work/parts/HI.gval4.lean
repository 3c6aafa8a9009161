/-- a member of q's list, or nothing -/
def ArO (K : PK) (g : Nat → Nat → Nat) (q : Nat) (o : Option Nat) : Prop := ∀ x : Nat, o = some x → K.1 x = 1 ∧ 1 ≤ g 0 x ∧ g 0 x + 1 ≤ g 0 q ∧ g 1 x = q + 1
section AR
variable {K K1 : PK} {g : Nat → Nat → Nat} {q f x : Nat} {o : Option Nat}
theorem ArO.first (h : NdO K g q) (hf : f ≤ 3) (hk : Lsf (K.2.1 0 q) f) (ho : K.2.2.1 f q = o) : ArO K g q o := fun x hx => by
  obtain ⟨h1, h2, h3, h4, h5⟩ := h.2.1 f x hf (ho.trans hx)
  exact ⟨h1, h2, h3, h4 hk⟩
theorem ArO.next (hw : WN K g) (hq : 1 ≤ g 0 q) (h : K.1 x = 1 ∧ 1 ≤ g 0 x ∧ g 0 x + 1 ≤ g 0 q ∧ g 1 x = q + 1) (ho : K.2.2.1 4 x = o) : ArO K g q o := fun y hy => by
  obtain ⟨h1, h2, h3, h4⟩ := h
  obtain ⟨k1, k2, k3, k4, k5⟩ := (hw x h1 h2).2.2.1 y (ho.trans hy)
  have e : g 1 y = q + 1 := k3.trans h4
  exact ⟨k1, k2, ((hw y k1 k2).2.2.2.2 q e).2.1 hq, e⟩
theorem ArO.be (hb : BdE K K1) (h : ArO K g q o) : ArO K1 g q o := fun x hx => by
  obtain ⟨h1, h2⟩ := h x hx
  exact ⟨hb.T h1 (by decide), h2⟩
end AR
theorem dX0_arguments_0 : decode cX0_arguments 0 = .ok (.aload_n 2, 1) := by decide +kernel
theorem dX0_arguments_1 : decode cX0_arguments 1 = .ok (.ifnonnull 19, 3) := by decide +kernel
theorem dX0_arguments_4 : decode cX0_arguments 4 = .ok (.aload_n 0, 1) := by decide +kernel
theorem dX0_arguments_5 : decode cX0_arguments 5 = .ok (.getfield 9, 3) := by decide +kernel
theorem dX0_arguments_8 : decode cX0_arguments 8 = .ok (.bipush 10, 2) := by decide +kernel
theorem dX0_arguments_10 : decode cX0_arguments 10 = .ok (.aload_n 1, 1) := by decide +kernel
theorem dX0_arguments_11 : decode cX0_arguments 11 = .ok (.getfield 114, 3) := by decide +kernel
theorem dX0_arguments_14 : decode cX0_arguments 14 = .ok (.invokevirtual 136, 3) := by decide +kernel
set_option maxHeartbeats 6000000 in
set_option maxRecDepth 100000 in
theorem B_argumentsN (l : Launch) (G : pT) (h0 : Nat) (a : Nat → Nat) (F : Nat → Int32) (R : Nat → Value) (Z : Int64) (B : Nat → Nat → Int32) (J : Nat → Nat → Int64) (K : PK) (w : va_W) (q : Nat) (sz : Nat) (x1 : Int32) (x2 : Int32) (hsz : sz ≤ 5000) (hqT : K.1 q = 1) (hO : OKP G h0 a (upd F 2 (nI sz)) R Z B J K w) (hl0 : l.stackTraces = false) : PBn l G pX0 yX0_arguments cX0_arguments 7 (some .int) ({ frames := 7, cells := 1, slots := 6, locals := 122 }) [.ref (a 4), .ref q, .null, .int x1, .int x2] w (fun (v : Option Value) (u : va_W × (Unit)) => False) (fun u => u.1) (fun (u : va_W × (Unit)) => 0) (fun (u : va_W × (Unit)) => 0) (fun (u : va_W × (Nat → Int32) × (Nat → Value) × (Nat → Nat → Int32)) => ThQ G h0 a (upd F 2 (nI sz)) R Z B J u) (fun u => u.1) := by
  intro sz
  refine vx_ofW (cc := cX0_arguments) (maxL := 7) (ret := (some .int)) (by decide) rfl ?_
  intro p e s m args below meth c s₁ B9 hml hnt hv
  obtain ⟨rfl, hsz, hP, hD0, hE, hX⟩ := hv
  have hx := B9.exec
  have hb := B9.bytes
  have hr := B9.returns
  have hts := atoms_spec (ws := Cond.code yX0_arguments cX0_arguments 7 (some .int) :: pw) B9.pre
  have hq : ∀ w ∈ pw, w.before _ s = true := fun w h => hts w (List.mem_cons_of_mem _ h)
  have hown : s.vm.findClass RX0 = some m.cls := findClass_of_methodNamed B9.named
  have hlocks := B9.notSynchronized
  subst hsz
  have hD := hD0.self (sz := s.heap.size)
  have hA : ∀ q : Nat, s.heap.size ≤ q → va_A w s.heap.size q := fun q h => Or.inr h
  generalize va_A w s.heap.size = A at hD hE hA ⊢
  have hS : va_S A s.heap s.heap [] := va_S.rf
  have hl := lv_entry ([.ref (a 4), .ref q, .null, .int x1, .int x2]) (n := 7) (Nat.le_of_ble_eq_true rfl)
  rw [lg_entry_eq]
  generalize (lg_sl ([.ref (a 4), .ref q, .null, .int x1, .int x2]) ++ List.replicate (7 - (lg_sl ([.ref (a 4), .ref q, .null, .int x1, .int x2])).length) Slot.unset).toArray = ls at hl ⊢
  have hl : lv_has ls 7 [(0, .ref (a 4)), (1, .ref q), (2, .null), (3, .int x1), (4, .int x2)] := hl
  refine lv_aload_nN hx hb dX0_arguments_0 rfl (lv_at hl 2 rfl) ?_
  refine lv_ifnonnullN hx hb dX0_arguments_1 ?_
  refine lv_aload_n hx hb dX0_arguments_4 rfl (lv_at hl 0 rfl) ?_
  refine c_get (v := .ref (a 1)) (C := RX0) (Tc := TX0) (N := 13) (ci := 0) hx hb hq pin_wsX00 hown hE hP hO 24 (sg_24 G h0 a _ _ _ _ _) rfl 0 (by decide) (hq _ pw_4) (fun _ h9 => h9) rfl dX0_arguments_5 ?_
  refine lv_bipush (v := 10) hx hb dX0_arguments_8 (by decide) ?_
  refine lv_aload_n hx hb dX0_arguments_10 rfl (lv_at hl 1 rfl) ?_
  refine p_get (v := .int (K.2.1 1 q)) (C := RX7) (Tc := TX7) (N := 11) (ci := 13) hx hb hq pin_wsX70 hown hE hP hO (by rw [hqT]; decide) (rep_1 hqT) rfl 1 (by decide) (hq _ pw_81) (fun _ h9 => h9) rfl dX0_arguments_11 ?_
  have hO : OKW G h0 a (upd (upd F 2 (nI sz)) 2 (nI sz)) R Z B J K.1 (fun q99 x99 => x99 = rep G a K q99) w := hO.to rfl
  obtain ⟨_, qr4, hqr5⟩ := hO.2.1 2 _ (sg_2 G h0 a _ _ _ _ _)
  refine pn_V0 (G := G) (As := [.int 10, .int (K.2.1 1 q)]) (rest := []) hx hb hml hown hq hE hX pX0_al hP hD hS hA hl.1 (K_fail l G h0 a (upd F 2 (nI sz)) R Z B J K.1 (fun q99 x99 => x99 = rep G a K q99) w 10 (K.2.1 1 q) sz (by omega) hO hl0) (gV pw_64 pw_65 pw_66 pw_59 pw_43) hV_X10_fail qr4 7 hqr5 rfl rfl rfl (Nat.le_of_ble_eq_true rfl) dX0_arguments_14 ⟨(by show 0 + 1 ≤ 1; omega), (by show 0 + 6 ≤ 6; omega)⟩ ⟨Nat.le_of_ble_eq_true rfl, Nat.le_of_ble_eq_true rfl⟩ (fun v3 u1 H locs hw2 hP hD hS => hw2.elim) (fun ux ce9 q9 H9 locs9 hux hP9 hD9 hS9 hce hcv hcl => pb_out ux (ThQ.up (Thx.same Thx.rfl rfl) RhX.rfl hux) hnt hlocks hce hcv hcl hP9 hD9 hS9 (by show 0 + 1 ≤ 1; omega) (by show 0 + 6 ≤ 6; omega))
theorem dX0_arguments_20 : decode cX0_arguments 20 = .ok (.iconst 0, 1) := by decide +kernel
theorem dX0_arguments_21 : decode cX0_arguments 21 = .ok (.istore 5, 2) := by decide +kernel
theorem dX0_arguments_29 : decode cX0_arguments 29 = .ok (.aload 6, 2) := by decide +kernel
theorem dX0_arguments_31 : decode cX0_arguments 31 = .ok (.ifnull 79, 3) := by decide +kernel
theorem dX0_arguments_110 : decode cX0_arguments 110 = .ok (.iload 5, 2) := by decide +kernel
theorem dX0_arguments_112 : decode cX0_arguments 112 = .ok (.aload_n 2, 1) := by decide +kernel
theorem dX0_arguments_113 : decode cX0_arguments 113 = .ok (.getfield 109, 3) := by decide +kernel
theorem dX0_arguments_116 : decode cX0_arguments 116 = .ok (.invokevirtual 54, 3) := by decide +kernel
theorem dX0_arguments_119 : decode cX0_arguments 119 = .ok (.if_icmp .ge 16, 3) := by decide +kernel
theorem dX0_arguments_135 : decode cX0_arguments 135 = .ok (.aload_n 0, 1) := by decide +kernel
theorem dX0_arguments_136 : decode cX0_arguments 136 = .ok (.getfield 15, 3) := by decide +kernel
theorem dX0_arguments_139 : decode cX0_arguments 139 = .ok (.iload_n 3, 1) := by decide +kernel
theorem dX0_arguments_140 : decode cX0_arguments 140 = .ok (.iload 4, 2) := by decide +kernel
theorem dX0_arguments_142 : decode cX0_arguments 142 = .ok (.iload 5, 2) := by decide +kernel
theorem dX0_arguments_144 : decode cX0_arguments 144 = .ok (.invokevirtual 140, 3) := by decide +kernel
theorem dX0_arguments_147 : decode cX0_arguments 147 = .ok (.aload_n 2, 1) := by decide +kernel
theorem dX0_arguments_148 : decode cX0_arguments 148 = .ok (.getfield 130, 3) := by decide +kernel
theorem dX0_arguments_151 : decode cX0_arguments 151 = .ok (.ireturn, 1) := by decide +kernel
theorem dX0_arguments_122 : decode cX0_arguments 122 = .ok (.aload_n 0, 1) := by decide +kernel
theorem dX0_arguments_123 : decode cX0_arguments 123 = .ok (.getfield 9, 3) := by decide +kernel
theorem dX0_arguments_126 : decode cX0_arguments 126 = .ok (.bipush 12, 2) := by decide +kernel
theorem dX0_arguments_128 : decode cX0_arguments 128 = .ok (.aload_n 1, 1) := by decide +kernel
theorem dX0_arguments_129 : decode cX0_arguments 129 = .ok (.getfield 133, 3) := by decide +kernel
theorem dX0_arguments_132 : decode cX0_arguments 132 = .ok (.invokevirtual 136, 3) := by decide +kernel
theorem dX0_arguments_34 : decode cX0_arguments 34 = .ok (.iload 5, 2) := by decide +kernel
theorem dX0_arguments_36 : decode cX0_arguments 36 = .ok (.aload_n 2, 1) := by decide +kernel
theorem dX0_arguments_37 : decode cX0_arguments 37 = .ok (.getfield 109, 3) := by decide +kernel
theorem dX0_arguments_40 : decode cX0_arguments 40 = .ok (.invokevirtual 54, 3) := by decide +kernel
theorem dX0_arguments_43 : decode cX0_arguments 43 = .ok (.if_icmp .lt 20, 3) := by decide +kernel
theorem dX0_arguments_63 : decode cX0_arguments 63 = .ok (.aload_n 0, 1) := by decide +kernel
theorem dX0_arguments_64 : decode cX0_arguments 64 = .ok (.aload 6, 2) := by decide +kernel
theorem dX0_arguments_66 : decode cX0_arguments 66 = .ok (.aload_n 0, 1) := by decide +kernel
theorem dX0_arguments_67 : decode cX0_arguments 67 = .ok (.aload 6, 2) := by decide +kernel
theorem dX0_arguments_69 : decode cX0_arguments 69 = .ok (.invokevirtual 209, 3) := by decide +kernel
theorem dX0_arguments_72 : decode cX0_arguments 72 = .ok (.aload_n 0, 1) := by decide +kernel
theorem dX0_arguments_73 : decode cX0_arguments 73 = .ok (.getfield 9, 3) := by decide +kernel
theorem dX0_arguments_76 : decode cX0_arguments 76 = .ok (.aload_n 2, 1) := by decide +kernel
theorem dX0_arguments_77 : decode cX0_arguments 77 = .ok (.getfield 109, 3) := by decide +kernel
theorem dX0_arguments_80 : decode cX0_arguments 80 = .ok (.iload 5, 2) := by decide +kernel
theorem dX0_arguments_82 : decode cX0_arguments 82 = .ok (.invokevirtual 59, 3) := by decide +kernel
theorem dX0_arguments_85 : decode cX0_arguments 85 = .ok (.checkcast 112, 3) := by decide +kernel
theorem dX0_arguments_88 : decode cX0_arguments 88 = .ok (.getfield 117, 3) := by decide +kernel
theorem dX0_arguments_91 : decode cX0_arguments 91 = .ok (.invokevirtual 120, 3) := by decide +kernel
theorem dX0_arguments_94 : decode cX0_arguments 94 = .ok (.invokevirtual 213, 3) := by decide +kernel
theorem dX0_arguments_97 : decode cX0_arguments 97 = .ok (.iinc 5 1, 3) := by decide +kernel
theorem dX0_arguments_100 : decode cX0_arguments 100 = .ok (.aload 6, 2) := by decide +kernel
theorem dX0_arguments_102 : decode cX0_arguments 102 = .ok (.getfield 172, 3) := by decide +kernel
theorem dX0_arguments_105 : decode cX0_arguments 105 = .ok (.astore 6, 2) := by decide +kernel
theorem dX0_arguments_107 : decode cX0_arguments 107 = .ok (.goto (-78), 3) := by decide +kernel
theorem dX0_arguments_46 : decode cX0_arguments 46 = .ok (.aload_n 0, 1) := by decide +kernel
theorem dX0_arguments_47 : decode cX0_arguments 47 = .ok (.getfield 9, 3) := by decide +kernel
theorem dX0_arguments_50 : decode cX0_arguments 50 = .ok (.bipush 12, 2) := by decide +kernel
theorem dX0_arguments_52 : decode cX0_arguments 52 = .ok (.aload 6, 2) := by decide +kernel
theorem dX0_arguments_54 : decode cX0_arguments 54 = .ok (.getfield 117, 3) := by decide +kernel
theorem dX0_arguments_57 : decode cX0_arguments 57 = .ok (.invokevirtual 136, 3) := by decide +kernel
theorem dX0_arguments_23 : decode cX0_arguments 23 = .ok (.aload_n 1, 1) := by decide +kernel
theorem dX0_arguments_24 : decode cX0_arguments 24 = .ok (.getfield 202, 3) := by decide +kernel
theorem dX0_arguments_27 : decode cX0_arguments 27 = .ok (.astore 6, 2) := by decide +kernel
set_option maxHeartbeats 16000000 in
set_option maxRecDepth 100000 in
theorem B_arguments (l : Launch) (G : pT) (h0 : Nat) (a : Nat → Nat) (F : Nat → Int32) (R : Nat → Value) (Z : Int64) (B : Nat → Nat → Int32) (J : Nat → Nat → Int64) (K : PK) (w : va_W) (pq : Nat) (dr : Nat) (ml : Nat) (nd : Nat) (nm : Nat) (cp : Nat) (it : Nat → Nat) (s9 : Nat) (q : Nat) (mq : Nat) (cs : Nat) (vr : Nat) (sz : Nat) (n : Nat) (m2 : Nat) (x1 : Int32) (x2 : Int32) (g : Nat → Nat → Nat) (rk : Nat → Nat) (hsz : sz ≤ 5000) (hwp : WPr G K g) (hps : PgT G K g (a 1) pq dr ml nd nm cp it s9) (hrk : RkO K rk) (hcs : cs ≤ 10000) (hvr : vr ≤ 30) (hng : Nng (B 18)) (hmq : K.1 mq = 3) (hqT : K.1 q = 1) (hqL : 1 ≤ g 0 q ∧ g 0 q ≤ n) (hm2 : K.1 m2 = 3) (hls : Lsf (K.2.1 0 q) 1) (ihv : IhV l G n) (hO : OKP G h0 a (upd (upd (upd F 2 (nI sz)) 5 (nI cs)) 12 (nI vr)) (updR (updR R 2 (.ref pq)) 3 (.ref mq)) Z B J K w) (hl0 : l.stackTraces = false) : PBn l G pX0 yX0_arguments cX0_arguments 7 (some .int) ({ frames := (5 * n + 32), cells := 1, slots := 6, locals := (200 * n + 520) }) [.ref (a 4), .ref q, .ref m2, .int x1, .int x2] w (fun (v : Option Value) (u : va_W × (PK × (Nat → Nat → Int32) × Nat × Int32 × Int32 × Int32 × Int32)) => v = some (.int u.2.2.2.2.2.2.2) ∧ (BdE K u.2.1) ∧ (Bth B u.2.2.1) ∧ (u.2.2.2.1 ≤ 10000) ∧ (OKP G h0 a (upd (upd (upd (upd (upd (upd F 2 (nI sz)) 5 (nI u.2.2.2.1)) 12 (nI vr)) 13 u.2.2.2.2.1) 14 u.2.2.2.2.2.1) 15 u.2.2.2.2.2.2.1) (updR (updR R 2 (.ref pq)) 3 (.ref mq)) Z u.2.2.1 J u.2.1 u.1)) (fun u => u.1) (fun (u : va_W × (PK × (Nat → Nat → Int32) × Nat × Int32 × Int32 × Int32 × Int32)) => 0) (fun (u : va_W × (PK × (Nat → Nat → Int32) × Nat × Int32 × Int32 × Int32 × Int32)) => 0) (fun (u : va_W × (Nat → Int32) × (Nat → Value) × (Nat → Nat → Int32)) => ThQ G h0 a (upd (upd (upd F 2 (nI sz)) 5 (nI cs)) 12 (nI vr)) (updR (updR R 2 (.ref pq)) 3 (.ref mq)) Z B J u) (fun u => u.1) := by
  intro sz
  refine vx_ofW (cc := cX0_arguments) (maxL := 7) (ret := (some .int)) (by decide) rfl ?_
  intro p e s m args below meth c s₁ B9 hml hnt hv
  obtain ⟨rfl, hsz, hP, hD0, hE, hX⟩ := hv
  have hx := B9.exec
  have hb := B9.bytes
  have hr := B9.returns
  have hts := atoms_spec (ws := Cond.code yX0_arguments cX0_arguments 7 (some .int) :: pw) B9.pre
  have hq : ∀ w ∈ pw, w.before _ s = true := fun w h => hts w (List.mem_cons_of_mem _ h)
  have hown : s.vm.findClass RX0 = some m.cls := findClass_of_methodNamed B9.named
  have hlocks := B9.notSynchronized
  subst hsz
  have hD := hD0.self (sz := s.heap.size)
  have hA : ∀ q : Nat, s.heap.size ≤ q → va_A w s.heap.size q := fun q h => Or.inr h
  generalize va_A w s.heap.size = A at hD hE hA ⊢
  have hS : va_S A s.heap s.heap [] := va_S.rf
  have hl := lv_entry ([.ref (a 4), .ref q, .ref m2, .int x1, .int x2]) (n := 7) (Nat.le_of_ble_eq_true rfl)
  rw [lg_entry_eq]
  generalize (lg_sl ([.ref (a 4), .ref q, .ref m2, .int x1, .int x2]) ++ List.replicate (7 - (lg_sl ([.ref (a 4), .ref q, .ref m2, .int x1, .int x2])).length) Slot.unset).toArray = ls at hl ⊢
  have hl : lv_has ls 7 [(0, .ref (a 4)), (1, .ref q), (2, .ref m2), (3, .int x1), (4, .int x2)] := hl
  have hpg := hps.1
  have hp1 := hpg.1
  have hp2 := hpg.2.1
  have hp3 := hpg.2.2.1
  have hp4 := hpg.2.2.2.1
  have hp5 := hpg.2.2.2.2.1
  have hp6 := hpg.2.2.2.2.2.1
  have hp8 := hpg.2.2.2.2.2.2.2.1
  have hp9 := hpg.2.2.2.2.2.2.2.2
  obtain ⟨lp, hflp, htlp, hrlp, holp⟩ := (hwp.2.2.2 m2 hm2).1
  obtain ⟨nlp, itlp, cplp, hlclp, hnblp, hcblp⟩ := hwp.2.1 lp htlp
  rw [hrlp] at hlclp hnblp
  have hnclp := hlclp.2.2.1
  have hnblp : nlp ≤ 5000 := hnblp
  have hlclp : LsC G K lp 1 nlp itlp cplp := hlclp
  refine lv_aload_n hx hb dX0_arguments_0 rfl (lv_at hl 2 rfl) ?_
  refine lv_ifnonnull (tgt := 20) hx hb dX0_arguments_1 (by decide) ?_
  refine lv_iconst (v := 0) hx hb dX0_arguments_20 (by decide) ?_
  refine lv_istore (lv' := [(5, .int 0), (0, .ref (a 4)), (1, .ref q), (2, .ref m2), (3, .int x1), (4, .int x2)]) hx hb dX0_arguments_21 hl (by decide) rfl (fun ls hl => ?_)
  have loop_g : ∀ (n_g : Nat) (i2 : Nat) (o2 : Option Nat) (K2 : PK) (B2 : Nat → Nat → Int32) (cs2 : Nat) (as2 : Int32) (wt2 : Int32) (wf2 : Int32) (H : Heap) (locs : List Loc) (ls : Array Slot) (w : va_W), i2 ≤ nlp → nlp + 1 ≤ i2 + n_g → (BdE K K2) → (Bth B B2) → (Nng (B2 18)) → (cs2 ≤ 10000) → (ArO K2 g q o2) → va_P G.1 pCl w H → va_D A w → va_S A s.heap H locs → OKP G h0 a (upd (upd (upd (upd (upd (upd F 2 (nI sz)) 5 (nI cs2)) 12 (nI vr)) 13 as2) 14 wt2) 15 wf2) (updR (updR R 2 (.ref pq)) 3 (.ref mq)) Z B2 J K2 w → lv_has ls 7 [(6, va_rf o2), (5, .int (nI i2)), (4, .int x2), (3, .int x1), (2, .ref m2), (1, .ref q), (0, .ref (a 4))] → W p l e (headSpec (Cond.code yX0_arguments cX0_arguments 7 (some .int) :: pw) ({ frames := (5 * n + 32), cells := 1, slots := 6, locals := (200 * n + 520) } : Room)).room s m ([.ref (a 4), .ref q, .ref m2, .int x1, .int x2] : List Value).toArray below meth c H locs 0 0 (vx_MQ below (pQn G A (fun (v : Option Value) (u : va_W × (PK × (Nat → Nat → Int32) × Nat × Int32 × Int32 × Int32 × Int32)) => v = some (.int u.2.2.2.2.2.2.2) ∧ (BdE K u.2.1) ∧ (Bth B u.2.2.1) ∧ (u.2.2.2.1 ≤ 10000) ∧ (OKP G h0 a (upd (upd (upd (upd (upd (upd F 2 (nI sz)) 5 (nI u.2.2.2.1)) 12 (nI vr)) 13 u.2.2.2.2.1) 14 u.2.2.2.2.2.1) 15 u.2.2.2.2.2.2.1) (updR (updR R 2 (.ref pq)) 3 (.ref mq)) Z u.2.2.1 J u.2.1 u.1)) (fun u => u.1) (fun (u : va_W × (PK × (Nat → Nat → Int32) × Nat × Int32 × Int32 × Int32 × Int32)) => 0) (fun (u : va_W × (PK × (Nat → Nat → Int32) × Nat × Int32 × Int32 × Int32 × Int32)) => 0)) (pXX G A (fun (u : va_W × (Nat → Int32) × (Nat → Value) × (Nat → Nat → Int32)) => ThQ G h0 a (upd (upd (upd F 2 (nI sz)) 5 (nI cs)) 12 (nI vr)) (updR (updR R 2 (.ref pq)) 3 (.ref mq)) Z B J u) (fun u => u.1)) ([.ref (a 4), .ref q, .ref m2, .int x1, .int x2] : List Value).toArray s ({ frames := (5 * n + 32), cells := 1, slots := 6, locals := (200 * n + 520) } : Room).cells ({ frames := (5 * n + 32), cells := 1, slots := 6, locals := (200 * n + 520) } : Room).slots A) (F0 m 29 ls []) := by
    intro n_g
    induction n_g with
    | zero => intro i2 o2 K2 B2 cs2 as2 wt2 wf2 H locs ls w hk_g hn_g; omega
    | succ n_g ih_g =>
      intro i2 o2 K2 B2 cs2 as2 wt2 wf2 H locs ls w hk_g hn_g hbe2 hbb2 hng2 hcs2 hpo2 hP hD hS hO hl
      have hf1 : K2.1 pq = 7 := (BdE.T hbe2 hp1 (by decide))
      have hf2 : K2.2.2.1 18 pq = some (a 1) := (BdE.C hbe2 (by rw [hp1]; decide) 18).trans hp2
      have hf3 : K2.2.2.1 14 pq = some dr := (BdE.C hbe2 (by rw [hp1]; decide) 14).trans hp3
      have hf4 : K2.1 dr = 8 := (BdE.T hbe2 hp4 (by decide))
      have hf5 : K2.2.2.1 15 pq = some ml := (BdE.C hbe2 (by rw [hp1]; decide) 15).trans hp5
      have hf6 : K2.1 ml = 5 := (BdE.T hbe2 hp6 (by decide))
      have hf7 : K2.2.1 24 pq = (nI nd) := (BdE.I hbe2 (by rw [hp1]; decide) (by decide) (by decide)).trans hp8
      have hf8 : K2.1 q = 1 := (BdE.T hbe2 hqT (by decide))
      have hf9 : K2.1 mq = 3 := (BdE.T hbe2 hmq (by decide))
      have hf10 : K2.1 m2 = 3 := (BdE.T hbe2 hm2 (by decide))
      have hf11 : K2.2.2.1 6 m2 = some lp := (BdE.C hbe2 (by rw [hm2]; decide) 6).trans hflp
      have hf12 : K2.1 lp = 5 := (BdE.T hbe2 htlp (by decide))
      rcases o2 with _ | x9
      · have hl : lv_has ls 7 [(6, .null), (5, .int (nI i2)), (4, .int x2), (3, .int x1), (2, .ref m2), (1, .ref q), (0, .ref (a 4))] := hl
        refine W.eq (g2 := F0 m 29 ls []) rfl ?_
        refine lv_aloadN hx hb dX0_arguments_29 (lv_at hl 0 rfl) ?_
        refine lv_ifnullN (tgt := 110) hx hb dX0_arguments_31 (by decide) ?_
        refine lv_iload hx hb dX0_arguments_110 (lv_at hl 1 rfl) ?_
        refine lv_aload_n hx hb dX0_arguments_112 rfl (lv_at hl 4 rfl) ?_
        refine p_get (v := .ref lp) (C := RX6) (Tc := TX6) (N := 12) (ci := 12) hx hb hq pin_wsX60 hown hE hP hO (by rw [hf10]; decide) (rep_3 hf10) rfl 4 (by decide) (hq _ pw_79) (fun _ h9 => h9) (congrArg (fun z => some (va_rf z)) hf11) dX0_arguments_113 ?_
        have hO : OKP G h0 a (upd (upd (upd (upd (upd (upd F 2 (nI sz)) 5 (nI cs2)) 12 (nI vr)) 13 as2) 14 wt2) 15 wf2) (updR (updR R 2 (.ref pq)) 3 (.ref mq)) Z B2 J K2 w := hO.to rfl
        obtain ⟨qr16, hqr17⟩ := p_recv hO (by rw [hf12]; decide) (rep_5 hf12)
        refine pc_V0 (G := G) (As := []) (rest := [.int (nI i2)]) hx hb hml hown hq hE hX pX0_al hP hD hS hA hl.1 (L_size l G h0 a (upd (upd (upd (upd (upd (upd F 2 (nI sz)) 5 (nI cs2)) 12 (nI vr)) 13 as2) 14 wt2) 15 wf2) (updR (updR R 2 (.ref pq)) 3 (.ref mq)) Z B2 J K2 w lp 1 nlp itlp (BdX.ls (BdE.x hbe2) (by decide) hlclp).ls hO) (gV pw_86 pw_87 pw_88 pw_32 pw_16) hV_Jx4a65c_size_8abf5 qr16 10 hqr17 rfl rfl rfl (Nat.le_of_ble_eq_true rfl) dX0_arguments_116 ⟨(by show 0 + 0 ≤ 1; omega), (by show 0 + 0 ≤ 6; omega)⟩ ⟨(by show 2 + 1 ≤ (5 * n + 32); omega), (by show 8 + (1 + 11) + 60 ≤ (200 * n + 520); omega)⟩ (fun v15 u13 H locs hw14 hP hD hS => ?_)
        obtain ⟨w, _⟩ := u13
        obtain ⟨hw14, hO⟩ := hw14
        obtain rfl : v15 = some (.int (nI nlp)) := hw14
        have hO : OKP G h0 a (upd (upd (upd (upd (upd (upd F 2 (nI sz)) 5 (nI cs2)) 12 (nI vr)) 13 as2) 14 wt2) 15 wf2) (updR (updR R 2 (.ref pq)) 3 (.ref mq)) Z B2 J K2 w := hO.to rfl
        refine W.widen (k := 0) (n := 0) (Nat.le_of_ble_eq_true rfl) (Nat.le_of_ble_eq_true rfl) ?_
        refine W.eq (g2 := F0 m 119 ls [.int (nI nlp), .int (nI i2)]) rfl ?_
        refine lv_icmp_ge (tgt := 135) hx hb dX0_arguments_119 (by decide) (fun c18 => ?_) (fun c18 => ?_)
        · have n19 : nlp ≤ i2 := (nI_leI (a := nlp) (b := i2) (by omega) (by omega)).mp c18
          refine lv_aload_n hx hb dX0_arguments_135 rfl (lv_at hl 6 rfl) ?_
          refine c_get (v := .ref (a 2)) (C := RX0) (Tc := TX0) (N := 13) (ci := 0) hx hb hq pin_wsX00 hown hE hP hO 24 (sg_24 G h0 a _ _ _ _ _) rfl 1 (by decide) (hq _ pw_5) (fun _ h9 => h9) rfl dX0_arguments_136 ?_
          refine lv_iload_n hx hb dX0_arguments_139 rfl (lv_at hl 3 rfl) ?_
          refine lv_iload hx hb dX0_arguments_140 (lv_at hl 2 rfl) ?_
          refine lv_iload hx hb dX0_arguments_142 (lv_at hl 1 rfl) ?_
          have hO : OKW G h0 a (upd (upd (upd (upd (upd (upd (upd F 2 (nI sz)) 5 (nI cs2)) 12 (nI vr)) 13 as2) 14 wt2) 15 wf2) 5 (nI cs2)) (updR (updR R 2 (.ref pq)) 3 (.ref mq)) Z B2 J K2.1 (fun q99 x99 => x99 = rep G a K2 q99) w := hO.to rfl
          obtain ⟨_, qr23, hqr24⟩ := hO.2.1 13 _ (sg_13 G h0 a _ _ _ _ _)
          refine pc_V0 (G := G) (As := [.int x1, .int x2, .int (nI i2)]) (rest := []) hx hb hml hown hq hE hX pX0_al hP hD hS hA hl.1 (K_emit l G h0 a (upd (upd (upd (upd (upd (upd F 2 (nI sz)) 5 (nI cs2)) 12 (nI vr)) 13 as2) 14 wt2) 15 wf2) (updR (updR R 2 (.ref pq)) 3 (.ref mq)) Z B2 J K2.1 (fun q99 x99 => x99 = rep G a K2 q99) w x1 x2 i2 cs2 (by omega) (by omega) hng2 hO) (gV pw_129 pw_130 pw_131 pw_70 pw_115) hV_X1_emit qr23 1 hqr24 rfl rfl rfl (Nat.le_of_ble_eq_true rfl) dX0_arguments_144 ⟨(by show 0 + 0 ≤ 1; omega), (by show 0 + 0 ≤ 6; omega)⟩ ⟨(by show 2 + 1 ≤ (5 * n + 32); omega), (by show 8 + (4 + 11) + 60 ≤ (200 * n + 520); omega)⟩ (fun v22 u20 H locs hw21 hP hD hS => ?_)
          obtain ⟨w, cs25, f26, f27, f28, f29⟩ := u20
          obtain ⟨hw21, h30, h31, hO⟩ := hw21
          have h30 : cs2 ≤ cs25 ∧ cs25 ≤ cs2 + 1 ∧ cs25 ≤ 10000 := h30
          have h31 : Nng f28 := h31
          obtain rfl : v22 = none := hw21
          have hO : OKP G h0 a (upd (upd (upd (upd (upd (upd F 2 (nI sz)) 5 (nI cs25)) 12 (nI vr)) 13 as2) 14 wt2) 15 wf2) (updR (updR R 2 (.ref pq)) 3 (.ref mq)) Z (updA (updA (updA (updA B2 16 f26) 17 f27) 18 f28) 19 f29) J K2 w := hO.to rfl
          refine W.widen (k := 0) (n := 0) (Nat.le_of_ble_eq_true rfl) (Nat.le_of_ble_eq_true rfl) ?_
          refine W.eq (g2 := F0 m 147 ls []) rfl ?_
          refine lv_aload_n hx hb dX0_arguments_147 rfl (lv_at hl 4 rfl) ?_
          refine p_get (v := .int (K2.2.1 10 m2)) (C := RX6) (Tc := TX6) (N := 12) (ci := 12) hx hb hq pin_wsX60 hown hE hP hO (by rw [hf10]; decide) (rep_3 hf10) rfl 7 (by decide) (hq _ pw_172) (fun _ h9 => h9) rfl dX0_arguments_148 ?_
          refine W_size (fun hz1 hz2 => ?_)
          refine vx_ret ?_
          have hz32 : BdE K K2 := hbe2
          have hz33 : Bth B (updA (updA (updA (updA B2 16 f26) 17 f27) 18 f28) 19 f29) := (show Thx (upd (upd (upd F 2 (nI sz)) 5 (nI cs)) 12 (nI vr)) (upd (upd (upd (upd (upd (upd (upd F 2 (nI sz)) 5 (nI cs)) 12 (nI vr)) 5 (nI cs25)) 13 as2) 14 wt2) 15 wf2) B (updA (updA (updA (updA B2 16 f26) 17 f27) 18 f28) 19 f29) from (Thx.b (Thx.b8 (Thx.b (Thx.b (Thx.f (Thx.f (Thx.f (Thx.f (Bth.thx hbb2) (by omega)) (by omega)) (by omega)) (by omega)) (by omega) (by decide)) (by omega) (by decide)) h31) (by omega) (by decide))).2
          have hz34 : cs25 ≤ 10000 := (by omega)
          have hO : OKP G h0 a (upd (upd (upd (upd (upd (upd F 2 (nI sz)) 5 (nI cs25)) 12 (nI vr)) 13 as2) 14 wt2) 15 wf2) (updR (updR R 2 (.ref pq)) 3 (.ref mq)) Z (updA (updA (updA (updA B2 16 f26) 17 f27) 18 f28) 19 f29) J K2 w := hO.to rfl
          refine W.widen (k := 1) (n := 6) (by omega) (by omega) ?_
          have hzz1 : H.size ≤ s.heap.size + (0) := (by have z : 0 ≤ 0 := (by omega); omega)
          have hzz2 : hSl H ≤ hSl s.heap + (0) := (by have z : 0 ≤ 0 := (by omega); omega)
          exact W.iret (v := (K2.2.1 10 m2)) hx hb hr (fun t99 ht99 hW99 => ⟨⟨_, (w, (K2, (updA (updA (updA (updA B2 16 f26) 17 f27) 18 f28) 19 f29), cs25, as2, wt2, wf2, (K2.2.1 10 m2))), rfl, ⟨rfl, hz32, hz33, hz34, hO⟩, by rw [ht99]; exact hP, hD, by rw [ht99]; exact hzz1, by rw [ht99]; exact hzz2⟩, hS.F ht99⟩) hS.2.2 dX0_arguments_151
        · have n35 : ¬ (nlp ≤ i2) := fun h9 => c18 ((nI_leI (a := nlp) (b := i2) (by omega) (by omega)).mpr h9)
          refine lv_aload_n hx hb dX0_arguments_122 rfl (lv_at hl 6 rfl) ?_
          refine c_get (v := .ref (a 1)) (C := RX0) (Tc := TX0) (N := 13) (ci := 0) hx hb hq pin_wsX00 hown hE hP hO 24 (sg_24 G h0 a _ _ _ _ _) rfl 0 (by decide) (hq _ pw_4) (fun _ h9 => h9) rfl dX0_arguments_123 ?_
          refine lv_bipush (v := 12) hx hb dX0_arguments_126 (by decide) ?_
          refine lv_aload_n hx hb dX0_arguments_128 rfl (lv_at hl 5 rfl) ?_
          refine p_get (v := .int (K2.2.1 4 q)) (C := RX7) (Tc := TX7) (N := 11) (ci := 13) hx hb hq pin_wsX70 hown hE hP hO (by rw [hf8]; decide) (rep_1 hf8) rfl 4 (by decide) (hq _ pw_171) (fun _ h9 => h9) rfl dX0_arguments_129 ?_
          have hO : OKW G h0 a (upd (upd (upd (upd (upd (upd (upd (upd F 2 (nI sz)) 5 (nI cs)) 12 (nI vr)) 5 (nI cs2)) 13 as2) 14 wt2) 15 wf2) 2 (nI sz)) (updR (updR R 2 (.ref pq)) 3 (.ref mq)) Z B2 J K2.1 (fun q99 x99 => x99 = rep G a K2 q99) w := hO.to rfl
          obtain ⟨_, qr39, hqr40⟩ := hO.2.1 2 _ (sg_2 G h0 a _ _ _ _ _)
          refine pn_V0 (G := G) (As := [.int 12, .int (K2.2.1 4 q)]) (rest := []) hx hb hml hown hq hE hX pX0_al hP hD hS hA hl.1 (K_fail l G h0 a (upd (upd (upd (upd (upd (upd (upd F 2 (nI sz)) 5 (nI cs)) 12 (nI vr)) 5 (nI cs2)) 13 as2) 14 wt2) 15 wf2) (updR (updR R 2 (.ref pq)) 3 (.ref mq)) Z B2 J K2.1 (fun q99 x99 => x99 = rep G a K2 q99) w 12 (K2.2.1 4 q) sz (by omega) hO hl0) (gV pw_64 pw_65 pw_66 pw_59 pw_43) hV_X10_fail qr39 7 hqr40 rfl rfl rfl (Nat.le_of_ble_eq_true rfl) dX0_arguments_132 ⟨(by show 0 + 1 ≤ 1; omega), (by show 0 + 6 ≤ 6; omega)⟩ ⟨(by show 6 + 1 ≤ (5 * n + 32); omega), (by show 8 + (3 + 11) + 100 ≤ (200 * n + 520); omega)⟩ (fun v38 u36 H locs hw37 hP hD hS => hw37.elim) (fun ux ce9 q9 H9 locs9 hux hP9 hD9 hS9 hce hcv hcl => pb_out ux (ThQ.up (Thx.same (Thx.f (Thx.f (Thx.f (Thx.f (Bth.thx hbb2) (by omega)) (by omega)) (by omega)) (by omega)) rfl) RhX.rfl hux) hnt hlocks hce hcv hcl hP9 hD9 hS9 (by show 0 + 1 ≤ 1; omega) (by show 0 + 6 ≤ 6; omega))
      · have hl : lv_has ls 7 [(6, .ref x9), (5, .int (nI i2)), (4, .int x2), (3, .int x1), (2, .ref m2), (1, .ref q), (0, .ref (a 4))] := hl
        refine W.eq (g2 := F0 m 29 ls []) rfl ?_
        have hxd := hpo2 x9 rfl
        have hxT := hxd.1
        have hxv : 1 ≤ g 0 x9 ∧ g 0 x9 + 1 ≤ n := ⟨hxd.2.1, (by have z := hxd.2.2.1; omega)⟩
        refine lv_aload hx hb dX0_arguments_29 (lv_at hl 0 rfl) ?_
        refine lv_ifnull hx hb dX0_arguments_31 ?_
        refine lv_iload hx hb dX0_arguments_34 (lv_at hl 1 rfl) ?_
        refine lv_aload_n hx hb dX0_arguments_36 rfl (lv_at hl 4 rfl) ?_
        refine p_get (v := .ref lp) (C := RX6) (Tc := TX6) (N := 12) (ci := 12) hx hb hq pin_wsX60 hown hE hP hO (by rw [hf10]; decide) (rep_3 hf10) rfl 4 (by decide) (hq _ pw_79) (fun _ h9 => h9) (congrArg (fun z => some (va_rf z)) hf11) dX0_arguments_37 ?_
        have hO : OKP G h0 a (upd (upd (upd (upd (upd (upd F 2 (nI sz)) 5 (nI cs2)) 12 (nI vr)) 13 as2) 14 wt2) 15 wf2) (updR (updR R 2 (.ref pq)) 3 (.ref mq)) Z B2 J K2 w := hO.to rfl
        obtain ⟨qr44, hqr45⟩ := p_recv hO (by rw [hf12]; decide) (rep_5 hf12)
        refine pc_V0 (G := G) (As := []) (rest := [.int (nI i2)]) hx hb hml hown hq hE hX pX0_al hP hD hS hA hl.1 (L_size l G h0 a (upd (upd (upd (upd (upd (upd F 2 (nI sz)) 5 (nI cs2)) 12 (nI vr)) 13 as2) 14 wt2) 15 wf2) (updR (updR R 2 (.ref pq)) 3 (.ref mq)) Z B2 J K2 w lp 1 nlp itlp (BdX.ls (BdE.x hbe2) (by decide) hlclp).ls hO) (gV pw_86 pw_87 pw_88 pw_32 pw_16) hV_Jx4a65c_size_8abf5 qr44 10 hqr45 rfl rfl rfl (Nat.le_of_ble_eq_true rfl) dX0_arguments_40 ⟨(by show 0 + 0 ≤ 1; omega), (by show 0 + 0 ≤ 6; omega)⟩ ⟨(by show 2 + 1 ≤ (5 * n + 32); omega), (by show 8 + (1 + 11) + 60 ≤ (200 * n + 520); omega)⟩ (fun v43 u41 H locs hw42 hP hD hS => ?_)
        obtain ⟨w, _⟩ := u41
        obtain ⟨hw42, hO⟩ := hw42
        obtain rfl : v43 = some (.int (nI nlp)) := hw42
        have hO : OKP G h0 a (upd (upd (upd (upd (upd (upd F 2 (nI sz)) 5 (nI cs2)) 12 (nI vr)) 13 as2) 14 wt2) 15 wf2) (updR (updR R 2 (.ref pq)) 3 (.ref mq)) Z B2 J K2 w := hO.to rfl
        refine W.widen (k := 0) (n := 0) (Nat.le_of_ble_eq_true rfl) (Nat.le_of_ble_eq_true rfl) ?_
        refine W.eq (g2 := F0 m 43 ls [.int (nI nlp), .int (nI i2)]) rfl ?_
        refine lv_icmp_lt (tgt := 63) hx hb dX0_arguments_43 (by decide) (fun c46 => ?_) (fun c46 => ?_)
        · have n47 : i2 < nlp := (nI_ltI (a := i2) (b := nlp) (by omega) (by omega)).mp c46
          refine lv_aload_n hx hb dX0_arguments_63 rfl (lv_at hl 6 rfl) ?_
          refine lv_aload hx hb dX0_arguments_64 (lv_at hl 0 rfl) ?_
          refine lv_aload_n hx hb dX0_arguments_66 rfl (lv_at hl 6 rfl) ?_
          refine lv_aload hx hb dX0_arguments_67 (lv_at hl 0 rfl) ?_
          have hO : OKP G h0 a (upd (upd (upd (upd (upd (upd (upd (upd (upd (upd F 2 (nI sz)) 5 (nI cs)) 12 (nI vr)) 5 (nI cs2)) 13 as2) 14 wt2) 15 wf2) 2 (nI sz)) 5 (nI cs2)) 12 (nI vr)) (updR (updR (updR (updR R 2 (.ref pq)) 3 (.ref mq)) 2 (.ref pq)) 3 (.ref mq)) Z B2 J K2 w := hO.to rfl
          obtain ⟨_, qr51, hqr52⟩ := hO.2.1 24 _ (sg_24 G h0 a _ _ _ _ _)
          refine pn_V0 (G := G) (As := [.ref x9]) (rest := [.ref x9, .ref (a 4)]) hx hb hml hown hq hE hX pX0_al hP hD hS hA hl.1 ((ihv (by omega)) h0 a (upd (upd (upd (upd (upd (upd (upd F 2 (nI sz)) 5 (nI cs)) 12 (nI vr)) 5 (nI cs2)) 13 as2) 14 wt2) 15 wf2) (updR (updR R 2 (.ref pq)) 3 (.ref mq)) Z B2 J K2 w pq dr ml nd nm cp it s9 x9 mq cs2 vr sz g rk (by omega) (BdE.wp hbe2 hwp) (BdE.pt hbe2 hwp hps) (BdE.rko hbe2 hrk) (by omega) (by omega) hng2 hf9 hxT ⟨hxv.1, (by have z9 := hxv; omega)⟩ hO hl0) (gV pw_173 pw_174 pw_175 pw_63 pw_224) hV_X0_value qr51 0 hqr52 rfl rfl rfl (Nat.le_of_ble_eq_true rfl) dX0_arguments_69 ⟨(by show 0 + 1 ≤ 1; omega), (by show 0 + 6 ≤ 6; omega)⟩ ⟨(by show (5 * (n - 1) + 34) + 1 ≤ (5 * n + 32); omega), (by show 8 + (3 + 11) + (200 * (n - 1) + 600) ≤ (200 * n + 520); omega)⟩ (fun v50 u48 H locs hw49 hP hD hS => ?_) (fun ux ce9 q9 H9 locs9 hux hP9 hD9 hS9 hce hcv hcl => pb_out ux (ThQ.up (Thx.same (Thx.same (Thx.same (Thx.f (Thx.f (Thx.f (Thx.f (Bth.thx hbb2) (by omega)) (by omega)) (by omega)) (by omega)) rfl) rfl) rfl) (show RhX (updR (updR R 2 (.ref pq)) 3 (.ref mq)) (updR (updR (updR (updR R 2 (.ref pq)) 3 (.ref mq)) 2 (.ref pq)) 3 (.ref mq)) from fun k9 hk9 => by unfold updR; simp only [show ¬ k9 = 1 by omega, show ¬ k9 = 2 by omega, show ¬ k9 = 3 by omega, show ¬ k9 = 4 by omega, if_false]) hux) hnt hlocks hce hcv hcl hP9 hD9 hS9 (by show 0 + 1 ≤ 1; omega) (by show 0 + 6 ≤ 6; omega))
          obtain ⟨w, K53, B54, cs55, as56, wt57, wf58, r59⟩ := u48
          obtain ⟨hw49, h60, h61, h62, hO⟩ := hw49
          have h60 : BdE K2 K53 := h60
          have h61 : Bth B2 B54 := h61
          have h62 : cs55 ≤ 10000 := h62
          obtain rfl : v50 = some (.int r59) := hw49
          have hf63 : K53.1 pq = 7 := (BdE.T h60 hf1 (by decide))
          have hf64 : K53.2.2.1 18 pq = some (a 1) := (BdE.C h60 (by rw [hf1]; decide) 18).trans hf2
          have hf65 : K53.2.2.1 14 pq = some dr := (BdE.C h60 (by rw [hf1]; decide) 14).trans hf3
          have hf66 : K53.1 dr = 8 := (BdE.T h60 hf4 (by decide))
          have hf67 : K53.2.2.1 15 pq = some ml := (BdE.C h60 (by rw [hf1]; decide) 15).trans hf5
          have hf68 : K53.1 ml = 5 := (BdE.T h60 hf6 (by decide))
          have hf69 : K53.2.1 24 pq = (nI nd) := (BdE.I h60 (by rw [hf1]; decide) (by decide) (by decide)).trans hf7
          have hf70 : K53.1 q = 1 := (BdE.T h60 hf8 (by decide))
          have hf71 : K53.1 mq = 3 := (BdE.T h60 hf9 (by decide))
          have hf72 : K53.1 m2 = 3 := (BdE.T h60 hf10 (by decide))
          have hf73 : K53.2.2.1 6 m2 = some lp := (BdE.C h60 (by rw [hf10]; decide) 6).trans hf11
          have hf74 : K53.1 lp = 5 := (BdE.T h60 hf12 (by decide))
          have hf75 : K53.1 x9 = 1 := (BdE.T h60 hxT (by decide))
          have hO : OKP G h0 a (upd (upd (upd (upd (upd (upd F 2 (nI sz)) 5 (nI cs55)) 12 (nI vr)) 13 as56) 14 wt57) 15 wf58) (updR (updR R 2 (.ref pq)) 3 (.ref mq)) Z B54 J K53 w := hO.to rfl
          refine W.widen (k := 0) (n := 0) (by show 0 + 0 ≤ 0; omega) (by show 0 + 0 ≤ 0; omega) ?_
          refine W.eq (g2 := F0 m 72 ls [.int r59, .ref x9, .ref (a 4)]) rfl ?_
          have hbe76 := BdE.trans hbe2 h60
          have hbb77 : Bth B B54 := Bth.trans (show Thx (upd (upd (upd F 2 (nI sz)) 5 (nI cs)) 12 (nI vr)) (upd (upd (upd (upd (upd (upd (upd F 2 (nI sz)) 5 (nI cs)) 12 (nI vr)) 5 (nI cs2)) 13 as2) 14 wt2) 15 wf2) B B2 from (Thx.f (Thx.f (Thx.f (Thx.f (Bth.thx hbb2) (by omega)) (by omega)) (by omega)) (by omega))).2 h61
          have hng78 : Nng (B54 18) := h61.2 hng2
          refine lv_aload_n hx hb dX0_arguments_72 rfl (lv_at hl 6 rfl) ?_
          refine c_get (v := .ref (a 1)) (C := RX0) (Tc := TX0) (N := 13) (ci := 0) hx hb hq pin_wsX00 hown hE hP hO 24 (sg_24 G h0 a _ _ _ _ _) rfl 0 (by decide) (hq _ pw_4) (fun _ h9 => h9) rfl dX0_arguments_73 ?_
          refine lv_aload_n hx hb dX0_arguments_76 rfl (lv_at hl 4 rfl) ?_
          refine p_get (v := .ref lp) (C := RX6) (Tc := TX6) (N := 12) (ci := 12) hx hb hq pin_wsX60 hown hE hP hO (by rw [hf72]; decide) (rep_3 hf72) rfl 4 (by decide) (hq _ pw_79) (fun _ h9 => h9) (congrArg (fun z => some (va_rf z)) hf73) dX0_arguments_77 ?_
          refine lv_iload hx hb dX0_arguments_80 (lv_at hl 1 rfl) ?_
          have hO : OKP G h0 a (upd (upd (upd (upd (upd (upd F 2 (nI sz)) 5 (nI cs55)) 12 (nI vr)) 13 as56) 14 wt57) 15 wf58) (updR (updR R 2 (.ref pq)) 3 (.ref mq)) Z B54 J K53 w := hO.to rfl
          obtain ⟨qr82, hqr83⟩ := p_recv hO (by rw [hf74]; decide) (rep_5 hf74)
          refine pc_V0 (G := G) (As := [.int (nI i2)]) (rest := [.ref (a 1), .int r59, .ref x9, .ref (a 4)]) hx hb hml hown hq hE hX pX0_al hP hD hS hA hl.1 (L_get l G h0 a (upd (upd (upd (upd (upd (upd F 2 (nI sz)) 5 (nI cs55)) 12 (nI vr)) 13 as56) 14 wt57) 15 wf58) (updR (updR R 2 (.ref pq)) 3 (.ref mq)) Z B54 J K53 w lp 1 nlp itlp i2 (BdX.ls (BdE.x hbe76) (by decide) hlclp).ls (by omega) hO) (gV pw_89 pw_90 pw_91 pw_32 pw_25) hV_Jx4a65c_get_915e3 qr82 10 hqr83 rfl rfl rfl (Nat.le_of_ble_eq_true rfl) dX0_arguments_82 ⟨(by show 0 + 0 ≤ 1; omega), (by show 0 + 0 ≤ 6; omega)⟩ ⟨(by show 4 + 1 ≤ (5 * n + 32); omega), (by show 8 + (2 + 11) + 103 ≤ (200 * n + 520); omega)⟩ (fun v81 u79 H locs hw80 hP hD hS => ?_)
          obtain ⟨w, _⟩ := u79
          obtain ⟨hw80, hO⟩ := hw80
          obtain rfl : v81 = some (.ref (itlp i2)) := hw80
          have hO : OKP G h0 a (upd (upd (upd (upd (upd (upd F 2 (nI sz)) 5 (nI cs55)) 12 (nI vr)) 13 as56) 14 wt57) 15 wf58) (updR (updR R 2 (.ref pq)) 3 (.ref mq)) Z B54 J K53 w := hO.to rfl
          refine W.widen (k := 0) (n := 0) (Nat.le_of_ble_eq_true rfl) (Nat.le_of_ble_eq_true rfl) ?_
          refine W.eq (g2 := F0 m 85 ls [.ref (itlp i2), .ref (a 1), .int r59, .ref x9, .ref (a 4)]) rfl ?_
          have hf84 : K53.1 (itlp i2) = 1 := (BdX.ls (BdE.x hbe76) (by decide) hlclp).T (by omega)
          refine p_cast (C := RX7) (Tc := TX7) (N := 11) (ci := 13) hx hb hown (hq _ pw_80) hE hP hO (by rw [hf84]; decide) (rep_1 hf84) rfl dX0_arguments_85 ?_
          refine p_get (v := .int (K53.2.1 2 (itlp i2))) (C := RX7) (Tc := TX7) (N := 11) (ci := 13) hx hb hq pin_wsX70 hown hE hP hO (by rw [hf84]; decide) (rep_1 hf84) rfl 2 (by decide) (hq _ pw_82) (fun _ h9 => h9) rfl dX0_arguments_88 ?_
          have hO : OKW G h0 a (upd (upd (upd (upd (upd (upd (upd F 2 (nI sz)) 5 (nI cs55)) 12 (nI vr)) 13 as56) 14 wt57) 15 wf58) 2 (nI sz)) (updR (updR R 2 (.ref pq)) 3 (.ref mq)) Z B54 J K53.1 (fun q99 x99 => x99 = rep G a K53 q99) w := hO.to rfl
          obtain ⟨_, qr88, hqr89⟩ := hO.2.1 2 _ (sg_2 G h0 a _ _ _ _ _)
          refine pc_V0 (G := G) (As := [.int (K53.2.1 2 (itlp i2))]) (rest := [.int r59, .ref x9, .ref (a 4)]) hx hb hml hown hq hE hX pX0_al hP hD hS hA hl.1 (K_typeAt l G h0 a (upd (upd (upd (upd (upd (upd F 2 (nI sz)) 5 (nI cs55)) 12 (nI vr)) 13 as56) 14 wt57) 15 wf58) (updR (updR R 2 (.ref pq)) 3 (.ref mq)) Z B54 J K53.1 (fun q99 x99 => x99 = rep G a K53 q99) w (K53.2.1 2 (itlp i2)) sz (by omega) hO) (gV pw_92 pw_93 pw_94 pw_59 pw_36) hV_X10_typeAt qr88 7 hqr89 rfl rfl rfl (Nat.le_of_ble_eq_true rfl) dX0_arguments_91 ⟨(by show 0 + 0 ≤ 1; omega), (by show 0 + 0 ≤ 6; omega)⟩ ⟨(by show 2 + 1 ≤ (5 * n + 32); omega), (by show 8 + (2 + 11) + 60 ≤ (200 * n + 520); omega)⟩ (fun v87 u85 H locs hw86 hP hD hS => ?_)
          obtain ⟨w, r90⟩ := u85
          obtain ⟨hw86, hO⟩ := hw86
          obtain rfl : v87 = some (.int r90) := hw86
          have hO : OKP G h0 a (upd (upd (upd (upd (upd (upd F 2 (nI sz)) 5 (nI cs55)) 12 (nI vr)) 13 as56) 14 wt57) 15 wf58) (updR (updR R 2 (.ref pq)) 3 (.ref mq)) Z B54 J K53 w := hO.to rfl
          refine W.widen (k := 0) (n := 0) (Nat.le_of_ble_eq_true rfl) (Nat.le_of_ble_eq_true rfl) ?_
          refine W.eq (g2 := F0 m 94 ls [.int r90, .int r59, .ref x9, .ref (a 4)]) rfl ?_
          have hO : OKP G h0 a (upd (upd (upd (upd (upd (upd (upd (upd F 2 (nI sz)) 5 (nI cs)) 12 (nI vr)) 5 (nI cs55)) 13 as56) 14 wt57) 15 wf58) 2 (nI sz)) (updR (updR (updR R 2 (.ref pq)) 3 (.ref mq)) 2 (.ref pq)) Z B54 J K53 w := hO.to rfl
          obtain ⟨_, qr94, hqr95⟩ := hO.2.1 24 _ (sg_24 G h0 a _ _ _ _ _)
          refine pn_V0 (G := G) (As := [.ref x9, .int r59, .int r90]) (rest := []) hx hb hml hown hq hE hX pX0_al hP hD hS hA hl.1 (B_fit l G h0 a (upd (upd (upd (upd (upd (upd (upd F 2 (nI sz)) 5 (nI cs)) 12 (nI vr)) 5 (nI cs55)) 13 as56) 14 wt57) 15 wf58) (updR (updR R 2 (.ref pq)) 3 (.ref mq)) Z B54 J K53 w pq dr ml nd x9 sz r59 r90 g (by omega) (BdE.pt hbe76 hwp hps).1 (BdE.pt hbe76 hwp hps).2.1 hf75 hO hl0) (gV pw_176 pw_177 pw_178 pw_63 pw_114) hV_X0_fit qr94 0 hqr95 rfl rfl rfl (Nat.le_of_ble_eq_true rfl) dX0_arguments_94 ⟨(by show 0 + 1 ≤ 1; omega), (by show 0 + 6 ≤ 6; omega)⟩ ⟨(by show 7 + 1 ≤ (5 * n + 32); omega), (by show 8 + (4 + 11) + 122 ≤ (200 * n + 520); omega)⟩ (fun v93 u91 H locs hw92 hP hD hS => ?_) (fun ux ce9 q9 H9 locs9 hux hP9 hD9 hS9 hce hcv hcl => pb_out ux (ThQ.up (Thx.same (Thx.f (Thx.f (Thx.f (Thx.f (Bth.thx hbb77) (by omega)) (by omega)) (by omega)) (by omega)) rfl) (show RhX (updR (updR R 2 (.ref pq)) 3 (.ref mq)) (updR (updR (updR R 2 (.ref pq)) 3 (.ref mq)) 2 (.ref pq)) from fun k9 hk9 => by unfold updR; simp only [show ¬ k9 = 1 by omega, show ¬ k9 = 2 by omega, show ¬ k9 = 3 by omega, show ¬ k9 = 4 by omega, if_false]) hux) hnt hlocks hce hcv hcl hP9 hD9 hS9 (by show 0 + 1 ≤ 1; omega) (by show 0 + 6 ≤ 6; omega))
          obtain ⟨w, _⟩ := u91
          obtain ⟨hw92, hO⟩ := hw92
          obtain rfl : v93 = none := hw92
          have hO : OKP G h0 a (upd (upd (upd (upd (upd (upd F 2 (nI sz)) 5 (nI cs55)) 12 (nI vr)) 13 as56) 14 wt57) 15 wf58) (updR (updR R 2 (.ref pq)) 3 (.ref mq)) Z B54 J K53 w := hO.to rfl
          refine W.widen (k := 0) (n := 0) (by show 0 + 0 ≤ 0; omega) (by show 0 + 0 ≤ 0; omega) ?_
          refine W.eq (g2 := F0 m 97 ls []) rfl ?_
          refine lv_iinc (v := (nI (i2 + 1))) (lv' := [(5, .int (nI (i2 + 1))), (6, .ref x9), (4, .int x2), (3, .int x1), (2, .ref m2), (1, .ref q), (0, .ref (a 4))]) hx hb dX0_arguments_97 hl (k := 1) rfl (nI_1 i2) (by decide) rfl (fun ls hl => ?_)
          refine lv_aload hx hb dX0_arguments_100 (lv_at hl 1 rfl) ?_
          rcases ho97 : K53.2.2.1 4 x9 with _ | o96
          · skip
            refine p_get (v := .null) (C := RX7) (Tc := TX7) (N := 11) (ci := 13) hx hb hq pin_wsX70 hown hE hP hO (by rw [hf75]; decide) (rep_1 hf75) rfl 10 (by decide) (hq _ pw_170) (fun _ h9 => h9) (congrArg (fun z => some (va_rf z)) ho97) dX0_arguments_102 ?_
            refine lv_astoreN (lv' := [(6, .null), (5, .int (nI (i2 + 1))), (4, .int x2), (3, .int x1), (2, .ref m2), (1, .ref q), (0, .ref (a 4))]) hx hb dX0_arguments_105 hl (by decide) rfl (fun ls hl => ?_)
            refine lv_goto (tgt := 29) hx hb dX0_arguments_107 (by decide) ?_
            have hO : OKP G h0 a (upd (upd (upd (upd (upd (upd F 2 (nI sz)) 5 (nI cs55)) 12 (nI vr)) 13 as56) 14 wt57) 15 wf58) (updR (updR R 2 (.ref pq)) 3 (.ref mq)) Z B54 J K53 w := hO.to rfl
            exact ih_g (i2 + 1) none K53 B54 cs55 as56 wt57 wf58 _ _ _ _ (by omega) (by omega) hbe76 ((show Thx (upd (upd (upd F 2 (nI sz)) 5 (nI cs)) 12 (nI vr)) (upd (upd (upd (upd (upd (upd (upd F 2 (nI sz)) 5 (nI cs)) 12 (nI vr)) 5 (nI cs55)) 13 as56) 14 wt57) 15 wf58) B B54 from (Thx.f (Thx.f (Thx.f (Thx.f (Bth.thx hbb77) (by omega)) (by omega)) (by omega)) (by omega))).2) hng78 (by omega) (ArO.next (BdE.wp hbe76 hwp).1 hqL.1 ⟨hf75, hxd.2⟩ ho97) hP hD hS hO (lv_sub hl [0, 1, 2, 3, 4, 5, 6] rfl)
          · skip
            refine p_get (v := .ref o96) (C := RX7) (Tc := TX7) (N := 11) (ci := 13) hx hb hq pin_wsX70 hown hE hP hO (by rw [hf75]; decide) (rep_1 hf75) rfl 10 (by decide) (hq _ pw_170) (fun _ h9 => h9) (congrArg (fun z => some (va_rf z)) ho97) dX0_arguments_102 ?_
            refine lv_astore (lv' := [(6, .ref o96), (5, .int (nI (i2 + 1))), (4, .int x2), (3, .int x1), (2, .ref m2), (1, .ref q), (0, .ref (a 4))]) hx hb dX0_arguments_105 hl (by decide) rfl (fun ls hl => ?_)
            refine lv_goto (tgt := 29) hx hb dX0_arguments_107 (by decide) ?_
            have hO : OKP G h0 a (upd (upd (upd (upd (upd (upd F 2 (nI sz)) 5 (nI cs55)) 12 (nI vr)) 13 as56) 14 wt57) 15 wf58) (updR (updR R 2 (.ref pq)) 3 (.ref mq)) Z B54 J K53 w := hO.to rfl
            exact ih_g (i2 + 1) (some o96) K53 B54 cs55 as56 wt57 wf58 _ _ _ _ (by omega) (by omega) hbe76 ((show Thx (upd (upd (upd F 2 (nI sz)) 5 (nI cs)) 12 (nI vr)) (upd (upd (upd (upd (upd (upd (upd F 2 (nI sz)) 5 (nI cs)) 12 (nI vr)) 5 (nI cs55)) 13 as56) 14 wt57) 15 wf58) B B54 from (Thx.f (Thx.f (Thx.f (Thx.f (Bth.thx hbb77) (by omega)) (by omega)) (by omega)) (by omega))).2) hng78 (by omega) (ArO.next (BdE.wp hbe76 hwp).1 hqL.1 ⟨hf75, hxd.2⟩ ho97) hP hD hS hO (lv_sub hl [0, 1, 2, 3, 4, 5, 6] rfl)
        · have n98 : ¬ (i2 < nlp) := fun h9 => c46 ((nI_ltI (a := i2) (b := nlp) (by omega) (by omega)).mpr h9)
          refine lv_aload_n hx hb dX0_arguments_46 rfl (lv_at hl 6 rfl) ?_
          refine c_get (v := .ref (a 1)) (C := RX0) (Tc := TX0) (N := 13) (ci := 0) hx hb hq pin_wsX00 hown hE hP hO 24 (sg_24 G h0 a _ _ _ _ _) rfl 0 (by decide) (hq _ pw_4) (fun _ h9 => h9) rfl dX0_arguments_47 ?_
          refine lv_bipush (v := 12) hx hb dX0_arguments_50 (by decide) ?_
          refine lv_aload hx hb dX0_arguments_52 (lv_at hl 0 rfl) ?_
          refine p_get (v := .int (K2.2.1 2 x9)) (C := RX7) (Tc := TX7) (N := 11) (ci := 13) hx hb hq pin_wsX70 hown hE hP hO (by rw [hxT]; decide) (rep_1 hxT) rfl 2 (by decide) (hq _ pw_82) (fun _ h9 => h9) rfl dX0_arguments_54 ?_
          have hO : OKW G h0 a (upd (upd (upd (upd (upd (upd (upd (upd F 2 (nI sz)) 5 (nI cs)) 12 (nI vr)) 5 (nI cs2)) 13 as2) 14 wt2) 15 wf2) 2 (nI sz)) (updR (updR R 2 (.ref pq)) 3 (.ref mq)) Z B2 J K2.1 (fun q99 x99 => x99 = rep G a K2 q99) w := hO.to rfl
          obtain ⟨_, qr102, hqr103⟩ := hO.2.1 2 _ (sg_2 G h0 a _ _ _ _ _)
          refine pn_V0 (G := G) (As := [.int 12, .int (K2.2.1 2 x9)]) (rest := []) hx hb hml hown hq hE hX pX0_al hP hD hS hA hl.1 (K_fail l G h0 a (upd (upd (upd (upd (upd (upd (upd F 2 (nI sz)) 5 (nI cs)) 12 (nI vr)) 5 (nI cs2)) 13 as2) 14 wt2) 15 wf2) (updR (updR R 2 (.ref pq)) 3 (.ref mq)) Z B2 J K2.1 (fun q99 x99 => x99 = rep G a K2 q99) w 12 (K2.2.1 2 x9) sz (by omega) hO hl0) (gV pw_64 pw_65 pw_66 pw_59 pw_43) hV_X10_fail qr102 7 hqr103 rfl rfl rfl (Nat.le_of_ble_eq_true rfl) dX0_arguments_57 ⟨(by show 0 + 1 ≤ 1; omega), (by show 0 + 6 ≤ 6; omega)⟩ ⟨(by show 6 + 1 ≤ (5 * n + 32); omega), (by show 8 + (3 + 11) + 100 ≤ (200 * n + 520); omega)⟩ (fun v101 u99 H locs hw100 hP hD hS => hw100.elim) (fun ux ce9 q9 H9 locs9 hux hP9 hD9 hS9 hce hcv hcl => pb_out ux (ThQ.up (Thx.same (Thx.f (Thx.f (Thx.f (Thx.f (Bth.thx hbb2) (by omega)) (by omega)) (by omega)) (by omega)) rfl) RhX.rfl hux) hnt hlocks hce hcv hcl hP9 hD9 hS9 (by show 0 + 1 ≤ 1; omega) (by show 0 + 6 ≤ 6; omega))
  refine lv_aload_n hx hb dX0_arguments_23 rfl (lv_at hl 2 rfl) ?_
  rcases ho105 : K.2.2.1 1 q with _ | o104
  · skip
    refine p_get (v := .null) (C := RX7) (Tc := TX7) (N := 11) (ci := 13) hx hb hq pin_wsX70 hown hE hP hO (by rw [hqT]; decide) (rep_1 hqT) rfl 7 (by decide) (hq _ pw_169) (fun _ h9 => h9) (congrArg (fun z => some (va_rf z)) ho105) dX0_arguments_24 ?_
    refine lv_astoreN (lv' := [(6, .null), (5, .int 0), (0, .ref (a 4)), (1, .ref q), (2, .ref m2), (3, .int x1), (4, .int x2)]) hx hb dX0_arguments_27 hl (by decide) rfl (fun ls hl => ?_)
    have loop_g : ∀ (n_g : Nat) (i2 : Nat) (o2 : Option Nat) (K2 : PK) (B2 : Nat → Nat → Int32) (cs2 : Nat) (as2 : Int32) (wt2 : Int32) (wf2 : Int32) (H : Heap) (locs : List Loc) (ls : Array Slot) (w : va_W), i2 ≤ nlp → nlp + 1 ≤ i2 + n_g → (BdE K K2) → (Bth B B2) → (Nng (B2 18)) → (cs2 ≤ 10000) → (ArO K2 g q o2) → va_P G.1 pCl w H → va_D A w → va_S A s.heap H locs → OKP G h0 a (upd (upd (upd (upd (upd (upd F 2 (nI sz)) 5 (nI cs2)) 12 (nI vr)) 13 as2) 14 wt2) 15 wf2) (updR (updR R 2 (.ref pq)) 3 (.ref mq)) Z B2 J K2 w → lv_has ls 7 [(6, va_rf o2), (5, .int (nI i2)), (4, .int x2), (3, .int x1), (2, .ref m2), (1, .ref q), (0, .ref (a 4))] → W p l e (headSpec (Cond.code yX0_arguments cX0_arguments 7 (some .int) :: pw) ({ frames := (5 * n + 32), cells := 1, slots := 6, locals := (200 * n + 520) } : Room)).room s m ([.ref (a 4), .ref q, .ref m2, .int x1, .int x2] : List Value).toArray below meth c H locs 0 0 (vx_MQ below (pQn G A (fun (v : Option Value) (u : va_W × (PK × (Nat → Nat → Int32) × Nat × Int32 × Int32 × Int32 × Int32)) => v = some (.int u.2.2.2.2.2.2.2) ∧ (BdE K u.2.1) ∧ (Bth B u.2.2.1) ∧ (u.2.2.2.1 ≤ 10000) ∧ (OKP G h0 a (upd (upd (upd (upd (upd (upd F 2 (nI sz)) 5 (nI u.2.2.2.1)) 12 (nI vr)) 13 u.2.2.2.2.1) 14 u.2.2.2.2.2.1) 15 u.2.2.2.2.2.2.1) (updR (updR R 2 (.ref pq)) 3 (.ref mq)) Z u.2.2.1 J u.2.1 u.1)) (fun u => u.1) (fun (u : va_W × (PK × (Nat → Nat → Int32) × Nat × Int32 × Int32 × Int32 × Int32)) => 0) (fun (u : va_W × (PK × (Nat → Nat → Int32) × Nat × Int32 × Int32 × Int32 × Int32)) => 0)) (pXX G A (fun (u : va_W × (Nat → Int32) × (Nat → Value) × (Nat → Nat → Int32)) => ThQ G h0 a (upd (upd (upd F 2 (nI sz)) 5 (nI cs)) 12 (nI vr)) (updR (updR R 2 (.ref pq)) 3 (.ref mq)) Z B J u) (fun u => u.1)) ([.ref (a 4), .ref q, .ref m2, .int x1, .int x2] : List Value).toArray s ({ frames := (5 * n + 32), cells := 1, slots := 6, locals := (200 * n + 520) } : Room).cells ({ frames := (5 * n + 32), cells := 1, slots := 6, locals := (200 * n + 520) } : Room).slots A) (F0 m 29 ls []) := by
      intro n_g
      induction n_g with
      | zero => intro i2 o2 K2 B2 cs2 as2 wt2 wf2 H locs ls w hk_g hn_g; omega
      | succ n_g ih_g =>
        intro i2 o2 K2 B2 cs2 as2 wt2 wf2 H locs ls w hk_g hn_g hbe2 hbb2 hng2 hcs2 hpo2 hP hD hS hO hl
        have hf106 : K2.1 pq = 7 := (BdE.T hbe2 hp1 (by decide))
        have hf107 : K2.2.2.1 18 pq = some (a 1) := (BdE.C hbe2 (by rw [hp1]; decide) 18).trans hp2
        have hf108 : K2.2.2.1 14 pq = some dr := (BdE.C hbe2 (by rw [hp1]; decide) 14).trans hp3
        have hf109 : K2.1 dr = 8 := (BdE.T hbe2 hp4 (by decide))
        have hf110 : K2.2.2.1 15 pq = some ml := (BdE.C hbe2 (by rw [hp1]; decide) 15).trans hp5
        have hf111 : K2.1 ml = 5 := (BdE.T hbe2 hp6 (by decide))
        have hf112 : K2.2.1 24 pq = (nI nd) := (BdE.I hbe2 (by rw [hp1]; decide) (by decide) (by decide)).trans hp8
        have hf113 : K2.1 q = 1 := (BdE.T hbe2 hqT (by decide))
        have hf114 : K2.1 mq = 3 := (BdE.T hbe2 hmq (by decide))
        have hf115 : K2.1 m2 = 3 := (BdE.T hbe2 hm2 (by decide))
        have hf116 : K2.2.2.1 6 m2 = some lp := (BdE.C hbe2 (by rw [hm2]; decide) 6).trans hflp
        have hf117 : K2.1 lp = 5 := (BdE.T hbe2 htlp (by decide))
        rcases o2 with _ | x9
        · have hl : lv_has ls 7 [(6, .null), (5, .int (nI i2)), (4, .int x2), (3, .int x1), (2, .ref m2), (1, .ref q), (0, .ref (a 4))] := hl
          refine W.eq (g2 := F0 m 29 ls []) rfl ?_
          refine lv_aloadN hx hb dX0_arguments_29 (lv_at hl 0 rfl) ?_
          refine lv_ifnullN (tgt := 110) hx hb dX0_arguments_31 (by decide) ?_
          refine lv_iload hx hb dX0_arguments_110 (lv_at hl 1 rfl) ?_
          refine lv_aload_n hx hb dX0_arguments_112 rfl (lv_at hl 4 rfl) ?_
          refine p_get (v := .ref lp) (C := RX6) (Tc := TX6) (N := 12) (ci := 12) hx hb hq pin_wsX60 hown hE hP hO (by rw [hf115]; decide) (rep_3 hf115) rfl 4 (by decide) (hq _ pw_79) (fun _ h9 => h9) (congrArg (fun z => some (va_rf z)) hf116) dX0_arguments_113 ?_
          have hO : OKP G h0 a (upd (upd (upd (upd (upd (upd F 2 (nI sz)) 5 (nI cs2)) 12 (nI vr)) 13 as2) 14 wt2) 15 wf2) (updR (updR R 2 (.ref pq)) 3 (.ref mq)) Z B2 J K2 w := hO.to rfl
          obtain ⟨qr121, hqr122⟩ := p_recv hO (by rw [hf117]; decide) (rep_5 hf117)
          refine pc_V0 (G := G) (As := []) (rest := [.int (nI i2)]) hx hb hml hown hq hE hX pX0_al hP hD hS hA hl.1 (L_size l G h0 a (upd (upd (upd (upd (upd (upd F 2 (nI sz)) 5 (nI cs2)) 12 (nI vr)) 13 as2) 14 wt2) 15 wf2) (updR (updR R 2 (.ref pq)) 3 (.ref mq)) Z B2 J K2 w lp 1 nlp itlp (BdX.ls (BdE.x hbe2) (by decide) hlclp).ls hO) (gV pw_86 pw_87 pw_88 pw_32 pw_16) hV_Jx4a65c_size_8abf5 qr121 10 hqr122 rfl rfl rfl (Nat.le_of_ble_eq_true rfl) dX0_arguments_116 ⟨(by show 0 + 0 ≤ 1; omega), (by show 0 + 0 ≤ 6; omega)⟩ ⟨(by show 2 + 1 ≤ (5 * n + 32); omega), (by show 8 + (1 + 11) + 60 ≤ (200 * n + 520); omega)⟩ (fun v120 u118 H locs hw119 hP hD hS => ?_)
          obtain ⟨w, _⟩ := u118
          obtain ⟨hw119, hO⟩ := hw119
          obtain rfl : v120 = some (.int (nI nlp)) := hw119
          have hO : OKP G h0 a (upd (upd (upd (upd (upd (upd F 2 (nI sz)) 5 (nI cs2)) 12 (nI vr)) 13 as2) 14 wt2) 15 wf2) (updR (updR R 2 (.ref pq)) 3 (.ref mq)) Z B2 J K2 w := hO.to rfl
          refine W.widen (k := 0) (n := 0) (Nat.le_of_ble_eq_true rfl) (Nat.le_of_ble_eq_true rfl) ?_
          refine W.eq (g2 := F0 m 119 ls [.int (nI nlp), .int (nI i2)]) rfl ?_
          refine lv_icmp_ge (tgt := 135) hx hb dX0_arguments_119 (by decide) (fun c123 => ?_) (fun c123 => ?_)
          · have n124 : nlp ≤ i2 := (nI_leI (a := nlp) (b := i2) (by omega) (by omega)).mp c123
            refine lv_aload_n hx hb dX0_arguments_135 rfl (lv_at hl 6 rfl) ?_
            refine c_get (v := .ref (a 2)) (C := RX0) (Tc := TX0) (N := 13) (ci := 0) hx hb hq pin_wsX00 hown hE hP hO 24 (sg_24 G h0 a _ _ _ _ _) rfl 1 (by decide) (hq _ pw_5) (fun _ h9 => h9) rfl dX0_arguments_136 ?_
            refine lv_iload_n hx hb dX0_arguments_139 rfl (lv_at hl 3 rfl) ?_
            refine lv_iload hx hb dX0_arguments_140 (lv_at hl 2 rfl) ?_
            refine lv_iload hx hb dX0_arguments_142 (lv_at hl 1 rfl) ?_
            have hO : OKW G h0 a (upd (upd (upd (upd (upd (upd (upd F 2 (nI sz)) 5 (nI cs2)) 12 (nI vr)) 13 as2) 14 wt2) 15 wf2) 5 (nI cs2)) (updR (updR R 2 (.ref pq)) 3 (.ref mq)) Z B2 J K2.1 (fun q99 x99 => x99 = rep G a K2 q99) w := hO.to rfl
            obtain ⟨_, qr128, hqr129⟩ := hO.2.1 13 _ (sg_13 G h0 a _ _ _ _ _)
            refine pc_V0 (G := G) (As := [.int x1, .int x2, .int (nI i2)]) (rest := []) hx hb hml hown hq hE hX pX0_al hP hD hS hA hl.1 (K_emit l G h0 a (upd (upd (upd (upd (upd (upd F 2 (nI sz)) 5 (nI cs2)) 12 (nI vr)) 13 as2) 14 wt2) 15 wf2) (updR (updR R 2 (.ref pq)) 3 (.ref mq)) Z B2 J K2.1 (fun q99 x99 => x99 = rep G a K2 q99) w x1 x2 i2 cs2 (by omega) (by omega) hng2 hO) (gV pw_129 pw_130 pw_131 pw_70 pw_115) hV_X1_emit qr128 1 hqr129 rfl rfl rfl (Nat.le_of_ble_eq_true rfl) dX0_arguments_144 ⟨(by show 0 + 0 ≤ 1; omega), (by show 0 + 0 ≤ 6; omega)⟩ ⟨(by show 2 + 1 ≤ (5 * n + 32); omega), (by show 8 + (4 + 11) + 60 ≤ (200 * n + 520); omega)⟩ (fun v127 u125 H locs hw126 hP hD hS => ?_)
            obtain ⟨w, cs130, f131, f132, f133, f134⟩ := u125
            obtain ⟨hw126, h135, h136, hO⟩ := hw126
            have h135 : cs2 ≤ cs130 ∧ cs130 ≤ cs2 + 1 ∧ cs130 ≤ 10000 := h135
            have h136 : Nng f133 := h136
            obtain rfl : v127 = none := hw126
            have hO : OKP G h0 a (upd (upd (upd (upd (upd (upd F 2 (nI sz)) 5 (nI cs130)) 12 (nI vr)) 13 as2) 14 wt2) 15 wf2) (updR (updR R 2 (.ref pq)) 3 (.ref mq)) Z (updA (updA (updA (updA B2 16 f131) 17 f132) 18 f133) 19 f134) J K2 w := hO.to rfl
            refine W.widen (k := 0) (n := 0) (Nat.le_of_ble_eq_true rfl) (Nat.le_of_ble_eq_true rfl) ?_
            refine W.eq (g2 := F0 m 147 ls []) rfl ?_
            refine lv_aload_n hx hb dX0_arguments_147 rfl (lv_at hl 4 rfl) ?_
            refine p_get (v := .int (K2.2.1 10 m2)) (C := RX6) (Tc := TX6) (N := 12) (ci := 12) hx hb hq pin_wsX60 hown hE hP hO (by rw [hf115]; decide) (rep_3 hf115) rfl 7 (by decide) (hq _ pw_172) (fun _ h9 => h9) rfl dX0_arguments_148 ?_
            refine W_size (fun hz1 hz2 => ?_)
            refine vx_ret ?_
            have hz137 : BdE K K2 := hbe2
            have hz138 : Bth B (updA (updA (updA (updA B2 16 f131) 17 f132) 18 f133) 19 f134) := (show Thx (upd (upd (upd F 2 (nI sz)) 5 (nI cs)) 12 (nI vr)) (upd (upd (upd (upd (upd (upd (upd F 2 (nI sz)) 5 (nI cs)) 12 (nI vr)) 5 (nI cs130)) 13 as2) 14 wt2) 15 wf2) B (updA (updA (updA (updA B2 16 f131) 17 f132) 18 f133) 19 f134) from (Thx.b (Thx.b8 (Thx.b (Thx.b (Thx.f (Thx.f (Thx.f (Thx.f (Bth.thx hbb2) (by omega)) (by omega)) (by omega)) (by omega)) (by omega) (by decide)) (by omega) (by decide)) h136) (by omega) (by decide))).2
            have hz139 : cs130 ≤ 10000 := (by omega)
            have hO : OKP G h0 a (upd (upd (upd (upd (upd (upd F 2 (nI sz)) 5 (nI cs130)) 12 (nI vr)) 13 as2) 14 wt2) 15 wf2) (updR (updR R 2 (.ref pq)) 3 (.ref mq)) Z (updA (updA (updA (updA B2 16 f131) 17 f132) 18 f133) 19 f134) J K2 w := hO.to rfl
            refine W.widen (k := 1) (n := 6) (by omega) (by omega) ?_
            have hzz1 : H.size ≤ s.heap.size + (0) := (by have z : 0 ≤ 0 := (by omega); omega)
            have hzz2 : hSl H ≤ hSl s.heap + (0) := (by have z : 0 ≤ 0 := (by omega); omega)
            exact W.iret (v := (K2.2.1 10 m2)) hx hb hr (fun t99 ht99 hW99 => ⟨⟨_, (w, (K2, (updA (updA (updA (updA B2 16 f131) 17 f132) 18 f133) 19 f134), cs130, as2, wt2, wf2, (K2.2.1 10 m2))), rfl, ⟨rfl, hz137, hz138, hz139, hO⟩, by rw [ht99]; exact hP, hD, by rw [ht99]; exact hzz1, by rw [ht99]; exact hzz2⟩, hS.F ht99⟩) hS.2.2 dX0_arguments_151
          · have n140 : ¬ (nlp ≤ i2) := fun h9 => c123 ((nI_leI (a := nlp) (b := i2) (by omega) (by omega)).mpr h9)
            refine lv_aload_n hx hb dX0_arguments_122 rfl (lv_at hl 6 rfl) ?_
            refine c_get (v := .ref (a 1)) (C := RX0) (Tc := TX0) (N := 13) (ci := 0) hx hb hq pin_wsX00 hown hE hP hO 24 (sg_24 G h0 a _ _ _ _ _) rfl 0 (by decide) (hq _ pw_4) (fun _ h9 => h9) rfl dX0_arguments_123 ?_
            refine lv_bipush (v := 12) hx hb dX0_arguments_126 (by decide) ?_
            refine lv_aload_n hx hb dX0_arguments_128 rfl (lv_at hl 5 rfl) ?_
            refine p_get (v := .int (K2.2.1 4 q)) (C := RX7) (Tc := TX7) (N := 11) (ci := 13) hx hb hq pin_wsX70 hown hE hP hO (by rw [hf113]; decide) (rep_1 hf113) rfl 4 (by decide) (hq _ pw_171) (fun _ h9 => h9) rfl dX0_arguments_129 ?_
            have hO : OKW G h0 a (upd (upd (upd (upd (upd (upd (upd (upd F 2 (nI sz)) 5 (nI cs)) 12 (nI vr)) 5 (nI cs2)) 13 as2) 14 wt2) 15 wf2) 2 (nI sz)) (updR (updR R 2 (.ref pq)) 3 (.ref mq)) Z B2 J K2.1 (fun q99 x99 => x99 = rep G a K2 q99) w := hO.to rfl
            obtain ⟨_, qr144, hqr145⟩ := hO.2.1 2 _ (sg_2 G h0 a _ _ _ _ _)
            refine pn_V0 (G := G) (As := [.int 12, .int (K2.2.1 4 q)]) (rest := []) hx hb hml hown hq hE hX pX0_al hP hD hS hA hl.1 (K_fail l G h0 a (upd (upd (upd (upd (upd (upd (upd F 2 (nI sz)) 5 (nI cs)) 12 (nI vr)) 5 (nI cs2)) 13 as2) 14 wt2) 15 wf2) (updR (updR R 2 (.ref pq)) 3 (.ref mq)) Z B2 J K2.1 (fun q99 x99 => x99 = rep G a K2 q99) w 12 (K2.2.1 4 q) sz (by omega) hO hl0) (gV pw_64 pw_65 pw_66 pw_59 pw_43) hV_X10_fail qr144 7 hqr145 rfl rfl rfl (Nat.le_of_ble_eq_true rfl) dX0_arguments_132 ⟨(by show 0 + 1 ≤ 1; omega), (by show 0 + 6 ≤ 6; omega)⟩ ⟨(by show 6 + 1 ≤ (5 * n + 32); omega), (by show 8 + (3 + 11) + 100 ≤ (200 * n + 520); omega)⟩ (fun v143 u141 H locs hw142 hP hD hS => hw142.elim) (fun ux ce9 q9 H9 locs9 hux hP9 hD9 hS9 hce hcv hcl => pb_out ux (ThQ.up (Thx.same (Thx.f (Thx.f (Thx.f (Thx.f (Bth.thx hbb2) (by omega)) (by omega)) (by omega)) (by omega)) rfl) RhX.rfl hux) hnt hlocks hce hcv hcl hP9 hD9 hS9 (by show 0 + 1 ≤ 1; omega) (by show 0 + 6 ≤ 6; omega))
        · have hl : lv_has ls 7 [(6, .ref x9), (5, .int (nI i2)), (4, .int x2), (3, .int x1), (2, .ref m2), (1, .ref q), (0, .ref (a 4))] := hl
          refine W.eq (g2 := F0 m 29 ls []) rfl ?_
          have hxd := hpo2 x9 rfl
          have hxT := hxd.1
          have hxv : 1 ≤ g 0 x9 ∧ g 0 x9 + 1 ≤ n := ⟨hxd.2.1, (by have z := hxd.2.2.1; omega)⟩
          refine lv_aload hx hb dX0_arguments_29 (lv_at hl 0 rfl) ?_
          refine lv_ifnull hx hb dX0_arguments_31 ?_
          refine lv_iload hx hb dX0_arguments_34 (lv_at hl 1 rfl) ?_
          refine lv_aload_n hx hb dX0_arguments_36 rfl (lv_at hl 4 rfl) ?_
          refine p_get (v := .ref lp) (C := RX6) (Tc := TX6) (N := 12) (ci := 12) hx hb hq pin_wsX60 hown hE hP hO (by rw [hf115]; decide) (rep_3 hf115) rfl 4 (by decide) (hq _ pw_79) (fun _ h9 => h9) (congrArg (fun z => some (va_rf z)) hf116) dX0_arguments_37 ?_
          have hO : OKP G h0 a (upd (upd (upd (upd (upd (upd F 2 (nI sz)) 5 (nI cs2)) 12 (nI vr)) 13 as2) 14 wt2) 15 wf2) (updR (updR R 2 (.ref pq)) 3 (.ref mq)) Z B2 J K2 w := hO.to rfl
          obtain ⟨qr149, hqr150⟩ := p_recv hO (by rw [hf117]; decide) (rep_5 hf117)
          refine pc_V0 (G := G) (As := []) (rest := [.int (nI i2)]) hx hb hml hown hq hE hX pX0_al hP hD hS hA hl.1 (L_size l G h0 a (upd (upd (upd (upd (upd (upd F 2 (nI sz)) 5 (nI cs2)) 12 (nI vr)) 13 as2) 14 wt2) 15 wf2) (updR (updR R 2 (.ref pq)) 3 (.ref mq)) Z B2 J K2 w lp 1 nlp itlp (BdX.ls (BdE.x hbe2) (by decide) hlclp).ls hO) (gV pw_86 pw_87 pw_88 pw_32 pw_16) hV_Jx4a65c_size_8abf5 qr149 10 hqr150 rfl rfl rfl (Nat.le_of_ble_eq_true rfl) dX0_arguments_40 ⟨(by show 0 + 0 ≤ 1; omega), (by show 0 + 0 ≤ 6; omega)⟩ ⟨(by show 2 + 1 ≤ (5 * n + 32); omega), (by show 8 + (1 + 11) + 60 ≤ (200 * n + 520); omega)⟩ (fun v148 u146 H locs hw147 hP hD hS => ?_)
          obtain ⟨w, _⟩ := u146
          obtain ⟨hw147, hO⟩ := hw147
          obtain rfl : v148 = some (.int (nI nlp)) := hw147
          have hO : OKP G h0 a (upd (upd (upd (upd (upd (upd F 2 (nI sz)) 5 (nI cs2)) 12 (nI vr)) 13 as2) 14 wt2) 15 wf2) (updR (updR R 2 (.ref pq)) 3 (.ref mq)) Z B2 J K2 w := hO.to rfl
          refine W.widen (k := 0) (n := 0) (Nat.le_of_ble_eq_true rfl) (Nat.le_of_ble_eq_true rfl) ?_
          refine W.eq (g2 := F0 m 43 ls [.int (nI nlp), .int (nI i2)]) rfl ?_
          refine lv_icmp_lt (tgt := 63) hx hb dX0_arguments_43 (by decide) (fun c151 => ?_) (fun c151 => ?_)
          · have n152 : i2 < nlp := (nI_ltI (a := i2) (b := nlp) (by omega) (by omega)).mp c151
            refine lv_aload_n hx hb dX0_arguments_63 rfl (lv_at hl 6 rfl) ?_
            refine lv_aload hx hb dX0_arguments_64 (lv_at hl 0 rfl) ?_
            refine lv_aload_n hx hb dX0_arguments_66 rfl (lv_at hl 6 rfl) ?_
            refine lv_aload hx hb dX0_arguments_67 (lv_at hl 0 rfl) ?_
            have hO : OKP G h0 a (upd (upd (upd (upd (upd (upd (upd (upd (upd (upd F 2 (nI sz)) 5 (nI cs)) 12 (nI vr)) 5 (nI cs2)) 13 as2) 14 wt2) 15 wf2) 2 (nI sz)) 5 (nI cs2)) 12 (nI vr)) (updR (updR (updR (updR R 2 (.ref pq)) 3 (.ref mq)) 2 (.ref pq)) 3 (.ref mq)) Z B2 J K2 w := hO.to rfl
            obtain ⟨_, qr156, hqr157⟩ := hO.2.1 24 _ (sg_24 G h0 a _ _ _ _ _)
            refine pn_V0 (G := G) (As := [.ref x9]) (rest := [.ref x9, .ref (a 4)]) hx hb hml hown hq hE hX pX0_al hP hD hS hA hl.1 ((ihv (by omega)) h0 a (upd (upd (upd (upd (upd (upd (upd F 2 (nI sz)) 5 (nI cs)) 12 (nI vr)) 5 (nI cs2)) 13 as2) 14 wt2) 15 wf2) (updR (updR R 2 (.ref pq)) 3 (.ref mq)) Z B2 J K2 w pq dr ml nd nm cp it s9 x9 mq cs2 vr sz g rk (by omega) (BdE.wp hbe2 hwp) (BdE.pt hbe2 hwp hps) (BdE.rko hbe2 hrk) (by omega) (by omega) hng2 hf114 hxT ⟨hxv.1, (by have z9 := hxv; omega)⟩ hO hl0) (gV pw_173 pw_174 pw_175 pw_63 pw_224) hV_X0_value qr156 0 hqr157 rfl rfl rfl (Nat.le_of_ble_eq_true rfl) dX0_arguments_69 ⟨(by show 0 + 1 ≤ 1; omega), (by show 0 + 6 ≤ 6; omega)⟩ ⟨(by show (5 * (n - 1) + 34) + 1 ≤ (5 * n + 32); omega), (by show 8 + (3 + 11) + (200 * (n - 1) + 600) ≤ (200 * n + 520); omega)⟩ (fun v155 u153 H locs hw154 hP hD hS => ?_) (fun ux ce9 q9 H9 locs9 hux hP9 hD9 hS9 hce hcv hcl => pb_out ux (ThQ.up (Thx.same (Thx.same (Thx.same (Thx.f (Thx.f (Thx.f (Thx.f (Bth.thx hbb2) (by omega)) (by omega)) (by omega)) (by omega)) rfl) rfl) rfl) (show RhX (updR (updR R 2 (.ref pq)) 3 (.ref mq)) (updR (updR (updR (updR R 2 (.ref pq)) 3 (.ref mq)) 2 (.ref pq)) 3 (.ref mq)) from fun k9 hk9 => by unfold updR; simp only [show ¬ k9 = 1 by omega, show ¬ k9 = 2 by omega, show ¬ k9 = 3 by omega, show ¬ k9 = 4 by omega, if_false]) hux) hnt hlocks hce hcv hcl hP9 hD9 hS9 (by show 0 + 1 ≤ 1; omega) (by show 0 + 6 ≤ 6; omega))
            obtain ⟨w, K158, B159, cs160, as161, wt162, wf163, r164⟩ := u153
            obtain ⟨hw154, h165, h166, h167, hO⟩ := hw154
            have h165 : BdE K2 K158 := h165
            have h166 : Bth B2 B159 := h166
            have h167 : cs160 ≤ 10000 := h167
            obtain rfl : v155 = some (.int r164) := hw154
            have hf168 : K158.1 pq = 7 := (BdE.T h165 hf106 (by decide))
            have hf169 : K158.2.2.1 18 pq = some (a 1) := (BdE.C h165 (by rw [hf106]; decide) 18).trans hf107
            have hf170 : K158.2.2.1 14 pq = some dr := (BdE.C h165 (by rw [hf106]; decide) 14).trans hf108
            have hf171 : K158.1 dr = 8 := (BdE.T h165 hf109 (by decide))
            have hf172 : K158.2.2.1 15 pq = some ml := (BdE.C h165 (by rw [hf106]; decide) 15).trans hf110
            have hf173 : K158.1 ml = 5 := (BdE.T h165 hf111 (by decide))
            have hf174 : K158.2.1 24 pq = (nI nd) := (BdE.I h165 (by rw [hf106]; decide) (by decide) (by decide)).trans hf112
            have hf175 : K158.1 q = 1 := (BdE.T h165 hf113 (by decide))
            have hf176 : K158.1 mq = 3 := (BdE.T h165 hf114 (by decide))
            have hf177 : K158.1 m2 = 3 := (BdE.T h165 hf115 (by decide))
            have hf178 : K158.2.2.1 6 m2 = some lp := (BdE.C h165 (by rw [hf115]; decide) 6).trans hf116
            have hf179 : K158.1 lp = 5 := (BdE.T h165 hf117 (by decide))
            have hf180 : K158.1 x9 = 1 := (BdE.T h165 hxT (by decide))
            have hO : OKP G h0 a (upd (upd (upd (upd (upd (upd F 2 (nI sz)) 5 (nI cs160)) 12 (nI vr)) 13 as161) 14 wt162) 15 wf163) (updR (updR R 2 (.ref pq)) 3 (.ref mq)) Z B159 J K158 w := hO.to rfl
            refine W.widen (k := 0) (n := 0) (by show 0 + 0 ≤ 0; omega) (by show 0 + 0 ≤ 0; omega) ?_
            refine W.eq (g2 := F0 m 72 ls [.int r164, .ref x9, .ref (a 4)]) rfl ?_
            have hbe181 := BdE.trans hbe2 h165
            have hbb182 : Bth B B159 := Bth.trans (show Thx (upd (upd (upd F 2 (nI sz)) 5 (nI cs)) 12 (nI vr)) (upd (upd (upd (upd (upd (upd (upd F 2 (nI sz)) 5 (nI cs)) 12 (nI vr)) 5 (nI cs2)) 13 as2) 14 wt2) 15 wf2) B B2 from (Thx.f (Thx.f (Thx.f (Thx.f (Bth.thx hbb2) (by omega)) (by omega)) (by omega)) (by omega))).2 h166
            have hng183 : Nng (B159 18) := h166.2 hng2
            refine lv_aload_n hx hb dX0_arguments_72 rfl (lv_at hl 6 rfl) ?_
            refine c_get (v := .ref (a 1)) (C := RX0) (Tc := TX0) (N := 13) (ci := 0) hx hb hq pin_wsX00 hown hE hP hO 24 (sg_24 G h0 a _ _ _ _ _) rfl 0 (by decide) (hq _ pw_4) (fun _ h9 => h9) rfl dX0_arguments_73 ?_
            refine lv_aload_n hx hb dX0_arguments_76 rfl (lv_at hl 4 rfl) ?_
            refine p_get (v := .ref lp) (C := RX6) (Tc := TX6) (N := 12) (ci := 12) hx hb hq pin_wsX60 hown hE hP hO (by rw [hf177]; decide) (rep_3 hf177) rfl 4 (by decide) (hq _ pw_79) (fun _ h9 => h9) (congrArg (fun z => some (va_rf z)) hf178) dX0_arguments_77 ?_
            refine lv_iload hx hb dX0_arguments_80 (lv_at hl 1 rfl) ?_
            have hO : OKP G h0 a (upd (upd (upd (upd (upd (upd F 2 (nI sz)) 5 (nI cs160)) 12 (nI vr)) 13 as161) 14 wt162) 15 wf163) (updR (updR R 2 (.ref pq)) 3 (.ref mq)) Z B159 J K158 w := hO.to rfl
            obtain ⟨qr187, hqr188⟩ := p_recv hO (by rw [hf179]; decide) (rep_5 hf179)
            refine pc_V0 (G := G) (As := [.int (nI i2)]) (rest := [.ref (a 1), .int r164, .ref x9, .ref (a 4)]) hx hb hml hown hq hE hX pX0_al hP hD hS hA hl.1 (L_get l G h0 a (upd (upd (upd (upd (upd (upd F 2 (nI sz)) 5 (nI cs160)) 12 (nI vr)) 13 as161) 14 wt162) 15 wf163) (updR (updR R 2 (.ref pq)) 3 (.ref mq)) Z B159 J K158 w lp 1 nlp itlp i2 (BdX.ls (BdE.x hbe181) (by decide) hlclp).ls (by omega) hO) (gV pw_89 pw_90 pw_91 pw_32 pw_25) hV_Jx4a65c_get_915e3 qr187 10 hqr188 rfl rfl rfl (Nat.le_of_ble_eq_true rfl) dX0_arguments_82 ⟨(by show 0 + 0 ≤ 1; omega), (by show 0 + 0 ≤ 6; omega)⟩ ⟨(by show 4 + 1 ≤ (5 * n + 32); omega), (by show 8 + (2 + 11) + 103 ≤ (200 * n + 520); omega)⟩ (fun v186 u184 H locs hw185 hP hD hS => ?_)
            obtain ⟨w, _⟩ := u184
            obtain ⟨hw185, hO⟩ := hw185
            obtain rfl : v186 = some (.ref (itlp i2)) := hw185
            have hO : OKP G h0 a (upd (upd (upd (upd (upd (upd F 2 (nI sz)) 5 (nI cs160)) 12 (nI vr)) 13 as161) 14 wt162) 15 wf163) (updR (updR R 2 (.ref pq)) 3 (.ref mq)) Z B159 J K158 w := hO.to rfl
            refine W.widen (k := 0) (n := 0) (Nat.le_of_ble_eq_true rfl) (Nat.le_of_ble_eq_true rfl) ?_
            refine W.eq (g2 := F0 m 85 ls [.ref (itlp i2), .ref (a 1), .int r164, .ref x9, .ref (a 4)]) rfl ?_
            have hf189 : K158.1 (itlp i2) = 1 := (BdX.ls (BdE.x hbe181) (by decide) hlclp).T (by omega)
            refine p_cast (C := RX7) (Tc := TX7) (N := 11) (ci := 13) hx hb hown (hq _ pw_80) hE hP hO (by rw [hf189]; decide) (rep_1 hf189) rfl dX0_arguments_85 ?_
            refine p_get (v := .int (K158.2.1 2 (itlp i2))) (C := RX7) (Tc := TX7) (N := 11) (ci := 13) hx hb hq pin_wsX70 hown hE hP hO (by rw [hf189]; decide) (rep_1 hf189) rfl 2 (by decide) (hq _ pw_82) (fun _ h9 => h9) rfl dX0_arguments_88 ?_
            have hO : OKW G h0 a (upd (upd (upd (upd (upd (upd (upd F 2 (nI sz)) 5 (nI cs160)) 12 (nI vr)) 13 as161) 14 wt162) 15 wf163) 2 (nI sz)) (updR (updR R 2 (.ref pq)) 3 (.ref mq)) Z B159 J K158.1 (fun q99 x99 => x99 = rep G a K158 q99) w := hO.to rfl
            obtain ⟨_, qr193, hqr194⟩ := hO.2.1 2 _ (sg_2 G h0 a _ _ _ _ _)
            refine pc_V0 (G := G) (As := [.int (K158.2.1 2 (itlp i2))]) (rest := [.int r164, .ref x9, .ref (a 4)]) hx hb hml hown hq hE hX pX0_al hP hD hS hA hl.1 (K_typeAt l G h0 a (upd (upd (upd (upd (upd (upd F 2 (nI sz)) 5 (nI cs160)) 12 (nI vr)) 13 as161) 14 wt162) 15 wf163) (updR (updR R 2 (.ref pq)) 3 (.ref mq)) Z B159 J K158.1 (fun q99 x99 => x99 = rep G a K158 q99) w (K158.2.1 2 (itlp i2)) sz (by omega) hO) (gV pw_92 pw_93 pw_94 pw_59 pw_36) hV_X10_typeAt qr193 7 hqr194 rfl rfl rfl (Nat.le_of_ble_eq_true rfl) dX0_arguments_91 ⟨(by show 0 + 0 ≤ 1; omega), (by show 0 + 0 ≤ 6; omega)⟩ ⟨(by show 2 + 1 ≤ (5 * n + 32); omega), (by show 8 + (2 + 11) + 60 ≤ (200 * n + 520); omega)⟩ (fun v192 u190 H locs hw191 hP hD hS => ?_)
            obtain ⟨w, r195⟩ := u190
            obtain ⟨hw191, hO⟩ := hw191
            obtain rfl : v192 = some (.int r195) := hw191
            have hO : OKP G h0 a (upd (upd (upd (upd (upd (upd F 2 (nI sz)) 5 (nI cs160)) 12 (nI vr)) 13 as161) 14 wt162) 15 wf163) (updR (updR R 2 (.ref pq)) 3 (.ref mq)) Z B159 J K158 w := hO.to rfl
            refine W.widen (k := 0) (n := 0) (Nat.le_of_ble_eq_true rfl) (Nat.le_of_ble_eq_true rfl) ?_
            refine W.eq (g2 := F0 m 94 ls [.int r195, .int r164, .ref x9, .ref (a 4)]) rfl ?_
            have hO : OKP G h0 a (upd (upd (upd (upd (upd (upd (upd (upd F 2 (nI sz)) 5 (nI cs)) 12 (nI vr)) 5 (nI cs160)) 13 as161) 14 wt162) 15 wf163) 2 (nI sz)) (updR (updR (updR R 2 (.ref pq)) 3 (.ref mq)) 2 (.ref pq)) Z B159 J K158 w := hO.to rfl
            obtain ⟨_, qr199, hqr200⟩ := hO.2.1 24 _ (sg_24 G h0 a _ _ _ _ _)
            refine pn_V0 (G := G) (As := [.ref x9, .int r164, .int r195]) (rest := []) hx hb hml hown hq hE hX pX0_al hP hD hS hA hl.1 (B_fit l G h0 a (upd (upd (upd (upd (upd (upd (upd F 2 (nI sz)) 5 (nI cs)) 12 (nI vr)) 5 (nI cs160)) 13 as161) 14 wt162) 15 wf163) (updR (updR R 2 (.ref pq)) 3 (.ref mq)) Z B159 J K158 w pq dr ml nd x9 sz r164 r195 g (by omega) (BdE.pt hbe181 hwp hps).1 (BdE.pt hbe181 hwp hps).2.1 hf180 hO hl0) (gV pw_176 pw_177 pw_178 pw_63 pw_114) hV_X0_fit qr199 0 hqr200 rfl rfl rfl (Nat.le_of_ble_eq_true rfl) dX0_arguments_94 ⟨(by show 0 + 1 ≤ 1; omega), (by show 0 + 6 ≤ 6; omega)⟩ ⟨(by show 7 + 1 ≤ (5 * n + 32); omega), (by show 8 + (4 + 11) + 122 ≤ (200 * n + 520); omega)⟩ (fun v198 u196 H locs hw197 hP hD hS => ?_) (fun ux ce9 q9 H9 locs9 hux hP9 hD9 hS9 hce hcv hcl => pb_out ux (ThQ.up (Thx.same (Thx.f (Thx.f (Thx.f (Thx.f (Bth.thx hbb182) (by omega)) (by omega)) (by omega)) (by omega)) rfl) (show RhX (updR (updR R 2 (.ref pq)) 3 (.ref mq)) (updR (updR (updR R 2 (.ref pq)) 3 (.ref mq)) 2 (.ref pq)) from fun k9 hk9 => by unfold updR; simp only [show ¬ k9 = 1 by omega, show ¬ k9 = 2 by omega, show ¬ k9 = 3 by omega, show ¬ k9 = 4 by omega, if_false]) hux) hnt hlocks hce hcv hcl hP9 hD9 hS9 (by show 0 + 1 ≤ 1; omega) (by show 0 + 6 ≤ 6; omega))
            obtain ⟨w, _⟩ := u196
            obtain ⟨hw197, hO⟩ := hw197
            obtain rfl : v198 = none := hw197
            have hO : OKP G h0 a (upd (upd (upd (upd (upd (upd F 2 (nI sz)) 5 (nI cs160)) 12 (nI vr)) 13 as161) 14 wt162) 15 wf163) (updR (updR R 2 (.ref pq)) 3 (.ref mq)) Z B159 J K158 w := hO.to rfl
            refine W.widen (k := 0) (n := 0) (by show 0 + 0 ≤ 0; omega) (by show 0 + 0 ≤ 0; omega) ?_
            refine W.eq (g2 := F0 m 97 ls []) rfl ?_
            refine lv_iinc (v := (nI (i2 + 1))) (lv' := [(5, .int (nI (i2 + 1))), (6, .ref x9), (4, .int x2), (3, .int x1), (2, .ref m2), (1, .ref q), (0, .ref (a 4))]) hx hb dX0_arguments_97 hl (k := 1) rfl (nI_1 i2) (by decide) rfl (fun ls hl => ?_)
            refine lv_aload hx hb dX0_arguments_100 (lv_at hl 1 rfl) ?_
            rcases ho202 : K158.2.2.1 4 x9 with _ | o201
            · skip
              refine p_get (v := .null) (C := RX7) (Tc := TX7) (N := 11) (ci := 13) hx hb hq pin_wsX70 hown hE hP hO (by rw [hf180]; decide) (rep_1 hf180) rfl 10 (by decide) (hq _ pw_170) (fun _ h9 => h9) (congrArg (fun z => some (va_rf z)) ho202) dX0_arguments_102 ?_
              refine lv_astoreN (lv' := [(6, .null), (5, .int (nI (i2 + 1))), (4, .int x2), (3, .int x1), (2, .ref m2), (1, .ref q), (0, .ref (a 4))]) hx hb dX0_arguments_105 hl (by decide) rfl (fun ls hl => ?_)
              refine lv_goto (tgt := 29) hx hb dX0_arguments_107 (by decide) ?_
              have hO : OKP G h0 a (upd (upd (upd (upd (upd (upd F 2 (nI sz)) 5 (nI cs160)) 12 (nI vr)) 13 as161) 14 wt162) 15 wf163) (updR (updR R 2 (.ref pq)) 3 (.ref mq)) Z B159 J K158 w := hO.to rfl
              exact ih_g (i2 + 1) none K158 B159 cs160 as161 wt162 wf163 _ _ _ _ (by omega) (by omega) hbe181 ((show Thx (upd (upd (upd F 2 (nI sz)) 5 (nI cs)) 12 (nI vr)) (upd (upd (upd (upd (upd (upd (upd F 2 (nI sz)) 5 (nI cs)) 12 (nI vr)) 5 (nI cs160)) 13 as161) 14 wt162) 15 wf163) B B159 from (Thx.f (Thx.f (Thx.f (Thx.f (Bth.thx hbb182) (by omega)) (by omega)) (by omega)) (by omega))).2) hng183 (by omega) (ArO.next (BdE.wp hbe181 hwp).1 hqL.1 ⟨hf180, hxd.2⟩ ho202) hP hD hS hO (lv_sub hl [0, 1, 2, 3, 4, 5, 6] rfl)
            · skip
              refine p_get (v := .ref o201) (C := RX7) (Tc := TX7) (N := 11) (ci := 13) hx hb hq pin_wsX70 hown hE hP hO (by rw [hf180]; decide) (rep_1 hf180) rfl 10 (by decide) (hq _ pw_170) (fun _ h9 => h9) (congrArg (fun z => some (va_rf z)) ho202) dX0_arguments_102 ?_
              refine lv_astore (lv' := [(6, .ref o201), (5, .int (nI (i2 + 1))), (4, .int x2), (3, .int x1), (2, .ref m2), (1, .ref q), (0, .ref (a 4))]) hx hb dX0_arguments_105 hl (by decide) rfl (fun ls hl => ?_)
              refine lv_goto (tgt := 29) hx hb dX0_arguments_107 (by decide) ?_
              have hO : OKP G h0 a (upd (upd (upd (upd (upd (upd F 2 (nI sz)) 5 (nI cs160)) 12 (nI vr)) 13 as161) 14 wt162) 15 wf163) (updR (updR R 2 (.ref pq)) 3 (.ref mq)) Z B159 J K158 w := hO.to rfl
              exact ih_g (i2 + 1) (some o201) K158 B159 cs160 as161 wt162 wf163 _ _ _ _ (by omega) (by omega) hbe181 ((show Thx (upd (upd (upd F 2 (nI sz)) 5 (nI cs)) 12 (nI vr)) (upd (upd (upd (upd (upd (upd (upd F 2 (nI sz)) 5 (nI cs)) 12 (nI vr)) 5 (nI cs160)) 13 as161) 14 wt162) 15 wf163) B B159 from (Thx.f (Thx.f (Thx.f (Thx.f (Bth.thx hbb182) (by omega)) (by omega)) (by omega)) (by omega))).2) hng183 (by omega) (ArO.next (BdE.wp hbe181 hwp).1 hqL.1 ⟨hf180, hxd.2⟩ ho202) hP hD hS hO (lv_sub hl [0, 1, 2, 3, 4, 5, 6] rfl)
          · have n203 : ¬ (i2 < nlp) := fun h9 => c151 ((nI_ltI (a := i2) (b := nlp) (by omega) (by omega)).mpr h9)
            refine lv_aload_n hx hb dX0_arguments_46 rfl (lv_at hl 6 rfl) ?_
            refine c_get (v := .ref (a 1)) (C := RX0) (Tc := TX0) (N := 13) (ci := 0) hx hb hq pin_wsX00 hown hE hP hO 24 (sg_24 G h0 a _ _ _ _ _) rfl 0 (by decide) (hq _ pw_4) (fun _ h9 => h9) rfl dX0_arguments_47 ?_
            refine lv_bipush (v := 12) hx hb dX0_arguments_50 (by decide) ?_
            refine lv_aload hx hb dX0_arguments_52 (lv_at hl 0 rfl) ?_
            refine p_get (v := .int (K2.2.1 2 x9)) (C := RX7) (Tc := TX7) (N := 11) (ci := 13) hx hb hq pin_wsX70 hown hE hP hO (by rw [hxT]; decide) (rep_1 hxT) rfl 2 (by decide) (hq _ pw_82) (fun _ h9 => h9) rfl dX0_arguments_54 ?_
            have hO : OKW G h0 a (upd (upd (upd (upd (upd (upd (upd (upd F 2 (nI sz)) 5 (nI cs)) 12 (nI vr)) 5 (nI cs2)) 13 as2) 14 wt2) 15 wf2) 2 (nI sz)) (updR (updR R 2 (.ref pq)) 3 (.ref mq)) Z B2 J K2.1 (fun q99 x99 => x99 = rep G a K2 q99) w := hO.to rfl
            obtain ⟨_, qr207, hqr208⟩ := hO.2.1 2 _ (sg_2 G h0 a _ _ _ _ _)
            refine pn_V0 (G := G) (As := [.int 12, .int (K2.2.1 2 x9)]) (rest := []) hx hb hml hown hq hE hX pX0_al hP hD hS hA hl.1 (K_fail l G h0 a (upd (upd (upd (upd (upd (upd (upd F 2 (nI sz)) 5 (nI cs)) 12 (nI vr)) 5 (nI cs2)) 13 as2) 14 wt2) 15 wf2) (updR (updR R 2 (.ref pq)) 3 (.ref mq)) Z B2 J K2.1 (fun q99 x99 => x99 = rep G a K2 q99) w 12 (K2.2.1 2 x9) sz (by omega) hO hl0) (gV pw_64 pw_65 pw_66 pw_59 pw_43) hV_X10_fail qr207 7 hqr208 rfl rfl rfl (Nat.le_of_ble_eq_true rfl) dX0_arguments_57 ⟨(by show 0 + 1 ≤ 1; omega), (by show 0 + 6 ≤ 6; omega)⟩ ⟨(by show 6 + 1 ≤ (5 * n + 32); omega), (by show 8 + (3 + 11) + 100 ≤ (200 * n + 520); omega)⟩ (fun v206 u204 H locs hw205 hP hD hS => hw205.elim) (fun ux ce9 q9 H9 locs9 hux hP9 hD9 hS9 hce hcv hcl => pb_out ux (ThQ.up (Thx.same (Thx.f (Thx.f (Thx.f (Thx.f (Bth.thx hbb2) (by omega)) (by omega)) (by omega)) (by omega)) rfl) RhX.rfl hux) hnt hlocks hce hcv hcl hP9 hD9 hS9 (by show 0 + 1 ≤ 1; omega) (by show 0 + 6 ≤ 6; omega))
    have hO : OKP G h0 a (upd (upd (upd (upd (upd (upd F 2 (nI sz)) 5 (nI cs)) 12 (nI vr)) 13 (F 13)) 14 (F 14)) 15 (F 15)) (updR (updR R 2 (.ref pq)) 3 (.ref mq)) Z B J K w := hO.to rfl
    exact loop_g (nlp + 1) 0 none K B cs (F 13) (F 14) (F 15) _ _ _ _ (by omega) (by omega) BdE.rfl ((show Thx (upd (upd (upd F 2 (nI sz)) 5 (nI cs)) 12 (nI vr)) (upd (upd (upd F 2 (nI sz)) 5 (nI cs)) 12 (nI vr)) B B from Thx.rfl).2) hng (by omega) (ArO.first (hwp.1 q hqT hqL.1) (by decide) hls ho105) hP hD hS hO (lv_sub hl [0, 1, 6, 5, 4, 3, 2] rfl)
  · skip
    refine p_get (v := .ref o104) (C := RX7) (Tc := TX7) (N := 11) (ci := 13) hx hb hq pin_wsX70 hown hE hP hO (by rw [hqT]; decide) (rep_1 hqT) rfl 7 (by decide) (hq _ pw_169) (fun _ h9 => h9) (congrArg (fun z => some (va_rf z)) ho105) dX0_arguments_24 ?_
    refine lv_astore (lv' := [(6, .ref o104), (5, .int 0), (0, .ref (a 4)), (1, .ref q), (2, .ref m2), (3, .int x1), (4, .int x2)]) hx hb dX0_arguments_27 hl (by decide) rfl (fun ls hl => ?_)
    have loop_g : ∀ (n_g : Nat) (i2 : Nat) (o2 : Option Nat) (K2 : PK) (B2 : Nat → Nat → Int32) (cs2 : Nat) (as2 : Int32) (wt2 : Int32) (wf2 : Int32) (H : Heap) (locs : List Loc) (ls : Array Slot) (w : va_W), i2 ≤ nlp → nlp + 1 ≤ i2 + n_g → (BdE K K2) → (Bth B B2) → (Nng (B2 18)) → (cs2 ≤ 10000) → (ArO K2 g q o2) → va_P G.1 pCl w H → va_D A w → va_S A s.heap H locs → OKP G h0 a (upd (upd (upd (upd (upd (upd F 2 (nI sz)) 5 (nI cs2)) 12 (nI vr)) 13 as2) 14 wt2) 15 wf2) (updR (updR R 2 (.ref pq)) 3 (.ref mq)) Z B2 J K2 w → lv_has ls 7 [(6, va_rf o2), (5, .int (nI i2)), (4, .int x2), (3, .int x1), (2, .ref m2), (1, .ref q), (0, .ref (a 4))] → W p l e (headSpec (Cond.code yX0_arguments cX0_arguments 7 (some .int) :: pw) ({ frames := (5 * n + 32), cells := 1, slots := 6, locals := (200 * n + 520) } : Room)).room s m ([.ref (a 4), .ref q, .ref m2, .int x1, .int x2] : List Value).toArray below meth c H locs 0 0 (vx_MQ below (pQn G A (fun (v : Option Value) (u : va_W × (PK × (Nat → Nat → Int32) × Nat × Int32 × Int32 × Int32 × Int32)) => v = some (.int u.2.2.2.2.2.2.2) ∧ (BdE K u.2.1) ∧ (Bth B u.2.2.1) ∧ (u.2.2.2.1 ≤ 10000) ∧ (OKP G h0 a (upd (upd (upd (upd (upd (upd F 2 (nI sz)) 5 (nI u.2.2.2.1)) 12 (nI vr)) 13 u.2.2.2.2.1) 14 u.2.2.2.2.2.1) 15 u.2.2.2.2.2.2.1) (updR (updR R 2 (.ref pq)) 3 (.ref mq)) Z u.2.2.1 J u.2.1 u.1)) (fun u => u.1) (fun (u : va_W × (PK × (Nat → Nat → Int32) × Nat × Int32 × Int32 × Int32 × Int32)) => 0) (fun (u : va_W × (PK × (Nat → Nat → Int32) × Nat × Int32 × Int32 × Int32 × Int32)) => 0)) (pXX G A (fun (u : va_W × (Nat → Int32) × (Nat → Value) × (Nat → Nat → Int32)) => ThQ G h0 a (upd (upd (upd F 2 (nI sz)) 5 (nI cs)) 12 (nI vr)) (updR (updR R 2 (.ref pq)) 3 (.ref mq)) Z B J u) (fun u => u.1)) ([.ref (a 4), .ref q, .ref m2, .int x1, .int x2] : List Value).toArray s ({ frames := (5 * n + 32), cells := 1, slots := 6, locals := (200 * n + 520) } : Room).cells ({ frames := (5 * n + 32), cells := 1, slots := 6, locals := (200 * n + 520) } : Room).slots A) (F0 m 29 ls []) := by
      intro n_g
      induction n_g with
      | zero => intro i2 o2 K2 B2 cs2 as2 wt2 wf2 H locs ls w hk_g hn_g; omega
      | succ n_g ih_g =>
        intro i2 o2 K2 B2 cs2 as2 wt2 wf2 H locs ls w hk_g hn_g hbe2 hbb2 hng2 hcs2 hpo2 hP hD hS hO hl
        have hf209 : K2.1 pq = 7 := (BdE.T hbe2 hp1 (by decide))
        have hf210 : K2.2.2.1 18 pq = some (a 1) := (BdE.C hbe2 (by rw [hp1]; decide) 18).trans hp2
        have hf211 : K2.2.2.1 14 pq = some dr := (BdE.C hbe2 (by rw [hp1]; decide) 14).trans hp3
        have hf212 : K2.1 dr = 8 := (BdE.T hbe2 hp4 (by decide))
        have hf213 : K2.2.2.1 15 pq = some ml := (BdE.C hbe2 (by rw [hp1]; decide) 15).trans hp5
        have hf214 : K2.1 ml = 5 := (BdE.T hbe2 hp6 (by decide))
        have hf215 : K2.2.1 24 pq = (nI nd) := (BdE.I hbe2 (by rw [hp1]; decide) (by decide) (by decide)).trans hp8
        have hf216 : K2.1 q = 1 := (BdE.T hbe2 hqT (by decide))
        have hf217 : K2.1 mq = 3 := (BdE.T hbe2 hmq (by decide))
        have hf218 : K2.1 m2 = 3 := (BdE.T hbe2 hm2 (by decide))
        have hf219 : K2.2.2.1 6 m2 = some lp := (BdE.C hbe2 (by rw [hm2]; decide) 6).trans hflp
        have hf220 : K2.1 lp = 5 := (BdE.T hbe2 htlp (by decide))
        rcases o2 with _ | x9
        · have hl : lv_has ls 7 [(6, .null), (5, .int (nI i2)), (4, .int x2), (3, .int x1), (2, .ref m2), (1, .ref q), (0, .ref (a 4))] := hl
          refine W.eq (g2 := F0 m 29 ls []) rfl ?_
          refine lv_aloadN hx hb dX0_arguments_29 (lv_at hl 0 rfl) ?_
          refine lv_ifnullN (tgt := 110) hx hb dX0_arguments_31 (by decide) ?_
          refine lv_iload hx hb dX0_arguments_110 (lv_at hl 1 rfl) ?_
          refine lv_aload_n hx hb dX0_arguments_112 rfl (lv_at hl 4 rfl) ?_
          refine p_get (v := .ref lp) (C := RX6) (Tc := TX6) (N := 12) (ci := 12) hx hb hq pin_wsX60 hown hE hP hO (by rw [hf218]; decide) (rep_3 hf218) rfl 4 (by decide) (hq _ pw_79) (fun _ h9 => h9) (congrArg (fun z => some (va_rf z)) hf219) dX0_arguments_113 ?_
          have hO : OKP G h0 a (upd (upd (upd (upd (upd (upd F 2 (nI sz)) 5 (nI cs2)) 12 (nI vr)) 13 as2) 14 wt2) 15 wf2) (updR (updR R 2 (.ref pq)) 3 (.ref mq)) Z B2 J K2 w := hO.to rfl
          obtain ⟨qr224, hqr225⟩ := p_recv hO (by rw [hf220]; decide) (rep_5 hf220)
          refine pc_V0 (G := G) (As := []) (rest := [.int (nI i2)]) hx hb hml hown hq hE hX pX0_al hP hD hS hA hl.1 (L_size l G h0 a (upd (upd (upd (upd (upd (upd F 2 (nI sz)) 5 (nI cs2)) 12 (nI vr)) 13 as2) 14 wt2) 15 wf2) (updR (updR R 2 (.ref pq)) 3 (.ref mq)) Z B2 J K2 w lp 1 nlp itlp (BdX.ls (BdE.x hbe2) (by decide) hlclp).ls hO) (gV pw_86 pw_87 pw_88 pw_32 pw_16) hV_Jx4a65c_size_8abf5 qr224 10 hqr225 rfl rfl rfl (Nat.le_of_ble_eq_true rfl) dX0_arguments_116 ⟨(by show 0 + 0 ≤ 1; omega), (by show 0 + 0 ≤ 6; omega)⟩ ⟨(by show 2 + 1 ≤ (5 * n + 32); omega), (by show 8 + (1 + 11) + 60 ≤ (200 * n + 520); omega)⟩ (fun v223 u221 H locs hw222 hP hD hS => ?_)
          obtain ⟨w, _⟩ := u221
          obtain ⟨hw222, hO⟩ := hw222
          obtain rfl : v223 = some (.int (nI nlp)) := hw222
          have hO : OKP G h0 a (upd (upd (upd (upd (upd (upd F 2 (nI sz)) 5 (nI cs2)) 12 (nI vr)) 13 as2) 14 wt2) 15 wf2) (updR (updR R 2 (.ref pq)) 3 (.ref mq)) Z B2 J K2 w := hO.to rfl
          refine W.widen (k := 0) (n := 0) (Nat.le_of_ble_eq_true rfl) (Nat.le_of_ble_eq_true rfl) ?_
          refine W.eq (g2 := F0 m 119 ls [.int (nI nlp), .int (nI i2)]) rfl ?_
          refine lv_icmp_ge (tgt := 135) hx hb dX0_arguments_119 (by decide) (fun c226 => ?_) (fun c226 => ?_)
          · have n227 : nlp ≤ i2 := (nI_leI (a := nlp) (b := i2) (by omega) (by omega)).mp c226
            refine lv_aload_n hx hb dX0_arguments_135 rfl (lv_at hl 6 rfl) ?_
            refine c_get (v := .ref (a 2)) (C := RX0) (Tc := TX0) (N := 13) (ci := 0) hx hb hq pin_wsX00 hown hE hP hO 24 (sg_24 G h0 a _ _ _ _ _) rfl 1 (by decide) (hq _ pw_5) (fun _ h9 => h9) rfl dX0_arguments_136 ?_
            refine lv_iload_n hx hb dX0_arguments_139 rfl (lv_at hl 3 rfl) ?_
            refine lv_iload hx hb dX0_arguments_140 (lv_at hl 2 rfl) ?_
            refine lv_iload hx hb dX0_arguments_142 (lv_at hl 1 rfl) ?_
            have hO : OKW G h0 a (upd (upd (upd (upd (upd (upd (upd F 2 (nI sz)) 5 (nI cs2)) 12 (nI vr)) 13 as2) 14 wt2) 15 wf2) 5 (nI cs2)) (updR (updR R 2 (.ref pq)) 3 (.ref mq)) Z B2 J K2.1 (fun q99 x99 => x99 = rep G a K2 q99) w := hO.to rfl
            obtain ⟨_, qr231, hqr232⟩ := hO.2.1 13 _ (sg_13 G h0 a _ _ _ _ _)
            refine pc_V0 (G := G) (As := [.int x1, .int x2, .int (nI i2)]) (rest := []) hx hb hml hown hq hE hX pX0_al hP hD hS hA hl.1 (K_emit l G h0 a (upd (upd (upd (upd (upd (upd F 2 (nI sz)) 5 (nI cs2)) 12 (nI vr)) 13 as2) 14 wt2) 15 wf2) (updR (updR R 2 (.ref pq)) 3 (.ref mq)) Z B2 J K2.1 (fun q99 x99 => x99 = rep G a K2 q99) w x1 x2 i2 cs2 (by omega) (by omega) hng2 hO) (gV pw_129 pw_130 pw_131 pw_70 pw_115) hV_X1_emit qr231 1 hqr232 rfl rfl rfl (Nat.le_of_ble_eq_true rfl) dX0_arguments_144 ⟨(by show 0 + 0 ≤ 1; omega), (by show 0 + 0 ≤ 6; omega)⟩ ⟨(by show 2 + 1 ≤ (5 * n + 32); omega), (by show 8 + (4 + 11) + 60 ≤ (200 * n + 520); omega)⟩ (fun v230 u228 H locs hw229 hP hD hS => ?_)
            obtain ⟨w, cs233, f234, f235, f236, f237⟩ := u228
            obtain ⟨hw229, h238, h239, hO⟩ := hw229
            have h238 : cs2 ≤ cs233 ∧ cs233 ≤ cs2 + 1 ∧ cs233 ≤ 10000 := h238
            have h239 : Nng f236 := h239
            obtain rfl : v230 = none := hw229
            have hO : OKP G h0 a (upd (upd (upd (upd (upd (upd F 2 (nI sz)) 5 (nI cs233)) 12 (nI vr)) 13 as2) 14 wt2) 15 wf2) (updR (updR R 2 (.ref pq)) 3 (.ref mq)) Z (updA (updA (updA (updA B2 16 f234) 17 f235) 18 f236) 19 f237) J K2 w := hO.to rfl
            refine W.widen (k := 0) (n := 0) (Nat.le_of_ble_eq_true rfl) (Nat.le_of_ble_eq_true rfl) ?_
            refine W.eq (g2 := F0 m 147 ls []) rfl ?_
            refine lv_aload_n hx hb dX0_arguments_147 rfl (lv_at hl 4 rfl) ?_
            refine p_get (v := .int (K2.2.1 10 m2)) (C := RX6) (Tc := TX6) (N := 12) (ci := 12) hx hb hq pin_wsX60 hown hE hP hO (by rw [hf218]; decide) (rep_3 hf218) rfl 7 (by decide) (hq _ pw_172) (fun _ h9 => h9) rfl dX0_arguments_148 ?_
            refine W_size (fun hz1 hz2 => ?_)
            refine vx_ret ?_
            have hz240 : BdE K K2 := hbe2
            have hz241 : Bth B (updA (updA (updA (updA B2 16 f234) 17 f235) 18 f236) 19 f237) := (show Thx (upd (upd (upd F 2 (nI sz)) 5 (nI cs)) 12 (nI vr)) (upd (upd (upd (upd (upd (upd (upd F 2 (nI sz)) 5 (nI cs)) 12 (nI vr)) 5 (nI cs233)) 13 as2) 14 wt2) 15 wf2) B (updA (updA (updA (updA B2 16 f234) 17 f235) 18 f236) 19 f237) from (Thx.b (Thx.b8 (Thx.b (Thx.b (Thx.f (Thx.f (Thx.f (Thx.f (Bth.thx hbb2) (by omega)) (by omega)) (by omega)) (by omega)) (by omega) (by decide)) (by omega) (by decide)) h239) (by omega) (by decide))).2
            have hz242 : cs233 ≤ 10000 := (by omega)
            have hO : OKP G h0 a (upd (upd (upd (upd (upd (upd F 2 (nI sz)) 5 (nI cs233)) 12 (nI vr)) 13 as2) 14 wt2) 15 wf2) (updR (updR R 2 (.ref pq)) 3 (.ref mq)) Z (updA (updA (updA (updA B2 16 f234) 17 f235) 18 f236) 19 f237) J K2 w := hO.to rfl
            refine W.widen (k := 1) (n := 6) (by omega) (by omega) ?_
            have hzz1 : H.size ≤ s.heap.size + (0) := (by have z : 0 ≤ 0 := (by omega); omega)
            have hzz2 : hSl H ≤ hSl s.heap + (0) := (by have z : 0 ≤ 0 := (by omega); omega)
            exact W.iret (v := (K2.2.1 10 m2)) hx hb hr (fun t99 ht99 hW99 => ⟨⟨_, (w, (K2, (updA (updA (updA (updA B2 16 f234) 17 f235) 18 f236) 19 f237), cs233, as2, wt2, wf2, (K2.2.1 10 m2))), rfl, ⟨rfl, hz240, hz241, hz242, hO⟩, by rw [ht99]; exact hP, hD, by rw [ht99]; exact hzz1, by rw [ht99]; exact hzz2⟩, hS.F ht99⟩) hS.2.2 dX0_arguments_151
          · have n243 : ¬ (nlp ≤ i2) := fun h9 => c226 ((nI_leI (a := nlp) (b := i2) (by omega) (by omega)).mpr h9)
            refine lv_aload_n hx hb dX0_arguments_122 rfl (lv_at hl 6 rfl) ?_
            refine c_get (v := .ref (a 1)) (C := RX0) (Tc := TX0) (N := 13) (ci := 0) hx hb hq pin_wsX00 hown hE hP hO 24 (sg_24 G h0 a _ _ _ _ _) rfl 0 (by decide) (hq _ pw_4) (fun _ h9 => h9) rfl dX0_arguments_123 ?_
            refine lv_bipush (v := 12) hx hb dX0_arguments_126 (by decide) ?_
            refine lv_aload_n hx hb dX0_arguments_128 rfl (lv_at hl 5 rfl) ?_
            refine p_get (v := .int (K2.2.1 4 q)) (C := RX7) (Tc := TX7) (N := 11) (ci := 13) hx hb hq pin_wsX70 hown hE hP hO (by rw [hf216]; decide) (rep_1 hf216) rfl 4 (by decide) (hq _ pw_171) (fun _ h9 => h9) rfl dX0_arguments_129 ?_
            have hO : OKW G h0 a (upd (upd (upd (upd (upd (upd (upd (upd F 2 (nI sz)) 5 (nI cs)) 12 (nI vr)) 5 (nI cs2)) 13 as2) 14 wt2) 15 wf2) 2 (nI sz)) (updR (updR R 2 (.ref pq)) 3 (.ref mq)) Z B2 J K2.1 (fun q99 x99 => x99 = rep G a K2 q99) w := hO.to rfl
            obtain ⟨_, qr247, hqr248⟩ := hO.2.1 2 _ (sg_2 G h0 a _ _ _ _ _)
            refine pn_V0 (G := G) (As := [.int 12, .int (K2.2.1 4 q)]) (rest := []) hx hb hml hown hq hE hX pX0_al hP hD hS hA hl.1 (K_fail l G h0 a (upd (upd (upd (upd (upd (upd (upd F 2 (nI sz)) 5 (nI cs)) 12 (nI vr)) 5 (nI cs2)) 13 as2) 14 wt2) 15 wf2) (updR (updR R 2 (.ref pq)) 3 (.ref mq)) Z B2 J K2.1 (fun q99 x99 => x99 = rep G a K2 q99) w 12 (K2.2.1 4 q) sz (by omega) hO hl0) (gV pw_64 pw_65 pw_66 pw_59 pw_43) hV_X10_fail qr247 7 hqr248 rfl rfl rfl (Nat.le_of_ble_eq_true rfl) dX0_arguments_132 ⟨(by show 0 + 1 ≤ 1; omega), (by show 0 + 6 ≤ 6; omega)⟩ ⟨(by show 6 + 1 ≤ (5 * n + 32); omega), (by show 8 + (3 + 11) + 100 ≤ (200 * n + 520); omega)⟩ (fun v246 u244 H locs hw245 hP hD hS => hw245.elim) (fun ux ce9 q9 H9 locs9 hux hP9 hD9 hS9 hce hcv hcl => pb_out ux (ThQ.up (Thx.same (Thx.f (Thx.f (Thx.f (Thx.f (Bth.thx hbb2) (by omega)) (by omega)) (by omega)) (by omega)) rfl) RhX.rfl hux) hnt hlocks hce hcv hcl hP9 hD9 hS9 (by show 0 + 1 ≤ 1; omega) (by show 0 + 6 ≤ 6; omega))
        · have hl : lv_has ls 7 [(6, .ref x9), (5, .int (nI i2)), (4, .int x2), (3, .int x1), (2, .ref m2), (1, .ref q), (0, .ref (a 4))] := hl
          refine W.eq (g2 := F0 m 29 ls []) rfl ?_
          have hxd := hpo2 x9 rfl
          have hxT := hxd.1
          have hxv : 1 ≤ g 0 x9 ∧ g 0 x9 + 1 ≤ n := ⟨hxd.2.1, (by have z := hxd.2.2.1; omega)⟩
          refine lv_aload hx hb dX0_arguments_29 (lv_at hl 0 rfl) ?_
          refine lv_ifnull hx hb dX0_arguments_31 ?_
          refine lv_iload hx hb dX0_arguments_34 (lv_at hl 1 rfl) ?_
          refine lv_aload_n hx hb dX0_arguments_36 rfl (lv_at hl 4 rfl) ?_
          refine p_get (v := .ref lp) (C := RX6) (Tc := TX6) (N := 12) (ci := 12) hx hb hq pin_wsX60 hown hE hP hO (by rw [hf218]; decide) (rep_3 hf218) rfl 4 (by decide) (hq _ pw_79) (fun _ h9 => h9) (congrArg (fun z => some (va_rf z)) hf219) dX0_arguments_37 ?_
          have hO : OKP G h0 a (upd (upd (upd (upd (upd (upd F 2 (nI sz)) 5 (nI cs2)) 12 (nI vr)) 13 as2) 14 wt2) 15 wf2) (updR (updR R 2 (.ref pq)) 3 (.ref mq)) Z B2 J K2 w := hO.to rfl
          obtain ⟨qr252, hqr253⟩ := p_recv hO (by rw [hf220]; decide) (rep_5 hf220)
          refine pc_V0 (G := G) (As := []) (rest := [.int (nI i2)]) hx hb hml hown hq hE hX pX0_al hP hD hS hA hl.1 (L_size l G h0 a (upd (upd (upd (upd (upd (upd F 2 (nI sz)) 5 (nI cs2)) 12 (nI vr)) 13 as2) 14 wt2) 15 wf2) (updR (updR R 2 (.ref pq)) 3 (.ref mq)) Z B2 J K2 w lp 1 nlp itlp (BdX.ls (BdE.x hbe2) (by decide) hlclp).ls hO) (gV pw_86 pw_87 pw_88 pw_32 pw_16) hV_Jx4a65c_size_8abf5 qr252 10 hqr253 rfl rfl rfl (Nat.le_of_ble_eq_true rfl) dX0_arguments_40 ⟨(by show 0 + 0 ≤ 1; omega), (by show 0 + 0 ≤ 6; omega)⟩ ⟨(by show 2 + 1 ≤ (5 * n + 32); omega), (by show 8 + (1 + 11) + 60 ≤ (200 * n + 520); omega)⟩ (fun v251 u249 H locs hw250 hP hD hS => ?_)
          obtain ⟨w, _⟩ := u249
          obtain ⟨hw250, hO⟩ := hw250
          obtain rfl : v251 = some (.int (nI nlp)) := hw250
          have hO : OKP G h0 a (upd (upd (upd (upd (upd (upd F 2 (nI sz)) 5 (nI cs2)) 12 (nI vr)) 13 as2) 14 wt2) 15 wf2) (updR (updR R 2 (.ref pq)) 3 (.ref mq)) Z B2 J K2 w := hO.to rfl
          refine W.widen (k := 0) (n := 0) (Nat.le_of_ble_eq_true rfl) (Nat.le_of_ble_eq_true rfl) ?_
          refine W.eq (g2 := F0 m 43 ls [.int (nI nlp), .int (nI i2)]) rfl ?_
          refine lv_icmp_lt (tgt := 63) hx hb dX0_arguments_43 (by decide) (fun c254 => ?_) (fun c254 => ?_)
          · have n255 : i2 < nlp := (nI_ltI (a := i2) (b := nlp) (by omega) (by omega)).mp c254
            refine lv_aload_n hx hb dX0_arguments_63 rfl (lv_at hl 6 rfl) ?_
            refine lv_aload hx hb dX0_arguments_64 (lv_at hl 0 rfl) ?_
            refine lv_aload_n hx hb dX0_arguments_66 rfl (lv_at hl 6 rfl) ?_
            refine lv_aload hx hb dX0_arguments_67 (lv_at hl 0 rfl) ?_
            have hO : OKP G h0 a (upd (upd (upd (upd (upd (upd (upd (upd (upd (upd F 2 (nI sz)) 5 (nI cs)) 12 (nI vr)) 5 (nI cs2)) 13 as2) 14 wt2) 15 wf2) 2 (nI sz)) 5 (nI cs2)) 12 (nI vr)) (updR (updR (updR (updR R 2 (.ref pq)) 3 (.ref mq)) 2 (.ref pq)) 3 (.ref mq)) Z B2 J K2 w := hO.to rfl
            obtain ⟨_, qr259, hqr260⟩ := hO.2.1 24 _ (sg_24 G h0 a _ _ _ _ _)
            refine pn_V0 (G := G) (As := [.ref x9]) (rest := [.ref x9, .ref (a 4)]) hx hb hml hown hq hE hX pX0_al hP hD hS hA hl.1 ((ihv (by omega)) h0 a (upd (upd (upd (upd (upd (upd (upd F 2 (nI sz)) 5 (nI cs)) 12 (nI vr)) 5 (nI cs2)) 13 as2) 14 wt2) 15 wf2) (updR (updR R 2 (.ref pq)) 3 (.ref mq)) Z B2 J K2 w pq dr ml nd nm cp it s9 x9 mq cs2 vr sz g rk (by omega) (BdE.wp hbe2 hwp) (BdE.pt hbe2 hwp hps) (BdE.rko hbe2 hrk) (by omega) (by omega) hng2 hf217 hxT ⟨hxv.1, (by have z9 := hxv; omega)⟩ hO hl0) (gV pw_173 pw_174 pw_175 pw_63 pw_224) hV_X0_value qr259 0 hqr260 rfl rfl rfl (Nat.le_of_ble_eq_true rfl) dX0_arguments_69 ⟨(by show 0 + 1 ≤ 1; omega), (by show 0 + 6 ≤ 6; omega)⟩ ⟨(by show (5 * (n - 1) + 34) + 1 ≤ (5 * n + 32); omega), (by show 8 + (3 + 11) + (200 * (n - 1) + 600) ≤ (200 * n + 520); omega)⟩ (fun v258 u256 H locs hw257 hP hD hS => ?_) (fun ux ce9 q9 H9 locs9 hux hP9 hD9 hS9 hce hcv hcl => pb_out ux (ThQ.up (Thx.same (Thx.same (Thx.same (Thx.f (Thx.f (Thx.f (Thx.f (Bth.thx hbb2) (by omega)) (by omega)) (by omega)) (by omega)) rfl) rfl) rfl) (show RhX (updR (updR R 2 (.ref pq)) 3 (.ref mq)) (updR (updR (updR (updR R 2 (.ref pq)) 3 (.ref mq)) 2 (.ref pq)) 3 (.ref mq)) from fun k9 hk9 => by unfold updR; simp only [show ¬ k9 = 1 by omega, show ¬ k9 = 2 by omega, show ¬ k9 = 3 by omega, show ¬ k9 = 4 by omega, if_false]) hux) hnt hlocks hce hcv hcl hP9 hD9 hS9 (by show 0 + 1 ≤ 1; omega) (by show 0 + 6 ≤ 6; omega))
            obtain ⟨w, K261, B262, cs263, as264, wt265, wf266, r267⟩ := u256
            obtain ⟨hw257, h268, h269, h270, hO⟩ := hw257
            have h268 : BdE K2 K261 := h268
            have h269 : Bth B2 B262 := h269
            have h270 : cs263 ≤ 10000 := h270
            obtain rfl : v258 = some (.int r267) := hw257
            have hf271 : K261.1 pq = 7 := (BdE.T h268 hf209 (by decide))
            have hf272 : K261.2.2.1 18 pq = some (a 1) := (BdE.C h268 (by rw [hf209]; decide) 18).trans hf210
            have hf273 : K261.2.2.1 14 pq = some dr := (BdE.C h268 (by rw [hf209]; decide) 14).trans hf211
            have hf274 : K261.1 dr = 8 := (BdE.T h268 hf212 (by decide))
            have hf275 : K261.2.2.1 15 pq = some ml := (BdE.C h268 (by rw [hf209]; decide) 15).trans hf213
            have hf276 : K261.1 ml = 5 := (BdE.T h268 hf214 (by decide))
            have hf277 : K261.2.1 24 pq = (nI nd) := (BdE.I h268 (by rw [hf209]; decide) (by decide) (by decide)).trans hf215
            have hf278 : K261.1 q = 1 := (BdE.T h268 hf216 (by decide))
            have hf279 : K261.1 mq = 3 := (BdE.T h268 hf217 (by decide))
            have hf280 : K261.1 m2 = 3 := (BdE.T h268 hf218 (by decide))
            have hf281 : K261.2.2.1 6 m2 = some lp := (BdE.C h268 (by rw [hf218]; decide) 6).trans hf219
            have hf282 : K261.1 lp = 5 := (BdE.T h268 hf220 (by decide))
            have hf283 : K261.1 x9 = 1 := (BdE.T h268 hxT (by decide))
            have hO : OKP G h0 a (upd (upd (upd (upd (upd (upd F 2 (nI sz)) 5 (nI cs263)) 12 (nI vr)) 13 as264) 14 wt265) 15 wf266) (updR (updR R 2 (.ref pq)) 3 (.ref mq)) Z B262 J K261 w := hO.to rfl
            refine W.widen (k := 0) (n := 0) (by show 0 + 0 ≤ 0; omega) (by show 0 + 0 ≤ 0; omega) ?_
            refine W.eq (g2 := F0 m 72 ls [.int r267, .ref x9, .ref (a 4)]) rfl ?_
            have hbe284 := BdE.trans hbe2 h268
            have hbb285 : Bth B B262 := Bth.trans (show Thx (upd (upd (upd F 2 (nI sz)) 5 (nI cs)) 12 (nI vr)) (upd (upd (upd (upd (upd (upd (upd F 2 (nI sz)) 5 (nI cs)) 12 (nI vr)) 5 (nI cs2)) 13 as2) 14 wt2) 15 wf2) B B2 from (Thx.f (Thx.f (Thx.f (Thx.f (Bth.thx hbb2) (by omega)) (by omega)) (by omega)) (by omega))).2 h269
            have hng286 : Nng (B262 18) := h269.2 hng2
            refine lv_aload_n hx hb dX0_arguments_72 rfl (lv_at hl 6 rfl) ?_
            refine c_get (v := .ref (a 1)) (C := RX0) (Tc := TX0) (N := 13) (ci := 0) hx hb hq pin_wsX00 hown hE hP hO 24 (sg_24 G h0 a _ _ _ _ _) rfl 0 (by decide) (hq _ pw_4) (fun _ h9 => h9) rfl dX0_arguments_73 ?_
            refine lv_aload_n hx hb dX0_arguments_76 rfl (lv_at hl 4 rfl) ?_
            refine p_get (v := .ref lp) (C := RX6) (Tc := TX6) (N := 12) (ci := 12) hx hb hq pin_wsX60 hown hE hP hO (by rw [hf280]; decide) (rep_3 hf280) rfl 4 (by decide) (hq _ pw_79) (fun _ h9 => h9) (congrArg (fun z => some (va_rf z)) hf281) dX0_arguments_77 ?_
            refine lv_iload hx hb dX0_arguments_80 (lv_at hl 1 rfl) ?_
            have hO : OKP G h0 a (upd (upd (upd (upd (upd (upd F 2 (nI sz)) 5 (nI cs263)) 12 (nI vr)) 13 as264) 14 wt265) 15 wf266) (updR (updR R 2 (.ref pq)) 3 (.ref mq)) Z B262 J K261 w := hO.to rfl
            obtain ⟨qr290, hqr291⟩ := p_recv hO (by rw [hf282]; decide) (rep_5 hf282)
            refine pc_V0 (G := G) (As := [.int (nI i2)]) (rest := [.ref (a 1), .int r267, .ref x9, .ref (a 4)]) hx hb hml hown hq hE hX pX0_al hP hD hS hA hl.1 (L_get l G h0 a (upd (upd (upd (upd (upd (upd F 2 (nI sz)) 5 (nI cs263)) 12 (nI vr)) 13 as264) 14 wt265) 15 wf266) (updR (updR R 2 (.ref pq)) 3 (.ref mq)) Z B262 J K261 w lp 1 nlp itlp i2 (BdX.ls (BdE.x hbe284) (by decide) hlclp).ls (by omega) hO) (gV pw_89 pw_90 pw_91 pw_32 pw_25) hV_Jx4a65c_get_915e3 qr290 10 hqr291 rfl rfl rfl (Nat.le_of_ble_eq_true rfl) dX0_arguments_82 ⟨(by show 0 + 0 ≤ 1; omega), (by show 0 + 0 ≤ 6; omega)⟩ ⟨(by show 4 + 1 ≤ (5 * n + 32); omega), (by show 8 + (2 + 11) + 103 ≤ (200 * n + 520); omega)⟩ (fun v289 u287 H locs hw288 hP hD hS => ?_)
            obtain ⟨w, _⟩ := u287
            obtain ⟨hw288, hO⟩ := hw288
            obtain rfl : v289 = some (.ref (itlp i2)) := hw288
            have hO : OKP G h0 a (upd (upd (upd (upd (upd (upd F 2 (nI sz)) 5 (nI cs263)) 12 (nI vr)) 13 as264) 14 wt265) 15 wf266) (updR (updR R 2 (.ref pq)) 3 (.ref mq)) Z B262 J K261 w := hO.to rfl
            refine W.widen (k := 0) (n := 0) (Nat.le_of_ble_eq_true rfl) (Nat.le_of_ble_eq_true rfl) ?_
            refine W.eq (g2 := F0 m 85 ls [.ref (itlp i2), .ref (a 1), .int r267, .ref x9, .ref (a 4)]) rfl ?_
            have hf292 : K261.1 (itlp i2) = 1 := (BdX.ls (BdE.x hbe284) (by decide) hlclp).T (by omega)
            refine p_cast (C := RX7) (Tc := TX7) (N := 11) (ci := 13) hx hb hown (hq _ pw_80) hE hP hO (by rw [hf292]; decide) (rep_1 hf292) rfl dX0_arguments_85 ?_
            refine p_get (v := .int (K261.2.1 2 (itlp i2))) (C := RX7) (Tc := TX7) (N := 11) (ci := 13) hx hb hq pin_wsX70 hown hE hP hO (by rw [hf292]; decide) (rep_1 hf292) rfl 2 (by decide) (hq _ pw_82) (fun _ h9 => h9) rfl dX0_arguments_88 ?_
            have hO : OKW G h0 a (upd (upd (upd (upd (upd (upd (upd F 2 (nI sz)) 5 (nI cs263)) 12 (nI vr)) 13 as264) 14 wt265) 15 wf266) 2 (nI sz)) (updR (updR R 2 (.ref pq)) 3 (.ref mq)) Z B262 J K261.1 (fun q99 x99 => x99 = rep G a K261 q99) w := hO.to rfl
            obtain ⟨_, qr296, hqr297⟩ := hO.2.1 2 _ (sg_2 G h0 a _ _ _ _ _)
            refine pc_V0 (G := G) (As := [.int (K261.2.1 2 (itlp i2))]) (rest := [.int r267, .ref x9, .ref (a 4)]) hx hb hml hown hq hE hX pX0_al hP hD hS hA hl.1 (K_typeAt l G h0 a (upd (upd (upd (upd (upd (upd F 2 (nI sz)) 5 (nI cs263)) 12 (nI vr)) 13 as264) 14 wt265) 15 wf266) (updR (updR R 2 (.ref pq)) 3 (.ref mq)) Z B262 J K261.1 (fun q99 x99 => x99 = rep G a K261 q99) w (K261.2.1 2 (itlp i2)) sz (by omega) hO) (gV pw_92 pw_93 pw_94 pw_59 pw_36) hV_X10_typeAt qr296 7 hqr297 rfl rfl rfl (Nat.le_of_ble_eq_true rfl) dX0_arguments_91 ⟨(by show 0 + 0 ≤ 1; omega), (by show 0 + 0 ≤ 6; omega)⟩ ⟨(by show 2 + 1 ≤ (5 * n + 32); omega), (by show 8 + (2 + 11) + 60 ≤ (200 * n + 520); omega)⟩ (fun v295 u293 H locs hw294 hP hD hS => ?_)
            obtain ⟨w, r298⟩ := u293
            obtain ⟨hw294, hO⟩ := hw294
            obtain rfl : v295 = some (.int r298) := hw294
            have hO : OKP G h0 a (upd (upd (upd (upd (upd (upd F 2 (nI sz)) 5 (nI cs263)) 12 (nI vr)) 13 as264) 14 wt265) 15 wf266) (updR (updR R 2 (.ref pq)) 3 (.ref mq)) Z B262 J K261 w := hO.to rfl
            refine W.widen (k := 0) (n := 0) (Nat.le_of_ble_eq_true rfl) (Nat.le_of_ble_eq_true rfl) ?_
            refine W.eq (g2 := F0 m 94 ls [.int r298, .int r267, .ref x9, .ref (a 4)]) rfl ?_
            have hO : OKP G h0 a (upd (upd (upd (upd (upd (upd (upd (upd F 2 (nI sz)) 5 (nI cs)) 12 (nI vr)) 5 (nI cs263)) 13 as264) 14 wt265) 15 wf266) 2 (nI sz)) (updR (updR (updR R 2 (.ref pq)) 3 (.ref mq)) 2 (.ref pq)) Z B262 J K261 w := hO.to rfl
            obtain ⟨_, qr302, hqr303⟩ := hO.2.1 24 _ (sg_24 G h0 a _ _ _ _ _)
            refine pn_V0 (G := G) (As := [.ref x9, .int r267, .int r298]) (rest := []) hx hb hml hown hq hE hX pX0_al hP hD hS hA hl.1 (B_fit l G h0 a (upd (upd (upd (upd (upd (upd (upd F 2 (nI sz)) 5 (nI cs)) 12 (nI vr)) 5 (nI cs263)) 13 as264) 14 wt265) 15 wf266) (updR (updR R 2 (.ref pq)) 3 (.ref mq)) Z B262 J K261 w pq dr ml nd x9 sz r267 r298 g (by omega) (BdE.pt hbe284 hwp hps).1 (BdE.pt hbe284 hwp hps).2.1 hf283 hO hl0) (gV pw_176 pw_177 pw_178 pw_63 pw_114) hV_X0_fit qr302 0 hqr303 rfl rfl rfl (Nat.le_of_ble_eq_true rfl) dX0_arguments_94 ⟨(by show 0 + 1 ≤ 1; omega), (by show 0 + 6 ≤ 6; omega)⟩ ⟨(by show 7 + 1 ≤ (5 * n + 32); omega), (by show 8 + (4 + 11) + 122 ≤ (200 * n + 520); omega)⟩ (fun v301 u299 H locs hw300 hP hD hS => ?_) (fun ux ce9 q9 H9 locs9 hux hP9 hD9 hS9 hce hcv hcl => pb_out ux (ThQ.up (Thx.same (Thx.f (Thx.f (Thx.f (Thx.f (Bth.thx hbb285) (by omega)) (by omega)) (by omega)) (by omega)) rfl) (show RhX (updR (updR R 2 (.ref pq)) 3 (.ref mq)) (updR (updR (updR R 2 (.ref pq)) 3 (.ref mq)) 2 (.ref pq)) from fun k9 hk9 => by unfold updR; simp only [show ¬ k9 = 1 by omega, show ¬ k9 = 2 by omega, show ¬ k9 = 3 by omega, show ¬ k9 = 4 by omega, if_false]) hux) hnt hlocks hce hcv hcl hP9 hD9 hS9 (by show 0 + 1 ≤ 1; omega) (by show 0 + 6 ≤ 6; omega))
            obtain ⟨w, _⟩ := u299
            obtain ⟨hw300, hO⟩ := hw300
            obtain rfl : v301 = none := hw300
            have hO : OKP G h0 a (upd (upd (upd (upd (upd (upd F 2 (nI sz)) 5 (nI cs263)) 12 (nI vr)) 13 as264) 14 wt265) 15 wf266) (updR (updR R 2 (.ref pq)) 3 (.ref mq)) Z B262 J K261 w := hO.to rfl
            refine W.widen (k := 0) (n := 0) (by show 0 + 0 ≤ 0; omega) (by show 0 + 0 ≤ 0; omega) ?_
            refine W.eq (g2 := F0 m 97 ls []) rfl ?_
            refine lv_iinc (v := (nI (i2 + 1))) (lv' := [(5, .int (nI (i2 + 1))), (6, .ref x9), (4, .int x2), (3, .int x1), (2, .ref m2), (1, .ref q), (0, .ref (a 4))]) hx hb dX0_arguments_97 hl (k := 1) rfl (nI_1 i2) (by decide) rfl (fun ls hl => ?_)
            refine lv_aload hx hb dX0_arguments_100 (lv_at hl 1 rfl) ?_
            rcases ho305 : K261.2.2.1 4 x9 with _ | o304
            · skip
              refine p_get (v := .null) (C := RX7) (Tc := TX7) (N := 11) (ci := 13) hx hb hq pin_wsX70 hown hE hP hO (by rw [hf283]; decide) (rep_1 hf283) rfl 10 (by decide) (hq _ pw_170) (fun _ h9 => h9) (congrArg (fun z => some (va_rf z)) ho305) dX0_arguments_102 ?_
              refine lv_astoreN (lv' := [(6, .null), (5, .int (nI (i2 + 1))), (4, .int x2), (3, .int x1), (2, .ref m2), (1, .ref q), (0, .ref (a 4))]) hx hb dX0_arguments_105 hl (by decide) rfl (fun ls hl => ?_)
              refine lv_goto (tgt := 29) hx hb dX0_arguments_107 (by decide) ?_
              have hO : OKP G h0 a (upd (upd (upd (upd (upd (upd F 2 (nI sz)) 5 (nI cs263)) 12 (nI vr)) 13 as264) 14 wt265) 15 wf266) (updR (updR R 2 (.ref pq)) 3 (.ref mq)) Z B262 J K261 w := hO.to rfl
              exact ih_g (i2 + 1) none K261 B262 cs263 as264 wt265 wf266 _ _ _ _ (by omega) (by omega) hbe284 ((show Thx (upd (upd (upd F 2 (nI sz)) 5 (nI cs)) 12 (nI vr)) (upd (upd (upd (upd (upd (upd (upd F 2 (nI sz)) 5 (nI cs)) 12 (nI vr)) 5 (nI cs263)) 13 as264) 14 wt265) 15 wf266) B B262 from (Thx.f (Thx.f (Thx.f (Thx.f (Bth.thx hbb285) (by omega)) (by omega)) (by omega)) (by omega))).2) hng286 (by omega) (ArO.next (BdE.wp hbe284 hwp).1 hqL.1 ⟨hf283, hxd.2⟩ ho305) hP hD hS hO (lv_sub hl [0, 1, 2, 3, 4, 5, 6] rfl)
            · skip
              refine p_get (v := .ref o304) (C := RX7) (Tc := TX7) (N := 11) (ci := 13) hx hb hq pin_wsX70 hown hE hP hO (by rw [hf283]; decide) (rep_1 hf283) rfl 10 (by decide) (hq _ pw_170) (fun _ h9 => h9) (congrArg (fun z => some (va_rf z)) ho305) dX0_arguments_102 ?_
              refine lv_astore (lv' := [(6, .ref o304), (5, .int (nI (i2 + 1))), (4, .int x2), (3, .int x1), (2, .ref m2), (1, .ref q), (0, .ref (a 4))]) hx hb dX0_arguments_105 hl (by decide) rfl (fun ls hl => ?_)
              refine lv_goto (tgt := 29) hx hb dX0_arguments_107 (by decide) ?_
              have hO : OKP G h0 a (upd (upd (upd (upd (upd (upd F 2 (nI sz)) 5 (nI cs263)) 12 (nI vr)) 13 as264) 14 wt265) 15 wf266) (updR (updR R 2 (.ref pq)) 3 (.ref mq)) Z B262 J K261 w := hO.to rfl
              exact ih_g (i2 + 1) (some o304) K261 B262 cs263 as264 wt265 wf266 _ _ _ _ (by omega) (by omega) hbe284 ((show Thx (upd (upd (upd F 2 (nI sz)) 5 (nI cs)) 12 (nI vr)) (upd (upd (upd (upd (upd (upd (upd F 2 (nI sz)) 5 (nI cs)) 12 (nI vr)) 5 (nI cs263)) 13 as264) 14 wt265) 15 wf266) B B262 from (Thx.f (Thx.f (Thx.f (Thx.f (Bth.thx hbb285) (by omega)) (by omega)) (by omega)) (by omega))).2) hng286 (by omega) (ArO.next (BdE.wp hbe284 hwp).1 hqL.1 ⟨hf283, hxd.2⟩ ho305) hP hD hS hO (lv_sub hl [0, 1, 2, 3, 4, 5, 6] rfl)
          · have n306 : ¬ (i2 < nlp) := fun h9 => c254 ((nI_ltI (a := i2) (b := nlp) (by omega) (by omega)).mpr h9)
            refine lv_aload_n hx hb dX0_arguments_46 rfl (lv_at hl 6 rfl) ?_
            refine c_get (v := .ref (a 1)) (C := RX0) (Tc := TX0) (N := 13) (ci := 0) hx hb hq pin_wsX00 hown hE hP hO 24 (sg_24 G h0 a _ _ _ _ _) rfl 0 (by decide) (hq _ pw_4) (fun _ h9 => h9) rfl dX0_arguments_47 ?_
            refine lv_bipush (v := 12) hx hb dX0_arguments_50 (by decide) ?_
            refine lv_aload hx hb dX0_arguments_52 (lv_at hl 0 rfl) ?_
            refine p_get (v := .int (K2.2.1 2 x9)) (C := RX7) (Tc := TX7) (N := 11) (ci := 13) hx hb hq pin_wsX70 hown hE hP hO (by rw [hxT]; decide) (rep_1 hxT) rfl 2 (by decide) (hq _ pw_82) (fun _ h9 => h9) rfl dX0_arguments_54 ?_
            have hO : OKW G h0 a (upd (upd (upd (upd (upd (upd (upd (upd F 2 (nI sz)) 5 (nI cs)) 12 (nI vr)) 5 (nI cs2)) 13 as2) 14 wt2) 15 wf2) 2 (nI sz)) (updR (updR R 2 (.ref pq)) 3 (.ref mq)) Z B2 J K2.1 (fun q99 x99 => x99 = rep G a K2 q99) w := hO.to rfl
            obtain ⟨_, qr310, hqr311⟩ := hO.2.1 2 _ (sg_2 G h0 a _ _ _ _ _)
            refine pn_V0 (G := G) (As := [.int 12, .int (K2.2.1 2 x9)]) (rest := []) hx hb hml hown hq hE hX pX0_al hP hD hS hA hl.1 (K_fail l G h0 a (upd (upd (upd (upd (upd (upd (upd F 2 (nI sz)) 5 (nI cs)) 12 (nI vr)) 5 (nI cs2)) 13 as2) 14 wt2) 15 wf2) (updR (updR R 2 (.ref pq)) 3 (.ref mq)) Z B2 J K2.1 (fun q99 x99 => x99 = rep G a K2 q99) w 12 (K2.2.1 2 x9) sz (by omega) hO hl0) (gV pw_64 pw_65 pw_66 pw_59 pw_43) hV_X10_fail qr310 7 hqr311 rfl rfl rfl (Nat.le_of_ble_eq_true rfl) dX0_arguments_57 ⟨(by show 0 + 1 ≤ 1; omega), (by show 0 + 6 ≤ 6; omega)⟩ ⟨(by show 6 + 1 ≤ (5 * n + 32); omega), (by show 8 + (3 + 11) + 100 ≤ (200 * n + 520); omega)⟩ (fun v309 u307 H locs hw308 hP hD hS => hw308.elim) (fun ux ce9 q9 H9 locs9 hux hP9 hD9 hS9 hce hcv hcl => pb_out ux (ThQ.up (Thx.same (Thx.f (Thx.f (Thx.f (Thx.f (Bth.thx hbb2) (by omega)) (by omega)) (by omega)) (by omega)) rfl) RhX.rfl hux) hnt hlocks hce hcv hcl hP9 hD9 hS9 (by show 0 + 1 ≤ 1; omega) (by show 0 + 6 ≤ 6; omega))
    have hO : OKP G h0 a (upd (upd (upd (upd (upd (upd F 2 (nI sz)) 5 (nI cs)) 12 (nI vr)) 13 (F 13)) 14 (F 14)) 15 (F 15)) (updR (updR R 2 (.ref pq)) 3 (.ref mq)) Z B J K w := hO.to rfl
    exact loop_g (nlp + 1) 0 (some o104) K B cs (F 13) (F 14) (F 15) _ _ _ _ (by omega) (by omega) BdE.rfl ((show Thx (upd (upd (upd F 2 (nI sz)) 5 (nI cs)) 12 (nI vr)) (upd (upd (upd F 2 (nI sz)) 5 (nI cs)) 12 (nI vr)) B B from Thx.rfl).2) hng (by omega) (ArO.first (hwp.1 q hqT hqL.1) (by decide) hls ho105) hP hD hS hO (lv_sub hl [0, 1, 6, 5, 4, 3, 2] rfl)
theorem dX0_call_0 : decode cX0_call 0 = .ok (.aload_n 0, 1) := by decide +kernel
theorem dX0_call_1 : decode cX0_call 1 = .ok (.getfield 69, 3) := by decide +kernel
theorem dX0_call_4 : decode cX0_call 4 = .ok (.getfield 229, 3) := by decide +kernel
theorem dX0_call_7 : decode cX0_call 7 = .ok (.astore_n 2, 1) := by decide +kernel
theorem dX0_call_8 : decode cX0_call 8 = .ok (.aload_n 1, 1) := by decide +kernel
theorem dX0_call_9 : decode cX0_call 9 = .ok (.getfield 165, 3) := by decide +kernel
theorem dX0_call_12 : decode cX0_call 12 = .ok (.ifnonnull 16, 3) := by decide +kernel
theorem dX0_call_15 : decode cX0_call 15 = .ok (.aload_n 0, 1) := by decide +kernel
theorem dX0_call_16 : decode cX0_call 16 = .ok (.getfield 15, 3) := by decide +kernel
theorem dX0_call_19 : decode cX0_call 19 = .ok (.iconst 2, 1) := by decide +kernel
theorem dX0_call_20 : decode cX0_call 20 = .ok (.iconst 0, 1) := by decide +kernel
theorem dX0_call_21 : decode cX0_call 21 = .ok (.iconst 0, 1) := by decide +kernel
theorem dX0_call_22 : decode cX0_call 22 = .ok (.invokevirtual 140, 3) := by decide +kernel
theorem dX0_call_25 : decode cX0_call 25 = .ok (.goto 39, 3) := by decide +kernel
theorem dX0_call_64 : decode cX0_call 64 = .ok (.aload_n 0, 1) := by decide +kernel
theorem dX0_call_65 : decode cX0_call 65 = .ok (.getfield 9, 3) := by decide +kernel
theorem dX0_call_68 : decode cX0_call 68 = .ok (.aload_n 1, 1) := by decide +kernel
theorem dX0_call_69 : decode cX0_call 69 = .ok (.getfield 114, 3) := by decide +kernel
theorem dX0_call_72 : decode cX0_call 72 = .ok (.invokevirtual 152, 3) := by decide +kernel
theorem dX0_call_75 : decode cX0_call 75 = .ok (.istore_n 3, 1) := by decide +kernel
theorem dX0_call_76 : decode cX0_call 76 = .ok (.aload_n 0, 1) := by decide +kernel
theorem dX0_call_77 : decode cX0_call 77 = .ok (.aload_n 1, 1) := by decide +kernel
theorem dX0_call_78 : decode cX0_call 78 = .ok (.aload_n 2, 1) := by decide +kernel
theorem dX0_call_79 : decode cX0_call 79 = .ok (.ifnonnull 7, 3) := by decide +kernel
theorem dX0_call_86 : decode cX0_call 86 = .ok (.aload_n 2, 1) := by decide +kernel
theorem dX0_call_87 : decode cX0_call 87 = .ok (.iload_n 3, 1) := by decide +kernel
theorem dX0_call_88 : decode cX0_call 88 = .ok (.invokevirtual 357, 3) := by decide +kernel
theorem dX0_call_91 : decode cX0_call 91 = .ok (.bipush 23, 2) := by decide +kernel
theorem dX0_call_93 : decode cX0_call 93 = .ok (.iload_n 3, 1) := by decide +kernel
theorem dX0_call_94 : decode cX0_call 94 = .ok (.invokevirtual 361, 3) := by decide +kernel
theorem dX0_call_97 : decode cX0_call 97 = .ok (.ireturn, 1) := by decide +kernel
theorem dX0_call_28 : decode cX0_call 28 = .ok (.aload_n 0, 1) := by decide +kernel
theorem dX0_call_29 : decode cX0_call 29 = .ok (.getfield 29, 3) := by decide +kernel
theorem dX0_call_32 : decode cX0_call 32 = .ok (.aload_n 0, 1) := by decide +kernel
theorem dX0_call_33 : decode cX0_call 33 = .ok (.aload_n 1, 1) := by decide +kernel
theorem dX0_call_34 : decode cX0_call 34 = .ok (.getfield 165, 3) := by decide +kernel
theorem dX0_call_37 : decode cX0_call 37 = .ok (.invokevirtual 209, 3) := by decide +kernel
theorem dX0_call_40 : decode cX0_call 40 = .ok (.invokevirtual 44, 3) := by decide +kernel
theorem dX0_call_43 : decode cX0_call 43 = .ok (.astore_n 2, 1) := by decide +kernel
theorem dX0_call_44 : decode cX0_call 44 = .ok (.aload_n 2, 1) := by decide +kernel
theorem dX0_call_45 : decode cX0_call 45 = .ok (.ifnonnull 19, 3) := by decide +kernel
theorem dX0_call_48 : decode cX0_call 48 = .ok (.aload_n 0, 1) := by decide +kernel
theorem dX0_call_49 : decode cX0_call 49 = .ok (.getfield 9, 3) := by decide +kernel
theorem dX0_call_52 : decode cX0_call 52 = .ok (.bipush 11, 2) := by decide +kernel
theorem dX0_call_54 : decode cX0_call 54 = .ok (.aload_n 1, 1) := by decide +kernel
theorem dX0_call_55 : decode cX0_call 55 = .ok (.getfield 165, 3) := by decide +kernel
theorem dX0_call_58 : decode cX0_call 58 = .ok (.getfield 117, 3) := by decide +kernel
theorem dX0_call_61 : decode cX0_call 61 = .ok (.invokevirtual 136, 3) := by decide +kernel
theorem hV_X0_arguments : yX0_arguments.cls = RX0 ∧ yX0_arguments.cls ≠ "java/lang/invoke/MethodHandle" ∧ yX0_arguments.cls ≠ "java/lang/invoke/VarHandle" ∧ (parseMethodDescriptor yX0_arguments.desc).map (fun d => d.parameters.length) = some 4 := by decide +kernel
set_option maxHeartbeats 16000000 in
set_option maxRecDepth 100000 in
theorem B_call (l : Launch) (G : pT) (h0 : Nat) (a : Nat → Nat) (F : Nat → Int32) (R : Nat → Value) (Z : Int64) (B : Nat → Nat → Int32) (J : Nat → Nat → Int64) (K : PK) (w : va_W) (pq : Nat) (dr : Nat) (ml : Nat) (nd : Nat) (nm : Nat) (cp : Nat) (it : Nat → Nat) (s9 : Nat) (q : Nat) (mq : Nat) (cs : Nat) (vr : Nat) (sz : Nat) (n : Nat) (g : Nat → Nat → Nat) (rk : Nat → Nat) (hsz : sz ≤ 5000) (hwp : WPr G K g) (hps : PgT G K g (a 1) pq dr ml nd nm cp it s9) (hrk : RkO K rk) (hcs : cs ≤ 10000) (hvr : vr ≤ 30) (hng : Nng (B 18)) (hmq : K.1 mq = 3) (hqT : K.1 q = 1) (hqL : 1 ≤ g 0 q ∧ g 0 q ≤ n) (hls : Lsf (K.2.1 0 q) 1) (ihv : IhV l G n) (hO : OKP G h0 a (upd (upd (upd F 2 (nI sz)) 5 (nI cs)) 12 (nI vr)) (updR (updR R 2 (.ref pq)) 3 (.ref mq)) Z B J K w) (hl0 : l.stackTraces = false) : PBn l G pX0 yX0_call cX0_call 4 (some .int) ({ frames := (5 * n + 33), cells := 1, slots := 6, locals := (200 * n + 560) }) [.ref (a 4), .ref q] w (fun (v : Option Value) (u : va_W × (PK × (Nat → Nat → Int32) × Nat × Int32 × Int32 × Int32 × Int32)) => v = some (.int u.2.2.2.2.2.2.2) ∧ (BdE K u.2.1) ∧ (Bth B u.2.2.1) ∧ (u.2.2.2.1 ≤ 10000) ∧ (OKP G h0 a (upd (upd (upd (upd (upd (upd F 2 (nI sz)) 5 (nI u.2.2.2.1)) 12 (nI vr)) 13 u.2.2.2.2.1) 14 u.2.2.2.2.2.1) 15 u.2.2.2.2.2.2.1) (updR (updR R 2 (.ref pq)) 3 (.ref mq)) Z u.2.2.1 J u.2.1 u.1)) (fun u => u.1) (fun (u : va_W × (PK × (Nat → Nat → Int32) × Nat × Int32 × Int32 × Int32 × Int32)) => 0) (fun (u : va_W × (PK × (Nat → Nat → Int32) × Nat × Int32 × Int32 × Int32 × Int32)) => 0) (fun (u : va_W × (Nat → Int32) × (Nat → Value) × (Nat → Nat → Int32)) => ThQ G h0 a (upd (upd (upd F 2 (nI sz)) 5 (nI cs)) 12 (nI vr)) (updR (updR R 2 (.ref pq)) 3 (.ref mq)) Z B J u) (fun u => u.1) := by
  intro sz
  refine vx_ofW (cc := cX0_call) (maxL := 4) (ret := (some .int)) (by decide) rfl ?_
  intro p e s m args below meth c s₁ B9 hml hnt hv
  obtain ⟨rfl, hsz, hP, hD0, hE, hX⟩ := hv
  have hx := B9.exec
  have hb := B9.bytes
  have hr := B9.returns
  have hts := atoms_spec (ws := Cond.code yX0_call cX0_call 4 (some .int) :: pw) B9.pre
  have hq : ∀ w ∈ pw, w.before _ s = true := fun w h => hts w (List.mem_cons_of_mem _ h)
  have hown : s.vm.findClass RX0 = some m.cls := findClass_of_methodNamed B9.named
  have hlocks := B9.notSynchronized
  subst hsz
  have hD := hD0.self (sz := s.heap.size)
  have hA : ∀ q : Nat, s.heap.size ≤ q → va_A w s.heap.size q := fun q h => Or.inr h
  generalize va_A w s.heap.size = A at hD hE hA ⊢
  have hS : va_S A s.heap s.heap [] := va_S.rf
  have hl := lv_entry ([.ref (a 4), .ref q]) (n := 4) (Nat.le_of_ble_eq_true rfl)
  rw [lg_entry_eq]
  generalize (lg_sl ([.ref (a 4), .ref q]) ++ List.replicate (4 - (lg_sl ([.ref (a 4), .ref q])).length) Slot.unset).toArray = ls at hl ⊢
  have hl : lv_has ls 4 [(0, .ref (a 4)), (1, .ref q)] := hl
  have hpg := hps.1
  have hp1 := hpg.1
  have hp2 := hpg.2.1
  have hp3 := hpg.2.2.1
  have hp4 := hpg.2.2.2.1
  have hp5 := hpg.2.2.2.2.1
  have hp6 := hpg.2.2.2.2.2.1
  have hp8 := hpg.2.2.2.2.2.2.2.1
  have hp9 := hpg.2.2.2.2.2.2.2.2
  obtain ⟨dO, hdO, htO⟩ := (hwp.2.2.2 mq hmq).2.1
  refine lv_aload_n hx hb dX0_call_0 rfl (lv_at hl 0 rfl) ?_
  refine c_get (v := .ref mq) (C := RX0) (Tc := TX0) (N := 13) (ci := 0) hx hb hq pin_wsX00 hown hE hP hO 24 (sg_24 G h0 a _ _ _ _ _) rfl 7 (by decide) (hq _ pw_72) (fun _ h9 => h9) rfl dX0_call_1 ?_
  refine p_get (v := .ref dO) (C := RX6) (Tc := TX6) (N := 12) (ci := 12) hx hb hq pin_wsX60 hown hE hP hO (by rw [hmq]; decide) (rep_3 hmq) rfl 0 (by decide) (hq _ pw_161) (fun _ h9 => h9) (congrArg (fun z => some (va_rf z)) hdO) dX0_call_4 ?_
  refine lv_astore_n (lv' := [(2, .ref dO), (0, .ref (a 4)), (1, .ref q)]) hx hb dX0_call_7 rfl hl (by decide) rfl (fun ls hl => ?_)
  refine lv_aload_n hx hb dX0_call_8 rfl (lv_at hl 2 rfl) ?_
  rcases ho2 : K.2.2.1 0 q with _ | o1
  · skip
    refine p_get (v := .null) (C := RX7) (Tc := TX7) (N := 11) (ci := 13) hx hb hq pin_wsX70 hown hE hP hO (by rw [hqT]; decide) (rep_1 hqT) rfl 6 (by decide) (hq _ pw_180) (fun _ h9 => h9) (congrArg (fun z => some (va_rf z)) ho2) dX0_call_9 ?_
    refine lv_ifnonnullN hx hb dX0_call_12 ?_
    refine lv_aload_n hx hb dX0_call_15 rfl (lv_at hl 1 rfl) ?_
    refine c_get (v := .ref (a 2)) (C := RX0) (Tc := TX0) (N := 13) (ci := 0) hx hb hq pin_wsX00 hown hE hP hO 24 (sg_24 G h0 a _ _ _ _ _) rfl 1 (by decide) (hq _ pw_5) (fun _ h9 => h9) rfl dX0_call_16 ?_
    refine lv_iconst (v := 2) hx hb dX0_call_19 (by decide) ?_
    refine lv_iconst (v := 0) hx hb dX0_call_20 (by decide) ?_
    refine lv_iconst (v := 0) hx hb dX0_call_21 (by decide) ?_
    have hO : OKW G h0 a (upd (upd (upd (upd F 2 (nI sz)) 5 (nI cs)) 12 (nI vr)) 5 (nI cs)) (updR (updR R 2 (.ref pq)) 3 (.ref mq)) Z B J K.1 (fun q99 x99 => x99 = rep G a K q99) w := hO.to rfl
    obtain ⟨_, qr6, hqr7⟩ := hO.2.1 13 _ (sg_13 G h0 a _ _ _ _ _)
    refine pc_V0 (G := G) (As := [.int 2, .int 0, .int (nI 0)]) (rest := []) hx hb hml hown hq hE hX pX0_al hP hD hS hA hl.1 (K_emit l G h0 a (upd (upd (upd F 2 (nI sz)) 5 (nI cs)) 12 (nI vr)) (updR (updR R 2 (.ref pq)) 3 (.ref mq)) Z B J K.1 (fun q99 x99 => x99 = rep G a K q99) w 2 0 0 cs (by omega) (by omega) hng hO) (gV pw_129 pw_130 pw_131 pw_70 pw_115) hV_X1_emit qr6 1 hqr7 rfl rfl rfl (Nat.le_of_ble_eq_true rfl) dX0_call_22 ⟨(by show 0 + 0 ≤ 1; omega), (by show 0 + 0 ≤ 6; omega)⟩ ⟨(by show 2 + 1 ≤ (5 * n + 33); omega), (by show 8 + (4 + 11) + 60 ≤ (200 * n + 560); omega)⟩ (fun v5 u3 H locs hw4 hP hD hS => ?_)
    obtain ⟨w, cs8, f9, f10, f11, f12⟩ := u3
    obtain ⟨hw4, h13, h14, hO⟩ := hw4
    have h13 : cs ≤ cs8 ∧ cs8 ≤ cs + 1 ∧ cs8 ≤ 10000 := h13
    have h14 : Nng f11 := h14
    obtain rfl : v5 = none := hw4
    have hO : OKP G h0 a (upd (upd (upd F 2 (nI sz)) 5 (nI cs8)) 12 (nI vr)) (updR (updR R 2 (.ref pq)) 3 (.ref mq)) Z (updA (updA (updA (updA B 16 f9) 17 f10) 18 f11) 19 f12) J K w := hO.to rfl
    refine W.widen (k := 0) (n := 0) (Nat.le_of_ble_eq_true rfl) (Nat.le_of_ble_eq_true rfl) ?_
    refine W.eq (g2 := F0 m 25 ls []) rfl ?_
    refine lv_goto (tgt := 64) hx hb dX0_call_25 (by decide) ?_
    refine lv_aload_n hx hb dX0_call_64 rfl (lv_at hl 1 rfl) ?_
    refine c_get (v := .ref (a 1)) (C := RX0) (Tc := TX0) (N := 13) (ci := 0) hx hb hq pin_wsX00 hown hE hP hO 24 (sg_24 G h0 a _ _ _ _ _) rfl 0 (by decide) (hq _ pw_4) (fun _ h9 => h9) rfl dX0_call_65 ?_
    refine lv_aload_n hx hb dX0_call_68 rfl (lv_at hl 2 rfl) ?_
    refine p_get (v := .int (K.2.1 1 q)) (C := RX7) (Tc := TX7) (N := 11) (ci := 13) hx hb hq pin_wsX70 hown hE hP hO (by rw [hqT]; decide) (rep_1 hqT) rfl 1 (by decide) (hq _ pw_81) (fun _ h9 => h9) rfl dX0_call_69 ?_
    have hO : OKW G h0 a (upd (upd (upd (upd F 2 (nI sz)) 5 (nI cs8)) 12 (nI vr)) 2 (nI sz)) (updR (updR R 2 (.ref pq)) 3 (.ref mq)) Z (updA (updA (updA (updA B 16 f9) 17 f10) 18 f11) 19 f12) J K.1 (fun q99 x99 => x99 = rep G a K q99) w := hO.to rfl
    obtain ⟨_, qr18, hqr19⟩ := hO.2.1 2 _ (sg_2 G h0 a _ _ _ _ _)
    refine pc_V0 (G := G) (As := [.int (K.2.1 1 q)]) (rest := []) hx hb hml hown hq hE hX pX0_al hP hD hS hA hl.1 (K_valueAt l G h0 a (upd (upd (upd F 2 (nI sz)) 5 (nI cs8)) 12 (nI vr)) (updR (updR R 2 (.ref pq)) 3 (.ref mq)) Z (updA (updA (updA (updA B 16 f9) 17 f10) 18 f11) 19 f12) J K.1 (fun q99 x99 => x99 = rep G a K q99) w (K.2.1 1 q) sz (by omega) hO) (gV pw_56 pw_57 pw_58 pw_59 pw_39) hV_X10_valueAt qr18 7 hqr19 rfl rfl rfl (Nat.le_of_ble_eq_true rfl) dX0_call_72 ⟨(by show 0 + 0 ≤ 1; omega), (by show 0 + 0 ≤ 6; omega)⟩ ⟨(by show 2 + 1 ≤ (5 * n + 33); omega), (by show 8 + (2 + 11) + 60 ≤ (200 * n + 560); omega)⟩ (fun v17 u15 H locs hw16 hP hD hS => ?_)
    obtain ⟨w, r20⟩ := u15
    obtain ⟨hw16, hO⟩ := hw16
    obtain rfl : v17 = some (.int r20) := hw16
    have hO : OKP G h0 a (upd (upd (upd F 2 (nI sz)) 5 (nI cs8)) 12 (nI vr)) (updR (updR R 2 (.ref pq)) 3 (.ref mq)) Z (updA (updA (updA (updA B 16 f9) 17 f10) 18 f11) 19 f12) J K w := hO.to rfl
    refine W.widen (k := 0) (n := 0) (Nat.le_of_ble_eq_true rfl) (Nat.le_of_ble_eq_true rfl) ?_
    refine W.eq (g2 := F0 m 75 ls [.int r20]) rfl ?_
    refine lv_istore_n (lv' := [(3, .int r20), (2, .ref dO), (0, .ref (a 4)), (1, .ref q)]) hx hb dX0_call_75 rfl hl (by decide) rfl (fun ls hl => ?_)
    refine lv_aload_n hx hb dX0_call_76 rfl (lv_at hl 2 rfl) ?_
    refine lv_aload_n hx hb dX0_call_77 rfl (lv_at hl 3 rfl) ?_
    refine lv_aload_n hx hb dX0_call_78 rfl (lv_at hl 1 rfl) ?_
    refine lv_ifnonnull (tgt := 86) hx hb dX0_call_79 (by decide) ?_
    refine lv_aload_n hx hb dX0_call_86 rfl (lv_at hl 1 rfl) ?_
    refine lv_iload_n hx hb dX0_call_87 rfl (lv_at hl 0 rfl) ?_
    have hO : OKP G h0 a (upd (upd (upd F 2 (nI sz)) 5 (nI cs8)) 12 (nI vr)) (updR (updR R 2 (.ref pq)) 3 (.ref mq)) Z (updA (updA (updA (updA B 16 f9) 17 f10) 18 f11) 19 f12) J K w := hO.to rfl
    obtain ⟨qr24, hqr25⟩ := p_recv hO (by rw [htO]; decide) (rep_4 htO)
    refine pc_V0 (G := G) (As := [.int r20]) (rest := [.ref q, .ref (a 4)]) hx hb hml hown hq hE hX pX0_al hP hD hS hA hl.1 (O_methodOf l G h0 a (upd (upd (upd F 2 (nI sz)) 5 (nI cs8)) 12 (nI vr)) (updR (updR R 2 (.ref pq)) 3 (.ref mq)) Z (updA (updA (updA (updA B 16 f9) 17 f10) 18 f11) 19 f12) J K w dO r20 g htO (BdE.wp BdE.rfl hwp) hO) (gV pw_184 pw_185 pw_186 pw_146 pw_125) hV_X2_methodOf qr24 2 hqr25 rfl rfl rfl (Nat.le_of_ble_eq_true rfl) dX0_call_88 ⟨(by show 0 + 0 ≤ 1; omega), (by show 0 + 0 ≤ 6; omega)⟩ ⟨(by show 5 + 1 ≤ (5 * n + 33); omega), (by show 8 + (3 + 11) + 124 ≤ (200 * n + 560); omega)⟩ (fun v23 u21 H locs hw22 hP hD hS => ?_)
    obtain ⟨w, o26⟩ := u21
    obtain ⟨hw22, h27, hO⟩ := hw22
    have h27 : MoN K o26 := h27
    obtain rfl : v23 = some ((va_rf o26)) := hw22
    have hO : OKP G h0 a (upd (upd (upd F 2 (nI sz)) 5 (nI cs8)) 12 (nI vr)) (updR (updR R 2 (.ref pq)) 3 (.ref mq)) Z (updA (updA (updA (updA B 16 f9) 17 f10) 18 f11) 19 f12) J K w := hO.to rfl
    refine W.widen (k := 0) (n := 0) (Nat.le_of_ble_eq_true rfl) (Nat.le_of_ble_eq_true rfl) ?_
    refine W.eq (g2 := F0 m 91 ls [(va_rf o26), .ref q, .ref (a 4)]) rfl ?_
    rcases o26 with _ | d28
    · have hl : lv_has ls 4 [(3, .int r20), (2, .ref dO), (0, .ref (a 4)), (1, .ref q)] := hl
      refine W.eq (g2 := F0 m 91 ls [.null, .ref q, .ref (a 4)]) rfl ?_
      refine lv_bipush (v := 23) hx hb dX0_call_91 (by decide) ?_
      refine lv_iload_n hx hb dX0_call_93 rfl (lv_at hl 0 rfl) ?_
      have hO : OKP G h0 a (upd (upd (upd (upd (upd F 2 (nI sz)) 5 (nI cs)) 12 (nI vr)) 5 (nI cs8)) 2 (nI sz)) (updR (updR R 2 (.ref pq)) 3 (.ref mq)) Z (updA (updA (updA (updA B 16 f9) 17 f10) 18 f11) 19 f12) J K w := hO.to rfl
      obtain ⟨_, qr32, hqr33⟩ := hO.2.1 24 _ (sg_24 G h0 a _ _ _ _ _)
      refine pn_V0 (G := G) (As := [.ref q, .null, .int 23, .int r20]) (rest := []) hx hb hml hown hq hE hX pX0_al hP hD hS hA hl.1 (B_argumentsN l G h0 a (upd (upd (upd (upd F 2 (nI sz)) 5 (nI cs)) 12 (nI vr)) 5 (nI cs8)) (updR (updR R 2 (.ref pq)) 3 (.ref mq)) Z (updA (updA (updA (updA B 16 f9) 17 f10) 18 f11) 19 f12) J K w q sz 23 r20 (by omega) hqT hO hl0) (gV pw_187 pw_188 pw_189 pw_63 pw_270) hV_X0_arguments qr32 0 hqr33 rfl rfl rfl (Nat.le_of_ble_eq_true rfl) dX0_call_94 ⟨(by show 0 + 1 ≤ 1; omega), (by show 0 + 6 ≤ 6; omega)⟩ ⟨(by show 7 + 1 ≤ (5 * n + 33); omega), (by show 8 + (7 + 11) + 122 ≤ (200 * n + 560); omega)⟩ (fun v31 u29 H locs hw30 hP hD hS => hw30.elim) (fun ux ce9 q9 H9 locs9 hux hP9 hD9 hS9 hce hcv hcl => pb_out ux (ThQ.up (Thx.same (Thx.b (Thx.b8 (Thx.b (Thx.b (Thx.f Thx.rfl (by omega)) (by omega) (by decide)) (by omega) (by decide)) h14) (by omega) (by decide)) rfl) RhX.rfl hux) hnt hlocks hce hcv hcl hP9 hD9 hS9 (by show 0 + 1 ≤ 1; omega) (by show 0 + 6 ≤ 6; omega))
    · have hl : lv_has ls 4 [(3, .int r20), (2, .ref dO), (0, .ref (a 4)), (1, .ref q)] := hl
      refine W.eq (g2 := F0 m 91 ls [.ref d28, .ref q, .ref (a 4)]) rfl ?_
      have hf34 : K.1 d28 = 3 := h27 d28 rfl
      refine lv_bipush (v := 23) hx hb dX0_call_91 (by decide) ?_
      refine lv_iload_n hx hb dX0_call_93 rfl (lv_at hl 0 rfl) ?_
      have hO : OKP G h0 a (upd (upd (upd (upd (upd (upd (upd F 2 (nI sz)) 5 (nI cs)) 12 (nI vr)) 5 (nI cs8)) 2 (nI sz)) 5 (nI cs8)) 12 (nI vr)) (updR (updR (updR (updR R 2 (.ref pq)) 3 (.ref mq)) 2 (.ref pq)) 3 (.ref mq)) Z (updA (updA (updA (updA B 16 f9) 17 f10) 18 f11) 19 f12) J K w := hO.to rfl
      obtain ⟨_, qr38, hqr39⟩ := hO.2.1 24 _ (sg_24 G h0 a _ _ _ _ _)
      refine pn_V0 (G := G) (As := [.ref q, .ref d28, .int 23, .int r20]) (rest := []) hx hb hml hown hq hE hX pX0_al hP hD hS hA hl.1 (B_arguments l G h0 a (upd (upd (upd (upd F 2 (nI sz)) 5 (nI cs)) 12 (nI vr)) 5 (nI cs8)) (updR (updR R 2 (.ref pq)) 3 (.ref mq)) Z (updA (updA (updA (updA B 16 f9) 17 f10) 18 f11) 19 f12) J K w pq dr ml nd nm cp it s9 q mq cs8 vr sz n d28 23 r20 g rk (by omega) (BdE.wp BdE.rfl hwp) (BdE.pt BdE.rfl hwp hps) (BdE.rko BdE.rfl hrk) (by omega) (by omega) h14 hmq hqT hqL hf34 (by rw [BdE.I BdE.rfl (by rw [hqT]; decide) (by decide) (by decide)]; exact hls) ihv hO hl0) (gV pw_187 pw_188 pw_189 pw_63 pw_270) hV_X0_arguments qr38 0 hqr39 rfl rfl rfl (Nat.le_of_ble_eq_true rfl) dX0_call_94 ⟨(by show 0 + 1 ≤ 1; omega), (by show 0 + 6 ≤ 6; omega)⟩ ⟨(by show (5 * n + 32) + 1 ≤ (5 * n + 33); omega), (by show 8 + (7 + 11) + (200 * n + 520) ≤ (200 * n + 560); omega)⟩ (fun v37 u35 H locs hw36 hP hD hS => ?_) (fun ux ce9 q9 H9 locs9 hux hP9 hD9 hS9 hce hcv hcl => pb_out ux (ThQ.up (Thx.same (Thx.same (Thx.same (Thx.b (Thx.b8 (Thx.b (Thx.b (Thx.f Thx.rfl (by omega)) (by omega) (by decide)) (by omega) (by decide)) h14) (by omega) (by decide)) rfl) rfl) rfl) (show RhX (updR (updR R 2 (.ref pq)) 3 (.ref mq)) (updR (updR (updR (updR R 2 (.ref pq)) 3 (.ref mq)) 2 (.ref pq)) 3 (.ref mq)) from fun k9 hk9 => by unfold updR; simp only [show ¬ k9 = 1 by omega, show ¬ k9 = 2 by omega, show ¬ k9 = 3 by omega, show ¬ k9 = 4 by omega, if_false]) hux) hnt hlocks hce hcv hcl hP9 hD9 hS9 (by show 0 + 1 ≤ 1; omega) (by show 0 + 6 ≤ 6; omega))
      obtain ⟨w, K40, B41, cs42, as43, wt44, wf45, r46⟩ := u35
      obtain ⟨hw36, h47, h48, h49, hO⟩ := hw36
      have h47 : BdE K K40 := h47
      have h48 : Bth (updA (updA (updA (updA B 16 f9) 17 f10) 18 f11) 19 f12) B41 := h48
      have h49 : cs42 ≤ 10000 := h49
      obtain rfl : v37 = some (.int r46) := hw36
      have hf50 : K40.1 pq = 7 := (BdE.T h47 hp1 (by decide))
      have hf51 : K40.2.2.1 18 pq = some (a 1) := (BdE.C h47 (by rw [hp1]; decide) 18).trans hp2
      have hf52 : K40.2.2.1 14 pq = some dr := (BdE.C h47 (by rw [hp1]; decide) 14).trans hp3
      have hf53 : K40.1 dr = 8 := (BdE.T h47 hp4 (by decide))
      have hf54 : K40.2.2.1 15 pq = some ml := (BdE.C h47 (by rw [hp1]; decide) 15).trans hp5
      have hf55 : K40.1 ml = 5 := (BdE.T h47 hp6 (by decide))
      have hf56 : K40.2.1 24 pq = (nI nd) := (BdE.I h47 (by rw [hp1]; decide) (by decide) (by decide)).trans hp8
      have hf57 : K40.1 q = 1 := (BdE.T h47 hqT (by decide))
      have hf58 : K40.1 mq = 3 := (BdE.T h47 hmq (by decide))
      have hf59 : K40.2.2.1 5 mq = some dO := (BdE.C h47 (by rw [hmq]; decide) 5).trans hdO
      have hf60 : K40.1 dO = 4 := (BdE.T h47 htO (by decide))
      have hf61 : K40.2.2.1 0 q = none := (BdE.C h47 (by rw [hqT]; decide) 0).trans ho2
      have hf62 : K40.1 d28 = 3 := (BdE.T h47 hf34 (by decide))
      have hO : OKP G h0 a (upd (upd (upd (upd (upd (upd F 2 (nI sz)) 5 (nI cs42)) 12 (nI vr)) 13 as43) 14 wt44) 15 wf45) (updR (updR R 2 (.ref pq)) 3 (.ref mq)) Z B41 J K40 w := hO.to rfl
      refine W.widen (k := 0) (n := 0) (by show 0 + 0 ≤ 0; omega) (by show 0 + 0 ≤ 0; omega) ?_
      refine W.eq (g2 := F0 m 97 ls [.int r46]) rfl ?_
      have hbe63 := BdE.trans BdE.rfl h47
      have hbb64 : Bth B B41 := Bth.trans (show Thx (upd (upd (upd F 2 (nI sz)) 5 (nI cs)) 12 (nI vr)) (upd (upd (upd (upd F 2 (nI sz)) 5 (nI cs)) 12 (nI vr)) 5 (nI cs8)) B (updA (updA (updA (updA B 16 f9) 17 f10) 18 f11) 19 f12) from (Thx.b (Thx.b8 (Thx.b (Thx.b (Thx.f Thx.rfl (by omega)) (by omega) (by decide)) (by omega) (by decide)) h14) (by omega) (by decide))).2 h48
      have hng65 : Nng (B41 18) := h48.2 h14
      refine W_size (fun hz1 hz2 => ?_)
      refine vx_ret ?_
      have hz66 : BdE K K40 := hbe63
      have hz67 : Bth B B41 := (show Thx (upd (upd (upd F 2 (nI sz)) 5 (nI cs)) 12 (nI vr)) (upd (upd (upd (upd (upd (upd (upd F 2 (nI sz)) 5 (nI cs)) 12 (nI vr)) 5 (nI cs42)) 13 as43) 14 wt44) 15 wf45) B B41 from (Thx.f (Thx.f (Thx.f (Thx.f (Bth.thx hbb64) (by omega)) (by omega)) (by omega)) (by omega))).2
      have hz68 : cs42 ≤ 10000 := (by omega)
      have hO : OKP G h0 a (upd (upd (upd (upd (upd (upd F 2 (nI sz)) 5 (nI cs42)) 12 (nI vr)) 13 as43) 14 wt44) 15 wf45) (updR (updR R 2 (.ref pq)) 3 (.ref mq)) Z B41 J K40 w := hO.to rfl
      refine W.widen (k := 1) (n := 6) (by omega) (by omega) ?_
      have hzz1 : H.size ≤ s.heap.size + (0) := (by have z : 0 ≤ 0 := (by omega); omega)
      have hzz2 : hSl H ≤ hSl s.heap + (0) := (by have z : 0 ≤ 0 := (by omega); omega)
      exact W.iret (v := r46) hx hb hr (fun t99 ht99 hW99 => ⟨⟨_, (w, (K40, B41, cs42, as43, wt44, wf45, r46)), rfl, ⟨rfl, hz66, hz67, hz68, hO⟩, by rw [ht99]; exact hP, hD, by rw [ht99]; exact hzz1, by rw [ht99]; exact hzz2⟩, hS.F ht99⟩) hS.2.2 dX0_call_97
  · have hcz := (hwp.1 q hqT hqL.1).2.1 0 o1 (by decide) ho2
    have hcT := hcz.1
    have hcv : 1 ≤ g 0 o1 ∧ g 0 o1 + 1 ≤ n := ⟨hcz.2.1, (by have z := hcz.2.2.1; omega)⟩
    refine p_get (v := .ref o1) (C := RX7) (Tc := TX7) (N := 11) (ci := 13) hx hb hq pin_wsX70 hown hE hP hO (by rw [hqT]; decide) (rep_1 hqT) rfl 6 (by decide) (hq _ pw_180) (fun _ h9 => h9) (congrArg (fun z => some (va_rf z)) ho2) dX0_call_9 ?_
    refine lv_ifnonnull (tgt := 28) hx hb dX0_call_12 (by decide) ?_
    refine lv_aload_n hx hb dX0_call_28 rfl (lv_at hl 1 rfl) ?_
    refine c_get (v := .ref pq) (C := RX0) (Tc := TX0) (N := 13) (ci := 0) hx hb hq pin_wsX00 hown hE hP hO 24 (sg_24 G h0 a _ _ _ _ _) rfl 6 (by decide) (hq _ pw_110) (fun _ h9 => h9) rfl dX0_call_29 ?_
    refine lv_aload_n hx hb dX0_call_32 rfl (lv_at hl 1 rfl) ?_
    refine lv_aload_n hx hb dX0_call_33 rfl (lv_at hl 2 rfl) ?_
    refine p_get (v := .ref o1) (C := RX7) (Tc := TX7) (N := 11) (ci := 13) hx hb hq pin_wsX70 hown hE hP hO (by rw [hqT]; decide) (rep_1 hqT) rfl 6 (by decide) (hq _ pw_180) (fun _ h9 => h9) (congrArg (fun z => some (va_rf z)) ho2) dX0_call_34 ?_
    have hO : OKP G h0 a (upd (upd (upd (upd (upd (upd F 2 (nI sz)) 5 (nI cs)) 12 (nI vr)) 2 (nI sz)) 5 (nI cs)) 12 (nI vr)) (updR (updR (updR (updR R 2 (.ref pq)) 3 (.ref mq)) 2 (.ref pq)) 3 (.ref mq)) Z B J K w := hO.to rfl
    obtain ⟨_, qr72, hqr73⟩ := hO.2.1 24 _ (sg_24 G h0 a _ _ _ _ _)
    refine pn_V0 (G := G) (As := [.ref o1]) (rest := [.ref pq]) hx hb hml hown hq hE hX pX0_al hP hD hS hA hl.1 ((ihv (by omega)) h0 a (upd (upd (upd F 2 (nI sz)) 5 (nI cs)) 12 (nI vr)) (updR (updR R 2 (.ref pq)) 3 (.ref mq)) Z B J K w pq dr ml nd nm cp it s9 o1 mq cs vr sz g rk (by omega) (BdE.wp BdE.rfl hwp) (BdE.pt BdE.rfl hwp hps) (BdE.rko BdE.rfl hrk) (by omega) (by omega) hng hmq hcT ⟨hcv.1, (by have z9 := hcv; omega)⟩ hO hl0) (gV pw_173 pw_174 pw_175 pw_63 pw_224) hV_X0_value qr72 0 hqr73 rfl rfl rfl (Nat.le_of_ble_eq_true rfl) dX0_call_37 ⟨(by show 0 + 1 ≤ 1; omega), (by show 0 + 6 ≤ 6; omega)⟩ ⟨(by show (5 * (n - 1) + 34) + 1 ≤ (5 * n + 33); omega), (by show 8 + (3 + 11) + (200 * (n - 1) + 600) ≤ (200 * n + 560); omega)⟩ (fun v71 u69 H locs hw70 hP hD hS => ?_) (fun ux ce9 q9 H9 locs9 hux hP9 hD9 hS9 hce hcv hcl => pb_out ux (ThQ.up (Thx.same (Thx.same (Thx.same Thx.rfl rfl) rfl) rfl) (show RhX (updR (updR R 2 (.ref pq)) 3 (.ref mq)) (updR (updR (updR (updR R 2 (.ref pq)) 3 (.ref mq)) 2 (.ref pq)) 3 (.ref mq)) from fun k9 hk9 => by unfold updR; simp only [show ¬ k9 = 1 by omega, show ¬ k9 = 2 by omega, show ¬ k9 = 3 by omega, show ¬ k9 = 4 by omega, if_false]) hux) hnt hlocks hce hcv hcl hP9 hD9 hS9 (by show 0 + 1 ≤ 1; omega) (by show 0 + 6 ≤ 6; omega))
    obtain ⟨w, K74, B75, cs76, as77, wt78, wf79, r80⟩ := u69
    obtain ⟨hw70, h81, h82, h83, hO⟩ := hw70
    have h81 : BdE K K74 := h81
    have h82 : Bth B B75 := h82
    have h83 : cs76 ≤ 10000 := h83
    obtain rfl : v71 = some (.int r80) := hw70
    have hf84 : K74.1 pq = 7 := (BdE.T h81 hp1 (by decide))
    have hf85 : K74.2.2.1 18 pq = some (a 1) := (BdE.C h81 (by rw [hp1]; decide) 18).trans hp2
    have hf86 : K74.2.2.1 14 pq = some dr := (BdE.C h81 (by rw [hp1]; decide) 14).trans hp3
    have hf87 : K74.1 dr = 8 := (BdE.T h81 hp4 (by decide))
    have hf88 : K74.2.2.1 15 pq = some ml := (BdE.C h81 (by rw [hp1]; decide) 15).trans hp5
    have hf89 : K74.1 ml = 5 := (BdE.T h81 hp6 (by decide))
    have hf90 : K74.2.1 24 pq = (nI nd) := (BdE.I h81 (by rw [hp1]; decide) (by decide) (by decide)).trans hp8
    have hf91 : K74.1 q = 1 := (BdE.T h81 hqT (by decide))
    have hf92 : K74.1 mq = 3 := (BdE.T h81 hmq (by decide))
    have hf93 : K74.2.2.1 5 mq = some dO := (BdE.C h81 (by rw [hmq]; decide) 5).trans hdO
    have hf94 : K74.1 dO = 4 := (BdE.T h81 htO (by decide))
    have hf95 : K74.2.2.1 0 q = some o1 := (BdE.C h81 (by rw [hqT]; decide) 0).trans ho2
    have hf96 : K74.1 o1 = 1 := (BdE.T h81 hcT (by decide))
    have hO : OKP G h0 a (upd (upd (upd (upd (upd (upd F 2 (nI sz)) 5 (nI cs76)) 12 (nI vr)) 13 as77) 14 wt78) 15 wf79) (updR (updR R 2 (.ref pq)) 3 (.ref mq)) Z B75 J K74 w := hO.to rfl
    refine W.widen (k := 0) (n := 0) (by show 0 + 0 ≤ 0; omega) (by show 0 + 0 ≤ 0; omega) ?_
    refine W.eq (g2 := F0 m 40 ls [.int r80, .ref pq]) rfl ?_
    have hbe97 := BdE.trans BdE.rfl h81
    have hbb98 : Bth B B75 := Bth.trans (show Thx (upd (upd (upd F 2 (nI sz)) 5 (nI cs)) 12 (nI vr)) (upd (upd (upd F 2 (nI sz)) 5 (nI cs)) 12 (nI vr)) B B from Thx.rfl).2 h82
    have hng99 : Nng (B75 18) := h82.2 hng
    have hO : OKP G h0 a (upd (upd (upd (upd (upd (upd F 2 (nI sz)) 5 (nI cs76)) 12 (nI vr)) 13 as77) 14 wt78) 15 wf79) (updR (updR R 2 (.ref pq)) 3 (.ref mq)) Z B75 J K74 w := hO.to rfl
    obtain ⟨qr103, hqr104⟩ := p_recv hO (by rw [hf84]; decide) (rep_7 hf84)
    refine pc_V0 (G := G) (As := [.int r80]) (rest := []) hx hb hml hown hq hE hX pX0_al hP hD hS hA hl.1 (G_decl l G h0 a (upd (upd (upd (upd (upd (upd F 2 (nI sz)) 5 (nI cs76)) 12 (nI vr)) 13 as77) 14 wt78) 15 wf79) (updR (updR R 2 (.ref pq)) 3 (.ref mq)) Z B75 J K74 w pq dr ml nd r80 g (BdE.pt hbe97 hwp hps).1 (BdE.pt hbe97 hwp hps).2.1 hO) (gV pw_181 pw_182 pw_183 pw_106 pw_13) hV_X9_decl qr103 6 hqr104 rfl rfl rfl (Nat.le_of_ble_eq_true rfl) dX0_call_40 ⟨(by show 0 + 0 ≤ 1; omega), (by show 0 + 0 ≤ 6; omega)⟩ ⟨(by show 2 + 1 ≤ (5 * n + 33); omega), (by show 8 + (2 + 11) + 60 ≤ (200 * n + 560); omega)⟩ (fun v102 u100 H locs hw101 hP hD hS => ?_)
    obtain ⟨w, o105⟩ := u100
    obtain ⟨hw101, h106, h107, hO⟩ := hw101
    have h106 : DoN K74 o105 := h106
    have h107 : DoK K74 dr nd r80 o105 := h107
    obtain rfl : v102 = some ((va_rf o105)) := hw101
    have hO : OKP G h0 a (upd (upd (upd (upd (upd (upd F 2 (nI sz)) 5 (nI cs76)) 12 (nI vr)) 13 as77) 14 wt78) 15 wf79) (updR (updR R 2 (.ref pq)) 3 (.ref mq)) Z B75 J K74 w := hO.to rfl
    refine W.widen (k := 0) (n := 0) (Nat.le_of_ble_eq_true rfl) (Nat.le_of_ble_eq_true rfl) ?_
    refine W.eq (g2 := F0 m 43 ls [(va_rf o105)]) rfl ?_
    rcases o105 with _ | d108
    · have hl : lv_has ls 4 [(2, .ref dO), (0, .ref (a 4)), (1, .ref q)] := hl
      refine W.eq (g2 := F0 m 43 ls [.null]) rfl ?_
      refine lv_astore_nN (lv' := [(2, .null), (0, .ref (a 4)), (1, .ref q)]) hx hb dX0_call_43 rfl hl (by decide) rfl (fun ls hl => ?_)
      refine lv_aload_nN hx hb dX0_call_44 rfl (lv_at hl 0 rfl) ?_
      refine lv_ifnonnullN hx hb dX0_call_45 ?_
      refine lv_aload_n hx hb dX0_call_48 rfl (lv_at hl 1 rfl) ?_
      refine c_get (v := .ref (a 1)) (C := RX0) (Tc := TX0) (N := 13) (ci := 0) hx hb hq pin_wsX00 hown hE hP hO 24 (sg_24 G h0 a _ _ _ _ _) rfl 0 (by decide) (hq _ pw_4) (fun _ h9 => h9) rfl dX0_call_49 ?_
      refine lv_bipush (v := 11) hx hb dX0_call_52 (by decide) ?_
      refine lv_aload_n hx hb dX0_call_54 rfl (lv_at hl 2 rfl) ?_
      refine p_get (v := .ref o1) (C := RX7) (Tc := TX7) (N := 11) (ci := 13) hx hb hq pin_wsX70 hown hE hP hO (by rw [hf91]; decide) (rep_1 hf91) rfl 6 (by decide) (hq _ pw_180) (fun _ h9 => h9) (congrArg (fun z => some (va_rf z)) hf95) dX0_call_55 ?_
      refine p_get (v := .int (K74.2.1 2 o1)) (C := RX7) (Tc := TX7) (N := 11) (ci := 13) hx hb hq pin_wsX70 hown hE hP hO (by rw [hf96]; decide) (rep_1 hf96) rfl 2 (by decide) (hq _ pw_82) (fun _ h9 => h9) rfl dX0_call_58 ?_
      have hO : OKW G h0 a (upd (upd (upd (upd (upd (upd (upd (upd F 2 (nI sz)) 5 (nI cs)) 12 (nI vr)) 5 (nI cs76)) 13 as77) 14 wt78) 15 wf79) 2 (nI sz)) (updR (updR R 2 (.ref pq)) 3 (.ref mq)) Z B75 J K74.1 (fun q99 x99 => x99 = rep G a K74 q99) w := hO.to rfl
      obtain ⟨_, qr112, hqr113⟩ := hO.2.1 2 _ (sg_2 G h0 a _ _ _ _ _)
      refine pn_V0 (G := G) (As := [.int 11, .int (K74.2.1 2 o1)]) (rest := []) hx hb hml hown hq hE hX pX0_al hP hD hS hA hl.1 (K_fail l G h0 a (upd (upd (upd (upd (upd (upd (upd F 2 (nI sz)) 5 (nI cs)) 12 (nI vr)) 5 (nI cs76)) 13 as77) 14 wt78) 15 wf79) (updR (updR R 2 (.ref pq)) 3 (.ref mq)) Z B75 J K74.1 (fun q99 x99 => x99 = rep G a K74 q99) w 11 (K74.2.1 2 o1) sz (by omega) hO hl0) (gV pw_64 pw_65 pw_66 pw_59 pw_43) hV_X10_fail qr112 7 hqr113 rfl rfl rfl (Nat.le_of_ble_eq_true rfl) dX0_call_61 ⟨(by show 0 + 1 ≤ 1; omega), (by show 0 + 6 ≤ 6; omega)⟩ ⟨(by show 6 + 1 ≤ (5 * n + 33); omega), (by show 8 + (3 + 11) + 100 ≤ (200 * n + 560); omega)⟩ (fun v111 u109 H locs hw110 hP hD hS => hw110.elim) (fun ux ce9 q9 H9 locs9 hux hP9 hD9 hS9 hce hcv hcl => pb_out ux (ThQ.up (Thx.same (Thx.f (Thx.f (Thx.f (Thx.f (Bth.thx hbb98) (by omega)) (by omega)) (by omega)) (by omega)) rfl) RhX.rfl hux) hnt hlocks hce hcv hcl hP9 hD9 hS9 (by show 0 + 1 ≤ 1; omega) (by show 0 + 6 ≤ 6; omega))
    · have hl : lv_has ls 4 [(2, .ref dO), (0, .ref (a 4)), (1, .ref q)] := hl
      refine W.eq (g2 := F0 m 43 ls [.ref d108]) rfl ?_
      have hf114 : K74.1 d108 = 4 := h106 d108 rfl
      refine lv_astore_n (lv' := [(2, .ref d108), (0, .ref (a 4)), (1, .ref q)]) hx hb dX0_call_43 rfl hl (by decide) rfl (fun ls hl => ?_)
      refine lv_aload_n hx hb dX0_call_44 rfl (lv_at hl 0 rfl) ?_
      refine lv_ifnonnull (tgt := 64) hx hb dX0_call_45 (by decide) ?_
      refine lv_aload_n hx hb dX0_call_64 rfl (lv_at hl 1 rfl) ?_
      refine c_get (v := .ref (a 1)) (C := RX0) (Tc := TX0) (N := 13) (ci := 0) hx hb hq pin_wsX00 hown hE hP hO 24 (sg_24 G h0 a _ _ _ _ _) rfl 0 (by decide) (hq _ pw_4) (fun _ h9 => h9) rfl dX0_call_65 ?_
      refine lv_aload_n hx hb dX0_call_68 rfl (lv_at hl 2 rfl) ?_
      refine p_get (v := .int (K74.2.1 1 q)) (C := RX7) (Tc := TX7) (N := 11) (ci := 13) hx hb hq pin_wsX70 hown hE hP hO (by rw [hf91]; decide) (rep_1 hf91) rfl 1 (by decide) (hq _ pw_81) (fun _ h9 => h9) rfl dX0_call_69 ?_
      have hO : OKW G h0 a (upd (upd (upd (upd (upd (upd (upd F 2 (nI sz)) 5 (nI cs76)) 12 (nI vr)) 13 as77) 14 wt78) 15 wf79) 2 (nI sz)) (updR (updR R 2 (.ref pq)) 3 (.ref mq)) Z B75 J K74.1 (fun q99 x99 => x99 = rep G a K74 q99) w := hO.to rfl
      obtain ⟨_, qr118, hqr119⟩ := hO.2.1 2 _ (sg_2 G h0 a _ _ _ _ _)
      refine pc_V0 (G := G) (As := [.int (K74.2.1 1 q)]) (rest := []) hx hb hml hown hq hE hX pX0_al hP hD hS hA hl.1 (K_valueAt l G h0 a (upd (upd (upd (upd (upd (upd F 2 (nI sz)) 5 (nI cs76)) 12 (nI vr)) 13 as77) 14 wt78) 15 wf79) (updR (updR R 2 (.ref pq)) 3 (.ref mq)) Z B75 J K74.1 (fun q99 x99 => x99 = rep G a K74 q99) w (K74.2.1 1 q) sz (by omega) hO) (gV pw_56 pw_57 pw_58 pw_59 pw_39) hV_X10_valueAt qr118 7 hqr119 rfl rfl rfl (Nat.le_of_ble_eq_true rfl) dX0_call_72 ⟨(by show 0 + 0 ≤ 1; omega), (by show 0 + 0 ≤ 6; omega)⟩ ⟨(by show 2 + 1 ≤ (5 * n + 33); omega), (by show 8 + (2 + 11) + 60 ≤ (200 * n + 560); omega)⟩ (fun v117 u115 H locs hw116 hP hD hS => ?_)
      obtain ⟨w, r120⟩ := u115
      obtain ⟨hw116, hO⟩ := hw116
      obtain rfl : v117 = some (.int r120) := hw116
      have hO : OKP G h0 a (upd (upd (upd (upd (upd (upd F 2 (nI sz)) 5 (nI cs76)) 12 (nI vr)) 13 as77) 14 wt78) 15 wf79) (updR (updR R 2 (.ref pq)) 3 (.ref mq)) Z B75 J K74 w := hO.to rfl
      refine W.widen (k := 0) (n := 0) (Nat.le_of_ble_eq_true rfl) (Nat.le_of_ble_eq_true rfl) ?_
      refine W.eq (g2 := F0 m 75 ls [.int r120]) rfl ?_
      refine lv_istore_n (lv' := [(3, .int r120), (2, .ref d108), (0, .ref (a 4)), (1, .ref q)]) hx hb dX0_call_75 rfl hl (by decide) rfl (fun ls hl => ?_)
      refine lv_aload_n hx hb dX0_call_76 rfl (lv_at hl 2 rfl) ?_
      refine lv_aload_n hx hb dX0_call_77 rfl (lv_at hl 3 rfl) ?_
      refine lv_aload_n hx hb dX0_call_78 rfl (lv_at hl 1 rfl) ?_
      refine lv_ifnonnull (tgt := 86) hx hb dX0_call_79 (by decide) ?_
      refine lv_aload_n hx hb dX0_call_86 rfl (lv_at hl 1 rfl) ?_
      refine lv_iload_n hx hb dX0_call_87 rfl (lv_at hl 0 rfl) ?_
      have hO : OKP G h0 a (upd (upd (upd (upd (upd (upd F 2 (nI sz)) 5 (nI cs76)) 12 (nI vr)) 13 as77) 14 wt78) 15 wf79) (updR (updR R 2 (.ref pq)) 3 (.ref mq)) Z B75 J K74 w := hO.to rfl
      obtain ⟨qr124, hqr125⟩ := p_recv hO (by rw [hf114]; decide) (rep_4 hf114)
      refine pc_V0 (G := G) (As := [.int r120]) (rest := [.ref q, .ref (a 4)]) hx hb hml hown hq hE hX pX0_al hP hD hS hA hl.1 (O_methodOf l G h0 a (upd (upd (upd (upd (upd (upd F 2 (nI sz)) 5 (nI cs76)) 12 (nI vr)) 13 as77) 14 wt78) 15 wf79) (updR (updR R 2 (.ref pq)) 3 (.ref mq)) Z B75 J K74 w d108 r120 g hf114 (BdE.wp hbe97 hwp) hO) (gV pw_184 pw_185 pw_186 pw_146 pw_125) hV_X2_methodOf qr124 2 hqr125 rfl rfl rfl (Nat.le_of_ble_eq_true rfl) dX0_call_88 ⟨(by show 0 + 0 ≤ 1; omega), (by show 0 + 0 ≤ 6; omega)⟩ ⟨(by show 5 + 1 ≤ (5 * n + 33); omega), (by show 8 + (3 + 11) + 124 ≤ (200 * n + 560); omega)⟩ (fun v123 u121 H locs hw122 hP hD hS => ?_)
      obtain ⟨w, o126⟩ := u121
      obtain ⟨hw122, h127, hO⟩ := hw122
      have h127 : MoN K74 o126 := h127
      obtain rfl : v123 = some ((va_rf o126)) := hw122
      have hO : OKP G h0 a (upd (upd (upd (upd (upd (upd F 2 (nI sz)) 5 (nI cs76)) 12 (nI vr)) 13 as77) 14 wt78) 15 wf79) (updR (updR R 2 (.ref pq)) 3 (.ref mq)) Z B75 J K74 w := hO.to rfl
      refine W.widen (k := 0) (n := 0) (Nat.le_of_ble_eq_true rfl) (Nat.le_of_ble_eq_true rfl) ?_
      refine W.eq (g2 := F0 m 91 ls [(va_rf o126), .ref q, .ref (a 4)]) rfl ?_
      rcases o126 with _ | d128
      · have hl : lv_has ls 4 [(3, .int r120), (2, .ref d108), (0, .ref (a 4)), (1, .ref q)] := hl
        refine W.eq (g2 := F0 m 91 ls [.null, .ref q, .ref (a 4)]) rfl ?_
        refine lv_bipush (v := 23) hx hb dX0_call_91 (by decide) ?_
        refine lv_iload_n hx hb dX0_call_93 rfl (lv_at hl 0 rfl) ?_
        have hO : OKP G h0 a (upd (upd (upd (upd (upd (upd (upd (upd F 2 (nI sz)) 5 (nI cs)) 12 (nI vr)) 5 (nI cs76)) 13 as77) 14 wt78) 15 wf79) 2 (nI sz)) (updR (updR R 2 (.ref pq)) 3 (.ref mq)) Z B75 J K74 w := hO.to rfl
        obtain ⟨_, qr132, hqr133⟩ := hO.2.1 24 _ (sg_24 G h0 a _ _ _ _ _)
        refine pn_V0 (G := G) (As := [.ref q, .null, .int 23, .int r120]) (rest := []) hx hb hml hown hq hE hX pX0_al hP hD hS hA hl.1 (B_argumentsN l G h0 a (upd (upd (upd (upd (upd (upd (upd F 2 (nI sz)) 5 (nI cs)) 12 (nI vr)) 5 (nI cs76)) 13 as77) 14 wt78) 15 wf79) (updR (updR R 2 (.ref pq)) 3 (.ref mq)) Z B75 J K74 w q sz 23 r120 (by omega) hf91 hO hl0) (gV pw_187 pw_188 pw_189 pw_63 pw_270) hV_X0_arguments qr132 0 hqr133 rfl rfl rfl (Nat.le_of_ble_eq_true rfl) dX0_call_94 ⟨(by show 0 + 1 ≤ 1; omega), (by show 0 + 6 ≤ 6; omega)⟩ ⟨(by show 7 + 1 ≤ (5 * n + 33); omega), (by show 8 + (7 + 11) + 122 ≤ (200 * n + 560); omega)⟩ (fun v131 u129 H locs hw130 hP hD hS => hw130.elim) (fun ux ce9 q9 H9 locs9 hux hP9 hD9 hS9 hce hcv hcl => pb_out ux (ThQ.up (Thx.same (Thx.f (Thx.f (Thx.f (Thx.f (Bth.thx hbb98) (by omega)) (by omega)) (by omega)) (by omega)) rfl) RhX.rfl hux) hnt hlocks hce hcv hcl hP9 hD9 hS9 (by show 0 + 1 ≤ 1; omega) (by show 0 + 6 ≤ 6; omega))
      · have hl : lv_has ls 4 [(3, .int r120), (2, .ref d108), (0, .ref (a 4)), (1, .ref q)] := hl
        refine W.eq (g2 := F0 m 91 ls [.ref d128, .ref q, .ref (a 4)]) rfl ?_
        have hf134 : K74.1 d128 = 3 := h127 d128 rfl
        refine lv_bipush (v := 23) hx hb dX0_call_91 (by decide) ?_
        refine lv_iload_n hx hb dX0_call_93 rfl (lv_at hl 0 rfl) ?_
        have hO : OKP G h0 a (upd (upd (upd (upd (upd (upd (upd (upd (upd (upd F 2 (nI sz)) 5 (nI cs)) 12 (nI vr)) 5 (nI cs76)) 13 as77) 14 wt78) 15 wf79) 2 (nI sz)) 5 (nI cs76)) 12 (nI vr)) (updR (updR (updR (updR R 2 (.ref pq)) 3 (.ref mq)) 2 (.ref pq)) 3 (.ref mq)) Z B75 J K74 w := hO.to rfl
        obtain ⟨_, qr138, hqr139⟩ := hO.2.1 24 _ (sg_24 G h0 a _ _ _ _ _)
        refine pn_V0 (G := G) (As := [.ref q, .ref d128, .int 23, .int r120]) (rest := []) hx hb hml hown hq hE hX pX0_al hP hD hS hA hl.1 (B_arguments l G h0 a (upd (upd (upd (upd (upd (upd (upd F 2 (nI sz)) 5 (nI cs)) 12 (nI vr)) 5 (nI cs76)) 13 as77) 14 wt78) 15 wf79) (updR (updR R 2 (.ref pq)) 3 (.ref mq)) Z B75 J K74 w pq dr ml nd nm cp it s9 q mq cs76 vr sz n d128 23 r120 g rk (by omega) (BdE.wp hbe97 hwp) (BdE.pt hbe97 hwp hps) (BdE.rko hbe97 hrk) (by omega) (by omega) hng99 hf92 hf91 hqL hf134 (by rw [BdE.I hbe97 (by rw [hqT]; decide) (by decide) (by decide)]; exact hls) ihv hO hl0) (gV pw_187 pw_188 pw_189 pw_63 pw_270) hV_X0_arguments qr138 0 hqr139 rfl rfl rfl (Nat.le_of_ble_eq_true rfl) dX0_call_94 ⟨(by show 0 + 1 ≤ 1; omega), (by show 0 + 6 ≤ 6; omega)⟩ ⟨(by show (5 * n + 32) + 1 ≤ (5 * n + 33); omega), (by show 8 + (7 + 11) + (200 * n + 520) ≤ (200 * n + 560); omega)⟩ (fun v137 u135 H locs hw136 hP hD hS => ?_) (fun ux ce9 q9 H9 locs9 hux hP9 hD9 hS9 hce hcv hcl => pb_out ux (ThQ.up (Thx.same (Thx.same (Thx.same (Thx.f (Thx.f (Thx.f (Thx.f (Bth.thx hbb98) (by omega)) (by omega)) (by omega)) (by omega)) rfl) rfl) rfl) (show RhX (updR (updR R 2 (.ref pq)) 3 (.ref mq)) (updR (updR (updR (updR R 2 (.ref pq)) 3 (.ref mq)) 2 (.ref pq)) 3 (.ref mq)) from fun k9 hk9 => by unfold updR; simp only [show ¬ k9 = 1 by omega, show ¬ k9 = 2 by omega, show ¬ k9 = 3 by omega, show ¬ k9 = 4 by omega, if_false]) hux) hnt hlocks hce hcv hcl hP9 hD9 hS9 (by show 0 + 1 ≤ 1; omega) (by show 0 + 6 ≤ 6; omega))
        obtain ⟨w, K140, B141, cs142, as143, wt144, wf145, r146⟩ := u135
        obtain ⟨hw136, h147, h148, h149, hO⟩ := hw136
        have h147 : BdE K74 K140 := h147
        have h148 : Bth B75 B141 := h148
        have h149 : cs142 ≤ 10000 := h149
        obtain rfl : v137 = some (.int r146) := hw136
        have hf150 : K140.1 pq = 7 := (BdE.T h147 hf84 (by decide))
        have hf151 : K140.2.2.1 18 pq = some (a 1) := (BdE.C h147 (by rw [hf84]; decide) 18).trans hf85
        have hf152 : K140.2.2.1 14 pq = some dr := (BdE.C h147 (by rw [hf84]; decide) 14).trans hf86
        have hf153 : K140.1 dr = 8 := (BdE.T h147 hf87 (by decide))
        have hf154 : K140.2.2.1 15 pq = some ml := (BdE.C h147 (by rw [hf84]; decide) 15).trans hf88
        have hf155 : K140.1 ml = 5 := (BdE.T h147 hf89 (by decide))
        have hf156 : K140.2.1 24 pq = (nI nd) := (BdE.I h147 (by rw [hf84]; decide) (by decide) (by decide)).trans hf90
        have hf157 : K140.1 q = 1 := (BdE.T h147 hf91 (by decide))
        have hf158 : K140.1 mq = 3 := (BdE.T h147 hf92 (by decide))
        have hf159 : K140.2.2.1 5 mq = some dO := (BdE.C h147 (by rw [hf92]; decide) 5).trans hf93
        have hf160 : K140.1 dO = 4 := (BdE.T h147 hf94 (by decide))
        have hf161 : K140.2.2.1 0 q = some o1 := (BdE.C h147 (by rw [hf91]; decide) 0).trans hf95
        have hf162 : K140.1 o1 = 1 := (BdE.T h147 hf96 (by decide))
        have hf163 : K140.1 d108 = 4 := (BdE.T h147 hf114 (by decide))
        have hf164 : K140.1 d128 = 3 := (BdE.T h147 hf134 (by decide))
        have hO : OKP G h0 a (upd (upd (upd (upd (upd (upd F 2 (nI sz)) 5 (nI cs142)) 12 (nI vr)) 13 as143) 14 wt144) 15 wf145) (updR (updR R 2 (.ref pq)) 3 (.ref mq)) Z B141 J K140 w := hO.to rfl
        refine W.widen (k := 0) (n := 0) (by show 0 + 0 ≤ 0; omega) (by show 0 + 0 ≤ 0; omega) ?_
        refine W.eq (g2 := F0 m 97 ls [.int r146]) rfl ?_
        have hbe165 := BdE.trans hbe97 h147
        have hbb166 : Bth B B141 := Bth.trans (show Thx (upd (upd (upd F 2 (nI sz)) 5 (nI cs)) 12 (nI vr)) (upd (upd (upd (upd (upd (upd (upd F 2 (nI sz)) 5 (nI cs)) 12 (nI vr)) 5 (nI cs76)) 13 as77) 14 wt78) 15 wf79) B B75 from (Thx.f (Thx.f (Thx.f (Thx.f (Bth.thx hbb98) (by omega)) (by omega)) (by omega)) (by omega))).2 h148
        have hng167 : Nng (B141 18) := h148.2 hng99
        refine W_size (fun hz1 hz2 => ?_)
        refine vx_ret ?_
        have hz168 : BdE K K140 := hbe165
        have hz169 : Bth B B141 := (show Thx (upd (upd (upd F 2 (nI sz)) 5 (nI cs)) 12 (nI vr)) (upd (upd (upd (upd (upd (upd (upd F 2 (nI sz)) 5 (nI cs)) 12 (nI vr)) 5 (nI cs142)) 13 as143) 14 wt144) 15 wf145) B B141 from (Thx.f (Thx.f (Thx.f (Thx.f (Bth.thx hbb166) (by omega)) (by omega)) (by omega)) (by omega))).2
        have hz170 : cs142 ≤ 10000 := (by omega)
        have hO : OKP G h0 a (upd (upd (upd (upd (upd (upd F 2 (nI sz)) 5 (nI cs142)) 12 (nI vr)) 13 as143) 14 wt144) 15 wf145) (updR (updR R 2 (.ref pq)) 3 (.ref mq)) Z B141 J K140 w := hO.to rfl
        refine W.widen (k := 1) (n := 6) (by omega) (by omega) ?_
        have hzz1 : H.size ≤ s.heap.size + (0) := (by have z : 0 ≤ 0 := (by omega); omega)
        have hzz2 : hSl H ≤ hSl s.heap + (0) := (by have z : 0 ≤ 0 := (by omega); omega)
        exact W.iret (v := r146) hx hb hr (fun t99 ht99 hW99 => ⟨⟨_, (w, (K140, B141, cs142, as143, wt144, wf145, r146)), rfl, ⟨rfl, hz168, hz169, hz170, hO⟩, by rw [ht99]; exact hP, hD, by rw [ht99]; exact hzz1, by rw [ht99]; exact hzz2⟩, hS.F ht99⟩) hS.2.2 dX0_call_97
theorem dX0_superCall_0 : decode cX0_superCall 0 = .ok (.aload_n 0, 1) := by decide +kernel
theorem dX0_superCall_1 : decode cX0_superCall 1 = .ok (.getfield 15, 3) := by decide +kernel
theorem dX0_superCall_4 : decode cX0_superCall 4 = .ok (.iconst 2, 1) := by decide +kernel
theorem dX0_superCall_5 : decode cX0_superCall 5 = .ok (.iconst 0, 1) := by decide +kernel
theorem dX0_superCall_6 : decode cX0_superCall 6 = .ok (.iconst 0, 1) := by decide +kernel
theorem dX0_superCall_7 : decode cX0_superCall 7 = .ok (.invokevirtual 140, 3) := by decide +kernel
theorem dX0_superCall_10 : decode cX0_superCall 10 = .ok (.aload_n 0, 1) := by decide +kernel
theorem dX0_superCall_11 : decode cX0_superCall 11 = .ok (.getfield 69, 3) := by decide +kernel
theorem dX0_superCall_14 : decode cX0_superCall 14 = .ok (.getfield 229, 3) := by decide +kernel
theorem dX0_superCall_17 : decode cX0_superCall 17 = .ok (.getfield 365, 3) := by decide +kernel
theorem dX0_superCall_20 : decode cX0_superCall 20 = .ok (.astore_n 2, 1) := by decide +kernel
theorem dX0_superCall_21 : decode cX0_superCall 21 = .ok (.aload_n 2, 1) := by decide +kernel
theorem dX0_superCall_22 : decode cX0_superCall 22 = .ok (.ifnonnull 7, 3) := by decide +kernel
theorem dX0_superCall_25 : decode cX0_superCall 25 = .ok (.aconst_null, 1) := by decide +kernel
theorem dX0_superCall_26 : decode cX0_superCall 26 = .ok (.goto 18, 3) := by decide +kernel
theorem dX0_superCall_44 : decode cX0_superCall 44 = .ok (.astore_n 3, 1) := by decide +kernel
theorem dX0_superCall_45 : decode cX0_superCall 45 = .ok (.aload_n 0, 1) := by decide +kernel
theorem dX0_superCall_46 : decode cX0_superCall 46 = .ok (.aload_n 1, 1) := by decide +kernel
theorem dX0_superCall_47 : decode cX0_superCall 47 = .ok (.aload_n 3, 1) := by decide +kernel
theorem dX0_superCall_48 : decode cX0_superCall 48 = .ok (.bipush 24, 2) := by decide +kernel
theorem dX0_superCall_50 : decode cX0_superCall 50 = .ok (.aload_n 3, 1) := by decide +kernel
theorem dX0_superCall_51 : decode cX0_superCall 51 = .ok (.ifnonnull 7, 3) := by decide +kernel
theorem dX0_superCall_54 : decode cX0_superCall 54 = .ok (.iconst (-1), 1) := by decide +kernel
theorem dX0_superCall_55 : decode cX0_superCall 55 = .ok (.goto 7, 3) := by decide +kernel
theorem dX0_superCall_62 : decode cX0_superCall 62 = .ok (.invokevirtual 361, 3) := by decide +kernel
theorem dX0_superCall_29 : decode cX0_superCall 29 = .ok (.aload_n 2, 1) := by decide +kernel
theorem dX0_superCall_30 : decode cX0_superCall 30 = .ok (.aload_n 0, 1) := by decide +kernel
theorem dX0_superCall_31 : decode cX0_superCall 31 = .ok (.getfield 9, 3) := by decide +kernel
theorem dX0_superCall_34 : decode cX0_superCall 34 = .ok (.aload_n 1, 1) := by decide +kernel
theorem dX0_superCall_35 : decode cX0_superCall 35 = .ok (.getfield 114, 3) := by decide +kernel
theorem dX0_superCall_38 : decode cX0_superCall 38 = .ok (.invokevirtual 152, 3) := by decide +kernel
theorem dX0_superCall_41 : decode cX0_superCall 41 = .ok (.invokevirtual 368, 3) := by decide +kernel
theorem dX0_superCall_58 : decode cX0_superCall 58 = .ok (.aload_n 3, 1) := by decide +kernel
theorem dX0_superCall_59 : decode cX0_superCall 59 = .ok (.getfield 371, 3) := by decide +kernel
theorem dX0_superCall_65 : decode cX0_superCall 65 = .ok (.ireturn, 1) := by decide +kernel
set_option maxHeartbeats 16000000 in
set_option maxRecDepth 100000 in
theorem B_superCall (l : Launch) (G : pT) (h0 : Nat) (a : Nat → Nat) (F : Nat → Int32) (R : Nat → Value) (Z : Int64) (B : Nat → Nat → Int32) (J : Nat → Nat → Int64) (K : PK) (w : va_W) (pq : Nat) (dr : Nat) (ml : Nat) (nd : Nat) (nm : Nat) (cp : Nat) (it : Nat → Nat) (s9 : Nat) (q : Nat) (mq : Nat) (cs : Nat) (vr : Nat) (sz : Nat) (n : Nat) (g : Nat → Nat → Nat) (rk : Nat → Nat) (hsz : sz ≤ 5000) (hwp : WPr G K g) (hps : PgT G K g (a 1) pq dr ml nd nm cp it s9) (hrk : RkO K rk) (hcs : cs ≤ 10000) (hvr : vr ≤ 30) (hng : Nng (B 18)) (hmq : K.1 mq = 3) (hqT : K.1 q = 1) (hqL : 1 ≤ g 0 q ∧ g 0 q ≤ n) (hls : Lsf (K.2.1 0 q) 1) (ihv : IhV l G n) (hO : OKP G h0 a (upd (upd (upd F 2 (nI sz)) 5 (nI cs)) 12 (nI vr)) (updR (updR R 2 (.ref pq)) 3 (.ref mq)) Z B J K w) (hl0 : l.stackTraces = false) : PBn l G pX0 yX0_superCall cX0_superCall 4 (some .int) ({ frames := (5 * n + 33), cells := 1, slots := 6, locals := (200 * n + 560) }) [.ref (a 4), .ref q] w (fun (v : Option Value) (u : va_W × (PK × (Nat → Nat → Int32) × Nat × Int32 × Int32 × Int32 × Int32)) => v = some (.int u.2.2.2.2.2.2.2) ∧ (BdE K u.2.1) ∧ (Bth B u.2.2.1) ∧ (u.2.2.2.1 ≤ 10000) ∧ (OKP G h0 a (upd (upd (upd (upd (upd (upd F 2 (nI sz)) 5 (nI u.2.2.2.1)) 12 (nI vr)) 13 u.2.2.2.2.1) 14 u.2.2.2.2.2.1) 15 u.2.2.2.2.2.2.1) (updR (updR R 2 (.ref pq)) 3 (.ref mq)) Z u.2.2.1 J u.2.1 u.1)) (fun u => u.1) (fun (u : va_W × (PK × (Nat → Nat → Int32) × Nat × Int32 × Int32 × Int32 × Int32)) => 0) (fun (u : va_W × (PK × (Nat → Nat → Int32) × Nat × Int32 × Int32 × Int32 × Int32)) => 0) (fun (u : va_W × (Nat → Int32) × (Nat → Value) × (Nat → Nat → Int32)) => ThQ G h0 a (upd (upd (upd F 2 (nI sz)) 5 (nI cs)) 12 (nI vr)) (updR (updR R 2 (.ref pq)) 3 (.ref mq)) Z B J u) (fun u => u.1) := by
  intro sz
  refine vx_ofW (cc := cX0_superCall) (maxL := 4) (ret := (some .int)) (by decide) rfl ?_
  intro p e s m args below meth c s₁ B9 hml hnt hv
  obtain ⟨rfl, hsz, hP, hD0, hE, hX⟩ := hv
  have hx := B9.exec
  have hb := B9.bytes
  have hr := B9.returns
  have hts := atoms_spec (ws := Cond.code yX0_superCall cX0_superCall 4 (some .int) :: pw) B9.pre
  have hq : ∀ w ∈ pw, w.before _ s = true := fun w h => hts w (List.mem_cons_of_mem _ h)
  have hown : s.vm.findClass RX0 = some m.cls := findClass_of_methodNamed B9.named
  have hlocks := B9.notSynchronized
  subst hsz
  have hD := hD0.self (sz := s.heap.size)
  have hA : ∀ q : Nat, s.heap.size ≤ q → va_A w s.heap.size q := fun q h => Or.inr h
  generalize va_A w s.heap.size = A at hD hE hA ⊢
  have hS : va_S A s.heap s.heap [] := va_S.rf
  have hl := lv_entry ([.ref (a 4), .ref q]) (n := 4) (Nat.le_of_ble_eq_true rfl)
  rw [lg_entry_eq]
  generalize (lg_sl ([.ref (a 4), .ref q]) ++ List.replicate (4 - (lg_sl ([.ref (a 4), .ref q])).length) Slot.unset).toArray = ls at hl ⊢
  have hl : lv_has ls 4 [(0, .ref (a 4)), (1, .ref q)] := hl
  have hpg := hps.1
  have hp1 := hpg.1
  have hp2 := hpg.2.1
  have hp3 := hpg.2.2.1
  have hp4 := hpg.2.2.2.1
  have hp5 := hpg.2.2.2.2.1
  have hp6 := hpg.2.2.2.2.2.1
  have hp8 := hpg.2.2.2.2.2.2.2.1
  have hp9 := hpg.2.2.2.2.2.2.2.2
  obtain ⟨dO, hdO, htO⟩ := (hwp.2.2.2 mq hmq).2.1
  refine lv_aload_n hx hb dX0_superCall_0 rfl (lv_at hl 0 rfl) ?_
  refine c_get (v := .ref (a 2)) (C := RX0) (Tc := TX0) (N := 13) (ci := 0) hx hb hq pin_wsX00 hown hE hP hO 24 (sg_24 G h0 a _ _ _ _ _) rfl 1 (by decide) (hq _ pw_5) (fun _ h9 => h9) rfl dX0_superCall_1 ?_
  refine lv_iconst (v := 2) hx hb dX0_superCall_4 (by decide) ?_
  refine lv_iconst (v := 0) hx hb dX0_superCall_5 (by decide) ?_
  refine lv_iconst (v := 0) hx hb dX0_superCall_6 (by decide) ?_
  have hO : OKW G h0 a (upd (upd (upd (upd F 2 (nI sz)) 5 (nI cs)) 12 (nI vr)) 5 (nI cs)) (updR (updR R 2 (.ref pq)) 3 (.ref mq)) Z B J K.1 (fun q99 x99 => x99 = rep G a K q99) w := hO.to rfl
  obtain ⟨_, qr4, hqr5⟩ := hO.2.1 13 _ (sg_13 G h0 a _ _ _ _ _)
  refine pc_V0 (G := G) (As := [.int 2, .int 0, .int (nI 0)]) (rest := []) hx hb hml hown hq hE hX pX0_al hP hD hS hA hl.1 (K_emit l G h0 a (upd (upd (upd F 2 (nI sz)) 5 (nI cs)) 12 (nI vr)) (updR (updR R 2 (.ref pq)) 3 (.ref mq)) Z B J K.1 (fun q99 x99 => x99 = rep G a K q99) w 2 0 0 cs (by omega) (by omega) hng hO) (gV pw_129 pw_130 pw_131 pw_70 pw_115) hV_X1_emit qr4 1 hqr5 rfl rfl rfl (Nat.le_of_ble_eq_true rfl) dX0_superCall_7 ⟨(by show 0 + 0 ≤ 1; omega), (by show 0 + 0 ≤ 6; omega)⟩ ⟨(by show 2 + 1 ≤ (5 * n + 33); omega), (by show 8 + (4 + 11) + 60 ≤ (200 * n + 560); omega)⟩ (fun v3 u1 H locs hw2 hP hD hS => ?_)
  obtain ⟨w, cs6, f7, f8, f9, f10⟩ := u1
  obtain ⟨hw2, h11, h12, hO⟩ := hw2
  have h11 : cs ≤ cs6 ∧ cs6 ≤ cs + 1 ∧ cs6 ≤ 10000 := h11
  have h12 : Nng f9 := h12
  obtain rfl : v3 = none := hw2
  have hO : OKP G h0 a (upd (upd (upd F 2 (nI sz)) 5 (nI cs6)) 12 (nI vr)) (updR (updR R 2 (.ref pq)) 3 (.ref mq)) Z (updA (updA (updA (updA B 16 f7) 17 f8) 18 f9) 19 f10) J K w := hO.to rfl
  refine W.widen (k := 0) (n := 0) (Nat.le_of_ble_eq_true rfl) (Nat.le_of_ble_eq_true rfl) ?_
  refine W.eq (g2 := F0 m 10 ls []) rfl ?_
  refine lv_aload_n hx hb dX0_superCall_10 rfl (lv_at hl 0 rfl) ?_
  refine c_get (v := .ref mq) (C := RX0) (Tc := TX0) (N := 13) (ci := 0) hx hb hq pin_wsX00 hown hE hP hO 24 (sg_24 G h0 a _ _ _ _ _) rfl 7 (by decide) (hq _ pw_72) (fun _ h9 => h9) rfl dX0_superCall_11 ?_
  refine p_get (v := .ref dO) (C := RX6) (Tc := TX6) (N := 12) (ci := 12) hx hb hq pin_wsX60 hown hE hP hO (by rw [hmq]; decide) (rep_3 hmq) rfl 0 (by decide) (hq _ pw_161) (fun _ h9 => h9) (congrArg (fun z => some (va_rf z)) hdO) dX0_superCall_14 ?_
  rcases ho14 : K.2.2.1 10 dO with _ | o13
  · skip
    refine p_get (v := .null) (C := RX2) (Tc := TX2) (N := 13) (ci := 2) hx hb hq pin_wsX20 hown hE hP hO (by rw [htO]; decide) (rep_4 htO) rfl 9 (by decide) (hq _ pw_219) (fun _ h9 => h9) (congrArg (fun z => some (va_rf z)) ho14) dX0_superCall_17 ?_
    refine lv_astore_nN (lv' := [(2, .null), (0, .ref (a 4)), (1, .ref q)]) hx hb dX0_superCall_20 rfl hl (by decide) rfl (fun ls hl => ?_)
    refine lv_aload_nN hx hb dX0_superCall_21 rfl (lv_at hl 0 rfl) ?_
    refine lv_ifnonnullN hx hb dX0_superCall_22 ?_
    refine lv_null hx hb dX0_superCall_25 ?_
    refine lv_goto (tgt := 44) hx hb dX0_superCall_26 (by decide) ?_
    refine lv_astore_nN (lv' := [(3, .null), (2, .null), (0, .ref (a 4)), (1, .ref q)]) hx hb dX0_superCall_44 rfl hl (by decide) rfl (fun ls hl => ?_)
    refine lv_aload_n hx hb dX0_superCall_45 rfl (lv_at hl 2 rfl) ?_
    refine lv_aload_n hx hb dX0_superCall_46 rfl (lv_at hl 3 rfl) ?_
    refine lv_aload_nN hx hb dX0_superCall_47 rfl (lv_at hl 0 rfl) ?_
    refine lv_bipush (v := 24) hx hb dX0_superCall_48 (by decide) ?_
    refine lv_aload_nN hx hb dX0_superCall_50 rfl (lv_at hl 0 rfl) ?_
    refine lv_ifnonnullN hx hb dX0_superCall_51 ?_
    refine lv_iconst (v := (-1)) hx hb dX0_superCall_54 (by decide) ?_
    refine lv_goto (tgt := 62) hx hb dX0_superCall_55 (by decide) ?_
    have hO : OKP G h0 a (upd (upd (upd (upd (upd F 2 (nI sz)) 5 (nI cs)) 12 (nI vr)) 5 (nI cs6)) 2 (nI sz)) (updR (updR R 2 (.ref pq)) 3 (.ref mq)) Z (updA (updA (updA (updA B 16 f7) 17 f8) 18 f9) 19 f10) J K w := hO.to rfl
    obtain ⟨_, qr18, hqr19⟩ := hO.2.1 24 _ (sg_24 G h0 a _ _ _ _ _)
    refine pn_V0 (G := G) (As := [.ref q, .null, .int 24, .int (-1)]) (rest := []) hx hb hml hown hq hE hX pX0_al hP hD hS hA hl.1 (B_argumentsN l G h0 a (upd (upd (upd (upd F 2 (nI sz)) 5 (nI cs)) 12 (nI vr)) 5 (nI cs6)) (updR (updR R 2 (.ref pq)) 3 (.ref mq)) Z (updA (updA (updA (updA B 16 f7) 17 f8) 18 f9) 19 f10) J K w q sz 24 (-1) (by omega) hqT hO hl0) (gV pw_187 pw_188 pw_189 pw_63 pw_270) hV_X0_arguments qr18 0 hqr19 rfl rfl rfl (Nat.le_of_ble_eq_true rfl) dX0_superCall_62 ⟨(by show 0 + 1 ≤ 1; omega), (by show 0 + 6 ≤ 6; omega)⟩ ⟨(by show 7 + 1 ≤ (5 * n + 33); omega), (by show 8 + (7 + 11) + 122 ≤ (200 * n + 560); omega)⟩ (fun v17 u15 H locs hw16 hP hD hS => hw16.elim) (fun ux ce9 q9 H9 locs9 hux hP9 hD9 hS9 hce hcv hcl => pb_out ux (ThQ.up (Thx.same (Thx.b (Thx.b8 (Thx.b (Thx.b (Thx.f Thx.rfl (by omega)) (by omega) (by decide)) (by omega) (by decide)) h12) (by omega) (by decide)) rfl) RhX.rfl hux) hnt hlocks hce hcv hcl hP9 hD9 hS9 (by show 0 + 1 ≤ 1; omega) (by show 0 + 6 ≤ 6; omega))
  · have hpT := (hwp.2.2.1 dO htO).2.2.2.2.1 o13 ho14
    refine p_get (v := .ref o13) (C := RX2) (Tc := TX2) (N := 13) (ci := 2) hx hb hq pin_wsX20 hown hE hP hO (by rw [htO]; decide) (rep_4 htO) rfl 9 (by decide) (hq _ pw_219) (fun _ h9 => h9) (congrArg (fun z => some (va_rf z)) ho14) dX0_superCall_17 ?_
    refine lv_astore_n (lv' := [(2, .ref o13), (0, .ref (a 4)), (1, .ref q)]) hx hb dX0_superCall_20 rfl hl (by decide) rfl (fun ls hl => ?_)
    refine lv_aload_n hx hb dX0_superCall_21 rfl (lv_at hl 0 rfl) ?_
    refine lv_ifnonnull (tgt := 29) hx hb dX0_superCall_22 (by decide) ?_
    refine lv_aload_n hx hb dX0_superCall_29 rfl (lv_at hl 0 rfl) ?_
    refine lv_aload_n hx hb dX0_superCall_30 rfl (lv_at hl 1 rfl) ?_
    refine c_get (v := .ref (a 1)) (C := RX0) (Tc := TX0) (N := 13) (ci := 0) hx hb hq pin_wsX00 hown hE hP hO 24 (sg_24 G h0 a _ _ _ _ _) rfl 0 (by decide) (hq _ pw_4) (fun _ h9 => h9) rfl dX0_superCall_31 ?_
    refine lv_aload_n hx hb dX0_superCall_34 rfl (lv_at hl 2 rfl) ?_
    refine p_get (v := .int (K.2.1 1 q)) (C := RX7) (Tc := TX7) (N := 11) (ci := 13) hx hb hq pin_wsX70 hown hE hP hO (by rw [hqT]; decide) (rep_1 hqT) rfl 1 (by decide) (hq _ pw_81) (fun _ h9 => h9) rfl dX0_superCall_35 ?_
    have hO : OKW G h0 a (upd (upd (upd (upd F 2 (nI sz)) 5 (nI cs6)) 12 (nI vr)) 2 (nI sz)) (updR (updR R 2 (.ref pq)) 3 (.ref mq)) Z (updA (updA (updA (updA B 16 f7) 17 f8) 18 f9) 19 f10) J K.1 (fun q99 x99 => x99 = rep G a K q99) w := hO.to rfl
    obtain ⟨_, qr23, hqr24⟩ := hO.2.1 2 _ (sg_2 G h0 a _ _ _ _ _)
    refine pc_V0 (G := G) (As := [.int (K.2.1 1 q)]) (rest := [.ref o13]) hx hb hml hown hq hE hX pX0_al hP hD hS hA hl.1 (K_valueAt l G h0 a (upd (upd (upd F 2 (nI sz)) 5 (nI cs6)) 12 (nI vr)) (updR (updR R 2 (.ref pq)) 3 (.ref mq)) Z (updA (updA (updA (updA B 16 f7) 17 f8) 18 f9) 19 f10) J K.1 (fun q99 x99 => x99 = rep G a K q99) w (K.2.1 1 q) sz (by omega) hO) (gV pw_56 pw_57 pw_58 pw_59 pw_39) hV_X10_valueAt qr23 7 hqr24 rfl rfl rfl (Nat.le_of_ble_eq_true rfl) dX0_superCall_38 ⟨(by show 0 + 0 ≤ 1; omega), (by show 0 + 0 ≤ 6; omega)⟩ ⟨(by show 2 + 1 ≤ (5 * n + 33); omega), (by show 8 + (2 + 11) + 60 ≤ (200 * n + 560); omega)⟩ (fun v22 u20 H locs hw21 hP hD hS => ?_)
    obtain ⟨w, r25⟩ := u20
    obtain ⟨hw21, hO⟩ := hw21
    obtain rfl : v22 = some (.int r25) := hw21
    have hO : OKP G h0 a (upd (upd (upd F 2 (nI sz)) 5 (nI cs6)) 12 (nI vr)) (updR (updR R 2 (.ref pq)) 3 (.ref mq)) Z (updA (updA (updA (updA B 16 f7) 17 f8) 18 f9) 19 f10) J K w := hO.to rfl
    refine W.widen (k := 0) (n := 0) (Nat.le_of_ble_eq_true rfl) (Nat.le_of_ble_eq_true rfl) ?_
    refine W.eq (g2 := F0 m 41 ls [.int r25, .ref o13]) rfl ?_
    have hO : OKP G h0 a (upd (upd (upd F 2 (nI sz)) 5 (nI cs6)) 12 (nI vr)) (updR (updR R 2 (.ref pq)) 3 (.ref mq)) Z (updA (updA (updA (updA B 16 f7) 17 f8) 18 f9) 19 f10) J K w := hO.to rfl
    obtain ⟨qr29, hqr30⟩ := p_recv hO (by rw [hpT]; decide) (rep_4 hpT)
    refine pc_V0 (G := G) (As := [.int r25]) (rest := []) hx hb hml hown hq hE hX pX0_al hP hD hS hA hl.1 (O_nearest l G h0 a (upd (upd (upd F 2 (nI sz)) 5 (nI cs6)) 12 (nI vr)) (updR (updR R 2 (.ref pq)) 3 (.ref mq)) Z (updA (updA (updA (updA B 16 f7) 17 f8) 18 f9) 19 f10) J K w o13 r25 g rk hpT (BdE.wp BdE.rfl hwp) (BdE.rko BdE.rfl hrk) hO) (gV pw_221 pw_222 pw_223 pw_146 pw_154) hV_X2_nearest qr29 2 hqr30 rfl rfl rfl (Nat.le_of_ble_eq_true rfl) dX0_superCall_41 ⟨(by show 0 + 0 ≤ 1; omega), (by show 0 + 0 ≤ 6; omega)⟩ ⟨(by show 6 + 1 ≤ (5 * n + 33); omega), (by show 8 + (4 + 11) + 146 ≤ (200 * n + 560); omega)⟩ (fun v28 u26 H locs hw27 hP hD hS => ?_)
    obtain ⟨w, o31⟩ := u26
    obtain ⟨hw27, h32, hO⟩ := hw27
    have h32 : MoN K o31 := h32
    obtain rfl : v28 = some ((va_rf o31)) := hw27
    have hO : OKP G h0 a (upd (upd (upd F 2 (nI sz)) 5 (nI cs6)) 12 (nI vr)) (updR (updR R 2 (.ref pq)) 3 (.ref mq)) Z (updA (updA (updA (updA B 16 f7) 17 f8) 18 f9) 19 f10) J K w := hO.to rfl
    refine W.widen (k := 0) (n := 0) (Nat.le_of_ble_eq_true rfl) (Nat.le_of_ble_eq_true rfl) ?_
    refine W.eq (g2 := F0 m 44 ls [(va_rf o31)]) rfl ?_
    rcases o31 with _ | d33
    · have hl : lv_has ls 4 [(2, .ref o13), (0, .ref (a 4)), (1, .ref q)] := hl
      refine W.eq (g2 := F0 m 44 ls [.null]) rfl ?_
      refine lv_astore_nN (lv' := [(3, .null), (2, .ref o13), (0, .ref (a 4)), (1, .ref q)]) hx hb dX0_superCall_44 rfl hl (by decide) rfl (fun ls hl => ?_)
      refine lv_aload_n hx hb dX0_superCall_45 rfl (lv_at hl 2 rfl) ?_
      refine lv_aload_n hx hb dX0_superCall_46 rfl (lv_at hl 3 rfl) ?_
      refine lv_aload_nN hx hb dX0_superCall_47 rfl (lv_at hl 0 rfl) ?_
      refine lv_bipush (v := 24) hx hb dX0_superCall_48 (by decide) ?_
      refine lv_aload_nN hx hb dX0_superCall_50 rfl (lv_at hl 0 rfl) ?_
      refine lv_ifnonnullN hx hb dX0_superCall_51 ?_
      refine lv_iconst (v := (-1)) hx hb dX0_superCall_54 (by decide) ?_
      refine lv_goto (tgt := 62) hx hb dX0_superCall_55 (by decide) ?_
      have hO : OKP G h0 a (upd (upd (upd (upd (upd F 2 (nI sz)) 5 (nI cs)) 12 (nI vr)) 5 (nI cs6)) 2 (nI sz)) (updR (updR R 2 (.ref pq)) 3 (.ref mq)) Z (updA (updA (updA (updA B 16 f7) 17 f8) 18 f9) 19 f10) J K w := hO.to rfl
      obtain ⟨_, qr37, hqr38⟩ := hO.2.1 24 _ (sg_24 G h0 a _ _ _ _ _)
      refine pn_V0 (G := G) (As := [.ref q, .null, .int 24, .int (-1)]) (rest := []) hx hb hml hown hq hE hX pX0_al hP hD hS hA hl.1 (B_argumentsN l G h0 a (upd (upd (upd (upd F 2 (nI sz)) 5 (nI cs)) 12 (nI vr)) 5 (nI cs6)) (updR (updR R 2 (.ref pq)) 3 (.ref mq)) Z (updA (updA (updA (updA B 16 f7) 17 f8) 18 f9) 19 f10) J K w q sz 24 (-1) (by omega) hqT hO hl0) (gV pw_187 pw_188 pw_189 pw_63 pw_270) hV_X0_arguments qr37 0 hqr38 rfl rfl rfl (Nat.le_of_ble_eq_true rfl) dX0_superCall_62 ⟨(by show 0 + 1 ≤ 1; omega), (by show 0 + 6 ≤ 6; omega)⟩ ⟨(by show 7 + 1 ≤ (5 * n + 33); omega), (by show 8 + (7 + 11) + 122 ≤ (200 * n + 560); omega)⟩ (fun v36 u34 H locs hw35 hP hD hS => hw35.elim) (fun ux ce9 q9 H9 locs9 hux hP9 hD9 hS9 hce hcv hcl => pb_out ux (ThQ.up (Thx.same (Thx.b (Thx.b8 (Thx.b (Thx.b (Thx.f Thx.rfl (by omega)) (by omega) (by decide)) (by omega) (by decide)) h12) (by omega) (by decide)) rfl) RhX.rfl hux) hnt hlocks hce hcv hcl hP9 hD9 hS9 (by show 0 + 1 ≤ 1; omega) (by show 0 + 6 ≤ 6; omega))
    · have hl : lv_has ls 4 [(2, .ref o13), (0, .ref (a 4)), (1, .ref q)] := hl
      refine W.eq (g2 := F0 m 44 ls [.ref d33]) rfl ?_
      have hf39 : K.1 d33 = 3 := h32 d33 rfl
      refine lv_astore_n (lv' := [(3, .ref d33), (2, .ref o13), (0, .ref (a 4)), (1, .ref q)]) hx hb dX0_superCall_44 rfl hl (by decide) rfl (fun ls hl => ?_)
      refine lv_aload_n hx hb dX0_superCall_45 rfl (lv_at hl 2 rfl) ?_
      refine lv_aload_n hx hb dX0_superCall_46 rfl (lv_at hl 3 rfl) ?_
      refine lv_aload_n hx hb dX0_superCall_47 rfl (lv_at hl 0 rfl) ?_
      refine lv_bipush (v := 24) hx hb dX0_superCall_48 (by decide) ?_
      refine lv_aload_n hx hb dX0_superCall_50 rfl (lv_at hl 0 rfl) ?_
      refine lv_ifnonnull (tgt := 58) hx hb dX0_superCall_51 (by decide) ?_
      refine lv_aload_n hx hb dX0_superCall_58 rfl (lv_at hl 0 rfl) ?_
      refine p_get (v := .int (K.2.1 9 d33)) (C := RX6) (Tc := TX6) (N := 12) (ci := 12) hx hb hq pin_wsX60 hown hE hP hO (by rw [hf39]; decide) (rep_3 hf39) rfl 6 (by decide) (hq _ pw_220) (fun _ h9 => h9) rfl dX0_superCall_59 ?_
      have hO : OKP G h0 a (upd (upd (upd (upd (upd (upd (upd F 2 (nI sz)) 5 (nI cs)) 12 (nI vr)) 5 (nI cs6)) 2 (nI sz)) 5 (nI cs6)) 12 (nI vr)) (updR (updR (updR (updR R 2 (.ref pq)) 3 (.ref mq)) 2 (.ref pq)) 3 (.ref mq)) Z (updA (updA (updA (updA B 16 f7) 17 f8) 18 f9) 19 f10) J K w := hO.to rfl
      obtain ⟨_, qr43, hqr44⟩ := hO.2.1 24 _ (sg_24 G h0 a _ _ _ _ _)
      refine pn_V0 (G := G) (As := [.ref q, .ref d33, .int 24, .int (K.2.1 9 d33)]) (rest := []) hx hb hml hown hq hE hX pX0_al hP hD hS hA hl.1 (B_arguments l G h0 a (upd (upd (upd (upd F 2 (nI sz)) 5 (nI cs)) 12 (nI vr)) 5 (nI cs6)) (updR (updR R 2 (.ref pq)) 3 (.ref mq)) Z (updA (updA (updA (updA B 16 f7) 17 f8) 18 f9) 19 f10) J K w pq dr ml nd nm cp it s9 q mq cs6 vr sz n d33 24 (K.2.1 9 d33) g rk (by omega) (BdE.wp BdE.rfl hwp) (BdE.pt BdE.rfl hwp hps) (BdE.rko BdE.rfl hrk) (by omega) (by omega) h12 hmq hqT hqL hf39 (by rw [BdE.I BdE.rfl (by rw [hqT]; decide) (by decide) (by decide)]; exact hls) ihv hO hl0) (gV pw_187 pw_188 pw_189 pw_63 pw_270) hV_X0_arguments qr43 0 hqr44 rfl rfl rfl (Nat.le_of_ble_eq_true rfl) dX0_superCall_62 ⟨(by show 0 + 1 ≤ 1; omega), (by show 0 + 6 ≤ 6; omega)⟩ ⟨(by show (5 * n + 32) + 1 ≤ (5 * n + 33); omega), (by show 8 + (7 + 11) + (200 * n + 520) ≤ (200 * n + 560); omega)⟩ (fun v42 u40 H locs hw41 hP hD hS => ?_) (fun ux ce9 q9 H9 locs9 hux hP9 hD9 hS9 hce hcv hcl => pb_out ux (ThQ.up (Thx.same (Thx.same (Thx.same (Thx.b (Thx.b8 (Thx.b (Thx.b (Thx.f Thx.rfl (by omega)) (by omega) (by decide)) (by omega) (by decide)) h12) (by omega) (by decide)) rfl) rfl) rfl) (show RhX (updR (updR R 2 (.ref pq)) 3 (.ref mq)) (updR (updR (updR (updR R 2 (.ref pq)) 3 (.ref mq)) 2 (.ref pq)) 3 (.ref mq)) from fun k9 hk9 => by unfold updR; simp only [show ¬ k9 = 1 by omega, show ¬ k9 = 2 by omega, show ¬ k9 = 3 by omega, show ¬ k9 = 4 by omega, if_false]) hux) hnt hlocks hce hcv hcl hP9 hD9 hS9 (by show 0 + 1 ≤ 1; omega) (by show 0 + 6 ≤ 6; omega))
      obtain ⟨w, K45, B46, cs47, as48, wt49, wf50, r51⟩ := u40
      obtain ⟨hw41, h52, h53, h54, hO⟩ := hw41
      have h52 : BdE K K45 := h52
      have h53 : Bth (updA (updA (updA (updA B 16 f7) 17 f8) 18 f9) 19 f10) B46 := h53
      have h54 : cs47 ≤ 10000 := h54
      obtain rfl : v42 = some (.int r51) := hw41
      have hf55 : K45.1 pq = 7 := (BdE.T h52 hp1 (by decide))
      have hf56 : K45.2.2.1 18 pq = some (a 1) := (BdE.C h52 (by rw [hp1]; decide) 18).trans hp2
      have hf57 : K45.2.2.1 14 pq = some dr := (BdE.C h52 (by rw [hp1]; decide) 14).trans hp3
      have hf58 : K45.1 dr = 8 := (BdE.T h52 hp4 (by decide))
      have hf59 : K45.2.2.1 15 pq = some ml := (BdE.C h52 (by rw [hp1]; decide) 15).trans hp5
      have hf60 : K45.1 ml = 5 := (BdE.T h52 hp6 (by decide))
      have hf61 : K45.2.1 24 pq = (nI nd) := (BdE.I h52 (by rw [hp1]; decide) (by decide) (by decide)).trans hp8
      have hf62 : K45.1 q = 1 := (BdE.T h52 hqT (by decide))
      have hf63 : K45.1 mq = 3 := (BdE.T h52 hmq (by decide))
      have hf64 : K45.2.2.1 5 mq = some dO := (BdE.C h52 (by rw [hmq]; decide) 5).trans hdO
      have hf65 : K45.1 dO = 4 := (BdE.T h52 htO (by decide))
      have hf66 : K45.2.2.1 10 dO = some o13 := (BdE.C h52 (by rw [htO]; decide) 10).trans ho14
      have hf67 : K45.1 o13 = 4 := (BdE.T h52 hpT (by decide))
      have hf68 : K45.1 d33 = 3 := (BdE.T h52 hf39 (by decide))
      have hO : OKP G h0 a (upd (upd (upd (upd (upd (upd F 2 (nI sz)) 5 (nI cs47)) 12 (nI vr)) 13 as48) 14 wt49) 15 wf50) (updR (updR R 2 (.ref pq)) 3 (.ref mq)) Z B46 J K45 w := hO.to rfl
      refine W.widen (k := 0) (n := 0) (by show 0 + 0 ≤ 0; omega) (by show 0 + 0 ≤ 0; omega) ?_
      refine W.eq (g2 := F0 m 65 ls [.int r51]) rfl ?_
      have hbe69 := BdE.trans BdE.rfl h52
      have hbb70 : Bth B B46 := Bth.trans (show Thx (upd (upd (upd F 2 (nI sz)) 5 (nI cs)) 12 (nI vr)) (upd (upd (upd (upd F 2 (nI sz)) 5 (nI cs)) 12 (nI vr)) 5 (nI cs6)) B (updA (updA (updA (updA B 16 f7) 17 f8) 18 f9) 19 f10) from (Thx.b (Thx.b8 (Thx.b (Thx.b (Thx.f Thx.rfl (by omega)) (by omega) (by decide)) (by omega) (by decide)) h12) (by omega) (by decide))).2 h53
      have hng71 : Nng (B46 18) := h53.2 h12
      refine W_size (fun hz1 hz2 => ?_)
      refine vx_ret ?_
      have hz72 : BdE K K45 := hbe69
      have hz73 : Bth B B46 := (show Thx (upd (upd (upd F 2 (nI sz)) 5 (nI cs)) 12 (nI vr)) (upd (upd (upd (upd (upd (upd (upd F 2 (nI sz)) 5 (nI cs)) 12 (nI vr)) 5 (nI cs47)) 13 as48) 14 wt49) 15 wf50) B B46 from (Thx.f (Thx.f (Thx.f (Thx.f (Bth.thx hbb70) (by omega)) (by omega)) (by omega)) (by omega))).2
      have hz74 : cs47 ≤ 10000 := (by omega)
      have hO : OKP G h0 a (upd (upd (upd (upd (upd (upd F 2 (nI sz)) 5 (nI cs47)) 12 (nI vr)) 13 as48) 14 wt49) 15 wf50) (updR (updR R 2 (.ref pq)) 3 (.ref mq)) Z B46 J K45 w := hO.to rfl
      refine W.widen (k := 1) (n := 6) (by omega) (by omega) ?_
      have hzz1 : H.size ≤ s.heap.size + (0) := (by have z : 0 ≤ 0 := (by omega); omega)
      have hzz2 : hSl H ≤ hSl s.heap + (0) := (by have z : 0 ≤ 0 := (by omega); omega)
      exact W.iret (v := r51) hx hb hr (fun t99 ht99 hW99 => ⟨⟨_, (w, (K45, B46, cs47, as48, wt49, wf50, r51)), rfl, ⟨rfl, hz72, hz73, hz74, hO⟩, by rw [ht99]; exact hP, hD, by rw [ht99]; exact hzz1, by rw [ht99]; exact hzz2⟩, hS.F ht99⟩) hS.2.2 dX0_superCall_65
