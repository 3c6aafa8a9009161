def KdI (g : Nat → Nat → Nat) (o : Option Nat) (lo hi : Nat) : Prop := ∀ x : Nat, o = some x → lo ≤ rS (g 2 x) ∧ rE (g 2 x) ≤ hi
theorem KdI.no {g : Nat → Nat → Nat} {lo hi : Nat} : KdI g none lo hi := fun _ h => by cases h
theorem KdI.one {g : Nat → Nat → Nat} {lo hi x k : Nat} (h : g 2 x = k) (h1 : lo ≤ rS k ∧ rE k ≤ hi) : KdI g (some x) lo hi := fun _ e => by cases e; rw [h]; exact h1
def KdO (K : PK) (g : Nat → Nat → Nat) (o : Option Nat) (L : Nat) : Prop := ∀ x : Nat, o = some x → K.1 x = 1 ∧ 1 ≤ g 0 x ∧ g 0 x < L
theorem KdO.no {K : PK} {g : Nat → Nat → Nat} {L : Nat} : KdO K g none L := fun _ h => by cases h
theorem KdO.one {K : PK} {g : Nat → Nat → Nat} {L x : Nat} (h : K.1 x = 1) (h1 : 1 ≤ g 0 x) (h2 : g 0 x < L) : KdO K g (some x) L := fun _ e => by cases e; exact ⟨h, h1, h2⟩
theorem KdO.ext {K K1 : PK} {g g1 : Nat → Nat → Nat} {o : Option Nat} {L : Nat} (h : KdO K g o L) (hx : XtG K K1 g g1) : KdO K1 g1 o L := fun x e => by
  obtain ⟨h1, h2, h3⟩ := h x e
  have h0 : ¬ K.1 x = 0 := by rw [h1]; decide
  exact ⟨(hx.1 x h0).1.trans h1, by rw [hx.2 x h0]; exact h2, by rw [hx.2 x h0]; exact h3⟩
theorem KdI.ext {K K1 : PK} {g g1 : Nat → Nat → Nat} {o : Option Nat} {L lo hi : Nat} (h : KdI g o lo hi) (hk : KdO K g o L) (hx : XtG K K1 g g1) : KdI g1 o lo hi := fun x e => by
  have h0 : ¬ K.1 x = 0 := by rw [(hk x e).1]; decide
  rw [hx.2 x h0]; exact h x e
/-- FIRST: where it lies, what it is -/
def KdF (K : PK) (g : Nat → Nat → Nat) (o : Option Nat) (lo hi : Nat) : Prop := ∀ x : Nat, o = some x → (lo ≤ rS (g 2 x) ∧ rS (g 2 x) ≤ rE (g 2 x) ∧ rE (g 2 x) + 1 ≤ hi) ∧ (K.2.1 0 x = 22 ∨ K.2.1 0 x = 23)
def KdE (g : Nat → Nat → Nat) (o : Option Nat) (lo hi : Nat) : Prop := ∀ x : Nat, o = some x → lo ≤ rS (g 2 x) ∧ rS (g 2 x) + 1 ≤ rE (g 2 x) ∧ rE (g 2 x) ≤ hi ∧ 1 ≤ rD (g 2 x) ∧ rD (g 2 x) ≤ 243
theorem KdF.no {K : PK} {g : Nat → Nat → Nat} {lo hi : Nat} : KdF K g none lo hi := fun _ h => by cases h
theorem KdE.no {g : Nat → Nat → Nat} {lo hi : Nat} : KdE g none lo hi := fun _ h => by cases h
theorem KdF.one {K : PK} {g : Nat → Nat → Nat} {lo hi x k : Nat} (h : g 2 x = k) (h1 : lo ≤ rS k ∧ rS k ≤ rE k ∧ rE k + 1 ≤ hi) (h2 : K.2.1 0 x = 22 ∨ K.2.1 0 x = 23) : KdF K g (some x) lo hi := fun _ e => by cases e; rw [h]; exact ⟨h1, h2⟩
theorem KdE.one {g : Nat → Nat → Nat} {lo hi x k : Nat} (h : g 2 x = k) (h1 : lo ≤ rS k ∧ rS k + 1 ≤ rE k ∧ rE k ≤ hi ∧ 1 ≤ rD k ∧ rD k ≤ 243) : KdE g (some x) lo hi := fun _ e => by cases e; rw [h]; exact h1
theorem KdF.ext {K K1 : PK} {g g1 : Nat → Nat → Nat} {o : Option Nat} {L lo hi : Nat} (h : KdF K g o lo hi) (hk : KdO K g o L) (hx : XtG K K1 g g1) : KdF K1 g1 o lo hi := fun x e => by
  have h0 : ¬ K.1 x = 0 := by rw [(hk x e).1]; decide
  rw [hx.2 x h0, (hx.1 x h0).2.1 0]; exact h x e
theorem KdE.ext {K K1 : PK} {g g1 : Nat → Nat → Nat} {o : Option Nat} {L lo hi : Nat} (h : KdE g o lo hi) (hk : KdO K g o L) (hx : XtG K K1 g g1) : KdE g1 o lo hi := fun x e => by
  have h0 : ¬ K.1 x = 0 := by rw [(hk x e).1]; decide
  rw [hx.2 x h0]; exact h x e
theorem dX8_forStatement_0 : decode cX8_forStatement 0 = .ok (.new 143, 3) := by decide +kernel
theorem dX8_forStatement_3 : decode cX8_forStatement 3 = .ok (.dup, 1) := by decide +kernel
theorem dX8_forStatement_4 : decode cX8_forStatement 4 = .ok (.bipush 27, 2) := by decide +kernel
theorem dX8_forStatement_6 : decode cX8_forStatement 6 = .ok (.aload_n 0, 1) := by decide +kernel
theorem dX8_forStatement_7 : decode cX8_forStatement 7 = .ok (.getfield 17, 3) := by decide +kernel
theorem dX8_forStatement_10 : decode cX8_forStatement 10 = .ok (.aload_n 0, 1) := by decide +kernel
theorem dX8_forStatement_11 : decode cX8_forStatement 11 = .ok (.getfield 17, 3) := by decide +kernel
theorem dX8_forStatement_14 : decode cX8_forStatement 14 = .ok (.invokespecial 145, 3) := by decide +kernel
theorem dX8_forStatement_17 : decode cX8_forStatement 17 = .ok (.astore_n 1, 1) := by decide +kernel
theorem dX8_forStatement_92 : decode cX8_forStatement 92 = .ok (.aload_n 0, 1) := by decide +kernel
theorem dX8_forStatement_93 : decode cX8_forStatement 93 = .ok (.bipush 38, 2) := by decide +kernel
theorem dX8_forStatement_95 : decode cX8_forStatement 95 = .ok (.invokevirtual 53, 3) := by decide +kernel
theorem dX8_forStatement_98 : decode cX8_forStatement 98 = .ok (.pop, 1) := by decide +kernel
theorem dX8_forStatement_99 : decode cX8_forStatement 99 = .ok (.aload_n 0, 1) := by decide +kernel
theorem dX8_forStatement_100 : decode cX8_forStatement 100 = .ok (.bipush 35, 2) := by decide +kernel
theorem dX8_forStatement_102 : decode cX8_forStatement 102 = .ok (.invokevirtual 36, 3) := by decide +kernel
theorem dX8_forStatement_105 : decode cX8_forStatement 105 = .ok (.ifCond .ne 12, 3) := by decide +kernel
theorem dX8_forStatement_117 : decode cX8_forStatement 117 = .ok (.aload_n 0, 1) := by decide +kernel
theorem dX8_forStatement_118 : decode cX8_forStatement 118 = .ok (.bipush 35, 2) := by decide +kernel
theorem dX8_forStatement_120 : decode cX8_forStatement 120 = .ok (.invokevirtual 53, 3) := by decide +kernel
theorem dX8_forStatement_123 : decode cX8_forStatement 123 = .ok (.pop, 1) := by decide +kernel
theorem dX8_forStatement_124 : decode cX8_forStatement 124 = .ok (.aload_n 1, 1) := by decide +kernel
theorem dX8_forStatement_125 : decode cX8_forStatement 125 = .ok (.aload_n 0, 1) := by decide +kernel
theorem dX8_forStatement_126 : decode cX8_forStatement 126 = .ok (.iconst 0, 1) := by decide +kernel
theorem dX8_forStatement_127 : decode cX8_forStatement 127 = .ok (.invokevirtual 161, 3) := by decide +kernel
theorem dX8_forStatement_130 : decode cX8_forStatement 130 = .ok (.putfield 239, 3) := by decide +kernel
theorem dX8_forStatement_133 : decode cX8_forStatement 133 = .ok (.aload_n 1, 1) := by decide +kernel
theorem dX8_forStatement_134 : decode cX8_forStatement 134 = .ok (.areturn, 1) := by decide +kernel
theorem dX8_forStatement_108 : decode cX8_forStatement 108 = .ok (.aload_n 1, 1) := by decide +kernel
theorem dX8_forStatement_109 : decode cX8_forStatement 109 = .ok (.aload_n 0, 1) := by decide +kernel
theorem dX8_forStatement_110 : decode cX8_forStatement 110 = .ok (.iconst 1, 1) := by decide +kernel
theorem dX8_forStatement_111 : decode cX8_forStatement 111 = .ok (.invokevirtual 218, 3) := by decide +kernel
theorem dX8_forStatement_114 : decode cX8_forStatement 114 = .ok (.putfield 236, 3) := by decide +kernel
theorem dX8_forStatement_18 : decode cX8_forStatement 18 = .ok (.aload_n 0, 1) := by decide +kernel
theorem dX8_forStatement_19 : decode cX8_forStatement 19 = .ok (.dup, 1) := by decide +kernel
theorem dX8_forStatement_20 : decode cX8_forStatement 20 = .ok (.getfield 17, 3) := by decide +kernel
theorem dX8_forStatement_23 : decode cX8_forStatement 23 = .ok (.iconst 1, 1) := by decide +kernel
theorem dX8_forStatement_24 : decode cX8_forStatement 24 = .ok (.iadd, 1) := by decide +kernel
theorem dX8_forStatement_25 : decode cX8_forStatement 25 = .ok (.putfield 17, 3) := by decide +kernel
theorem dX8_forStatement_28 : decode cX8_forStatement 28 = .ok (.aload_n 0, 1) := by decide +kernel
theorem dX8_forStatement_29 : decode cX8_forStatement 29 = .ok (.bipush 34, 2) := by decide +kernel
theorem dX8_forStatement_31 : decode cX8_forStatement 31 = .ok (.invokevirtual 53, 3) := by decide +kernel
theorem dX8_forStatement_34 : decode cX8_forStatement 34 = .ok (.pop, 1) := by decide +kernel
theorem dX8_forStatement_35 : decode cX8_forStatement 35 = .ok (.aload_n 0, 1) := by decide +kernel
theorem dX8_forStatement_36 : decode cX8_forStatement 36 = .ok (.bipush 38, 2) := by decide +kernel
theorem dX8_forStatement_38 : decode cX8_forStatement 38 = .ok (.invokevirtual 36, 3) := by decide +kernel
theorem dX8_forStatement_41 : decode cX8_forStatement 41 = .ok (.ifCond .ne 27, 3) := by decide +kernel
theorem dX8_forStatement_68 : decode cX8_forStatement 68 = .ok (.aload_n 0, 1) := by decide +kernel
theorem dX8_forStatement_69 : decode cX8_forStatement 69 = .ok (.bipush 38, 2) := by decide +kernel
theorem dX8_forStatement_71 : decode cX8_forStatement 71 = .ok (.invokevirtual 53, 3) := by decide +kernel
theorem dX8_forStatement_74 : decode cX8_forStatement 74 = .ok (.pop, 1) := by decide +kernel
theorem dX8_forStatement_75 : decode cX8_forStatement 75 = .ok (.aload_n 0, 1) := by decide +kernel
theorem dX8_forStatement_76 : decode cX8_forStatement 76 = .ok (.bipush 38, 2) := by decide +kernel
theorem dX8_forStatement_78 : decode cX8_forStatement 78 = .ok (.invokevirtual 36, 3) := by decide +kernel
theorem dX8_forStatement_81 : decode cX8_forStatement 81 = .ok (.ifCond .ne 11, 3) := by decide +kernel
theorem dX8_forStatement_84 : decode cX8_forStatement 84 = .ok (.aload_n 1, 1) := by decide +kernel
theorem dX8_forStatement_85 : decode cX8_forStatement 85 = .ok (.aload_n 0, 1) := by decide +kernel
theorem dX8_forStatement_86 : decode cX8_forStatement 86 = .ok (.invokevirtual 196, 3) := by decide +kernel
theorem dX8_forStatement_89 : decode cX8_forStatement 89 = .ok (.putfield 230, 3) := by decide +kernel
theorem dX8_forStatement_44 : decode cX8_forStatement 44 = .ok (.aload_n 1, 1) := by decide +kernel
theorem dX8_forStatement_45 : decode cX8_forStatement 45 = .ok (.aload_n 0, 1) := by decide +kernel
theorem dX8_forStatement_46 : decode cX8_forStatement 46 = .ok (.invokevirtual 174, 3) := by decide +kernel
theorem dX8_forStatement_49 : decode cX8_forStatement 49 = .ok (.ifCond .eq 11, 3) := by decide +kernel
theorem dX8_forStatement_60 : decode cX8_forStatement 60 = .ok (.aload_n 0, 1) := by decide +kernel
theorem dX8_forStatement_61 : decode cX8_forStatement 61 = .ok (.iconst 0, 1) := by decide +kernel
theorem dX8_forStatement_62 : decode cX8_forStatement 62 = .ok (.invokevirtual 218, 3) := by decide +kernel
theorem dX8_forStatement_65 : decode cX8_forStatement 65 = .ok (.putfield 165, 3) := by decide +kernel
theorem dX8_forStatement_52 : decode cX8_forStatement 52 = .ok (.aload_n 0, 1) := by decide +kernel
theorem dX8_forStatement_53 : decode cX8_forStatement 53 = .ok (.iconst 0, 1) := by decide +kernel
theorem dX8_forStatement_54 : decode cX8_forStatement 54 = .ok (.invokevirtual 183, 3) := by decide +kernel
theorem dX8_forStatement_57 : decode cX8_forStatement 57 = .ok (.goto 8, 3) := by decide +kernel
theorem hV_X8_simple : yX8_simple.cls = RX8 ∧ yX8_simple.cls ≠ "java/lang/invoke/MethodHandle" ∧ yX8_simple.cls ≠ "java/lang/invoke/VarHandle" ∧ (parseMethodDescriptor yX8_simple.desc).map (fun d => d.parameters.length) = some 1 := by decide +kernel
theorem hV_X8_beginsLocal : yX8_beginsLocal.cls = RX8 ∧ yX8_beginsLocal.cls ≠ "java/lang/invoke/MethodHandle" ∧ yX8_beginsLocal.cls ≠ "java/lang/invoke/VarHandle" ∧ (parseMethodDescriptor yX8_beginsLocal.desc).map (fun d => d.parameters.length) = some 0 := by decide +kernel
theorem hV_X8_local : yX8_local.cls = RX8 ∧ yX8_local.cls ≠ "java/lang/invoke/MethodHandle" ∧ yX8_local.cls ≠ "java/lang/invoke/VarHandle" ∧ (parseMethodDescriptor yX8_local.desc).map (fun d => d.parameters.length) = some 1 := by decide +kernel
set_option maxHeartbeats 60000000 in
set_option maxRecDepth 100000 in
theorem P_for (l : Launch) (G : pT) (h0 : Nat) (a : Nat → Nat) (F : Nat → Int32) (R : Nat → Value) (Z : Int64) (B : Nat → Nat → Int32) (J : Nat → Nat → Int64) (K : PK) (w : va_W) (n : Nat) (at9 : Nat) (sz : Nat) (dp : Nat) (sg : Nat) (O : Nat) (g : Nat → Nat → Nat) (hsz : sz ≤ 5000) (hat : at9 ≤ sz) (hdp : dp + n = 20) (hsg : sg ≤ 60) (hwn : WN K g) (how : ∀ o : Nat, O = o + 1 → K.1 o = 1 ∧ g 0 o = 0 ∧ ¬ K.2.1 0 o = 32) (hle : at9 + 1 ≤ sz) (ist : PSt l G n) (hO : OKP G h0 a (upd (upd (upd (upd F 2 (nI sz)) 9 (nI at9)) 10 (nI dp)) 11 (nI sg)) R Z B J K w) (hl0 : l.stackTraces = false) : PBn l G pX0 yX8_forStatement cX8_forStatement 2 (some (.object "JinjaTongue$Node")) ({ frames := (50 * n + 58), cells := (2 * (sz - at9) + 20), slots := (11 * (2 * (sz - at9) + 20)), locals := (1500 * n + 1650) }) [.ref (a 3)] w (fun (v : Option Value) (u : va_W × (Nat × PK × (Nat → Nat → Nat) × Nat × Nat × (Nat → Int32) × Nat)) => v = some (.ref u.2.1) ∧ (NwR K u.2.2.1 g u.2.2.2.1 u.2.1 O u.2.2.2.2.2.2.2 ((173 + 3 * (20 - dp)))) ∧ (rS u.2.2.2.2.2.2.2 = at9 ∧ rE u.2.2.2.2.2.2.2 ≤ u.2.2.2.2.1 ∧ rS u.2.2.2.2.2.2.2 ≤ rE u.2.2.2.2.2.2.2 ∧ rD u.2.2.2.2.2.2.2 ≤ 2 * (20 - dp) + 2) ∧ (at9 + 6 ≤ u.2.2.2.2.1 ∧ u.2.2.2.2.1 ≤ sz) ∧ (sg ≤ u.2.2.2.2.2.1 ∧ u.2.2.2.2.2.1 ≤ 60) ∧ (¬ u.2.2.1.2.1 0 u.2.1 = 22) ∧ (NwT (B 7) sz (B 10) u.2.2.2.2.2.2.1 K u.2.2.1 at9 u.2.2.2.2.1) ∧ (OKP G h0 a (upd (upd (upd (upd F 2 (nI sz)) 9 (nI u.2.2.2.2.1)) 10 (nI dp)) 11 (nI u.2.2.2.2.2.1)) R Z (updA B 10 u.2.2.2.2.2.2.1) J u.2.2.1 u.1)) (fun u => u.1) (fun (u : va_W × (Nat × PK × (Nat → Nat → Nat) × Nat × Nat × (Nat → Int32) × Nat)) => (2 * (u.2.2.2.2.1 - at9) - 6)) (fun (u : va_W × (Nat × PK × (Nat → Nat → Nat) × Nat × Nat × (Nat → Int32) × Nat)) => (11 * (2 * (u.2.2.2.2.1 - at9) - 6))) (fun (u : va_W × (Nat → Int32) × (Nat → Value) × (Nat → Nat → Int32)) => ThQ G h0 a (upd (upd (upd (upd F 2 (nI sz)) 9 (nI at9)) 10 (nI dp)) 11 (nI sg)) R Z B J u) (fun u => u.1) := by
  intro sz
  refine vx_ofW (cc := cX8_forStatement) (maxL := 2) (ret := (some (.object "JinjaTongue$Node"))) (by decide) rfl ?_
  intro p e s m args below meth c s₁ B9 hml hnt hv
  obtain ⟨rfl, hsz, hP, hD0, hE, hX⟩ := hv
  have hx := B9.exec
  have hb := B9.bytes
  have hr := B9.returns
  have hts := atoms_spec (ws := Cond.code yX8_forStatement cX8_forStatement 2 (some (.object "JinjaTongue$Node")) :: pw) B9.pre
  have hq : ∀ w ∈ pw, w.before _ s = true := fun w h => hts w (List.mem_cons_of_mem _ h)
  have hown : s.vm.findClass RX8 = some m.cls := findClass_of_methodNamed B9.named
  have hlocks := B9.notSynchronized
  subst hsz
  have hD := hD0.self (sz := s.heap.size)
  have hA : ∀ q : Nat, s.heap.size ≤ q → va_A w s.heap.size q := fun q h => Or.inr h
  generalize va_A w s.heap.size = A at hD hE hA ⊢
  have hS : va_S A s.heap s.heap [] := va_S.rf
  have hl := lv_entry ([.ref (a 3)]) (n := 2) (Nat.le_of_ble_eq_true rfl)
  rw [lg_entry_eq]
  generalize (lg_sl ([.ref (a 3)]) ++ List.replicate (2 - (lg_sl ([.ref (a 3)])).length) Slot.unset).toArray = ls at hl ⊢
  have hl : lv_has ls 2 [(0, .ref (a 3))] := hl
  have htk0 : NwT (B 7) sz (B 10) (B 10) K K at9 at9 := NwT.nil
  have hns0 : NwS K K g g := NwS.nil hwn
  refine p_new (s9 := 1) (C := RX7) (T := TX7) (N := 11) (ci := 13) (fs := [.int 0, .int 0, .int 0, .int 0, .int 0, .int 0, .null, .null, .null, .null, .null]) hx hb hq pin_wsX70 tyX7 tyX7_ok hown (hq _ pw_870) (hq _ pw_871) (hq _ pw_872) hE hP hD hS hA hO rfl nw_X7 (by decide) (fun q => by rw [rep_1 (show (kN K q 1 0).1 q = 1 from if_pos rfl)]; unfold fsNode kN; simp only [if_true]; rfl) (by show 0 + 1 ≤ (2 * (sz - at9) + 20); omega) (by show 0 + 11 ≤ (11 * (2 * (sz - at9) + 20)); omega) dX8_forStatement_0 (fun q1 H w hq2 hP hD hS hO => ?_)
  have hf3 : (kN K q1 1 0).1 q1 = 1 := if_pos rfl
  refine W.widen (k := 1) (n := 11) (by show 0 + 1 ≤ 1; omega) (by show 0 + 11 ≤ 11; omega) ?_
  refine lv_dup hx hb dX8_forStatement_3 rfl ?_
  refine lv_bipush (v := 27) hx hb dX8_forStatement_4 (by decide) ?_
  refine lv_aload_n hx hb dX8_forStatement_6 rfl (lv_at hl 0 rfl) ?_
  refine c_get (v := .int (nI at9)) (C := RX8) (Tc := TX8) (N := 5) (ci := 5) hx hb hq pin_wsX80 hown hE hP hO 23 (sg_23 G h0 a _ _ _ _ _) rfl 2 (by decide) (hq _ pw_776) (fun _ h9 => h9) rfl dX8_forStatement_7 ?_
  refine lv_aload_n hx hb dX8_forStatement_10 rfl (lv_at hl 0 rfl) ?_
  refine c_get (v := .int (nI at9)) (C := RX8) (Tc := TX8) (N := 5) (ci := 5) hx hb hq pin_wsX80 hown hE hP hO 23 (sg_23 G h0 a _ _ _ _ _) rfl 2 (by decide) (hq _ pw_776) (fun _ h9 => h9) rfl dX8_forStatement_11 ?_
  have hO : OKP G h0 a (upd (upd (upd (upd F 2 (nI sz)) 9 (nI at9)) 10 (nI dp)) 11 (nI sg)) R Z B J (kN K q1 1 0) w := hO.to rfl
  obtain ⟨qr7, hqr8⟩ := p_recv hO (by rw [hf3]; decide) (rep_1 hf3)
  refine pc_I0 (G := G) (As := [.int 27, .int (nI at9), .int (nI at9)]) (rest := [.ref q1]) hx hb hml hown hq hE hX pX0_al hP hD hS hA hl.1 (N_init l G h0 a (upd (upd (upd (upd F 2 (nI sz)) 9 (nI at9)) 10 (nI dp)) 11 (nI sg)) R Z B J (kN K q1 1 0) w q1 27 (nI at9) (nI at9) (by omega) hO) pw_874 pw_875 pw_872 pw_765 rfl hS_X7_init rfl (Nat.le_of_ble_eq_true rfl) dX8_forStatement_14 ⟨(by show 1 + 0 ≤ (2 * (sz - at9) + 20); omega), (by show 11 + 0 ≤ (11 * (2 * (sz - at9) + 20)); omega)⟩ ⟨(by show 2 + 1 ≤ (50 * n + 58); omega), (by show 8 + (4 + 11) + 60 ≤ (1500 * n + 1650); omega)⟩ (fun v6 u4 H locs hw5 hP hD hS => ?_)
  obtain ⟨w, _⟩ := u4
  obtain ⟨hw5, hO⟩ := hw5
  obtain rfl : v6 = none := hw5
  have hf9 : (kI (kI (kI (kN K q1 1 0) 0 q1 27) 1 q1 (nI at9)) 2 q1 (nI at9)).1 q1 = 1 := hf3
  have hO : OKP G h0 a (upd (upd (upd (upd F 2 (nI sz)) 9 (nI at9)) 10 (nI dp)) 11 (nI sg)) R Z B J (kI (kI (kI (kN K q1 1 0) 0 q1 27) 1 q1 (nI at9)) 2 q1 (nI at9)) w := hO.to rfl
  refine W.widen (k := 1) (n := 11) (by show 1 + 0 ≤ 1; omega) (by show 11 + 0 ≤ 11; omega) ?_
  refine W.eq (g2 := F0 m 17 ls [.ref q1]) rfl ?_
  change OKP G h0 a (upd (upd (upd (upd F 2 (nI sz)) 9 (nI at9)) 10 (nI dp)) 11 (nI sg)) R Z B J (mkN K q1 27 (nI at9) (nI at9)) w at hO
  obtain ⟨K10, hK11⟩ : ∃ z : PK, z = (mkN K q1 27 (nI at9) (nI at9)) := ⟨_, rfl⟩
  rw [← hK11] at hO
  have htk12 : NwT (B 7) sz (B 10) (B 10) K K10 at9 at9 := by rw [hK11]; exact NwT.new (NwT.le htk0 (show _ ≤ at9 by omega)) hq2 (TkP.no (by decide))
  have hf13 : K10.1 q1 = 1 := by rw [hK11]; exact mkN_T
  have hf14 : K10.2.1 0 q1 = 27 := by rw [hK11]; exact mkN_0
  have hf15 : K10.2.1 2 q1 = (nI at9) := by rw [hK11]; exact mkN_2
  have hf16 : K10.2.2.1 0 q1 = none := by rw [hK11]; exact mkN_C
  have hf17 : K10.2.2.1 1 q1 = none := by rw [hK11]; exact mkN_C
  have hf18 : K10.2.2.1 2 q1 = none := by rw [hK11]; exact mkN_C
  have hf19 : K10.2.2.1 3 q1 = none := by rw [hK11]; exact mkN_C
  have hf20 : K10.2.2.1 4 q1 = none := by rw [hK11]; exact mkN_C
  have hns21 : NwS K K10 g (gset g q1 0 0 0) := by rw [hK11]; exact NwS.node hns0 hq2
  have hq22 : K.1 q1 = 0 := old_T hns0.2.1 hq2
  have hg23 : (gset g q1 0 0 0) 0 q1 = 0 := gset_0
  have hno24 : NoO K10 (gset g q1 0 0 0) q1 := by rw [hK11]; exact NoO.new hns0.1 hq2
  refine lv_astore_n (lv' := [(1, .ref q1), (0, .ref (a 3))]) hx hb dX8_forStatement_17 rfl hl (by decide) rfl (fun ls hl => ?_)
  have cut_j : ∀ (at2 : Nat) (sg2 : Nat) (f2 : Nat → Int32) (K2 : PK) (g2 : Nat → Nat → Nat) (q2 : Nat) (oa : Option Nat) (ob : Option Nat) (m2 : Nat) (H : Heap) (locs : List Loc) (ls : Array Slot) (w : va_W), (at9 + 3 ≤ m2 ∧ m2 ≤ at2) → (at9 + 3 ≤ at2 ∧ at2 ≤ sz) → (sg ≤ sg2 ∧ sg2 ≤ 60) → (NwS K K2 g g2) → (K.1 q2 = 0) → (K2.1 q2 = 1) → (g2 0 q2 = 0) → (NoO K2 g2 q2) → (K2.2.1 0 q2 = 27) → (K2.2.2.1 0 q2 = oa) → (K2.2.2.1 1 q2 = ob) → (K2.2.2.1 2 q2 = none) → (K2.2.2.1 3 q2 = none) → (K2.2.2.1 4 q2 = none) → (KdO K2 g2 oa (173 + 3 * (20 - dp))) → (KdO K2 g2 ob (173 + 3 * (20 - dp))) → (KdF K2 g2 oa (at9 + 2) m2) → (KdE g2 ob m2 at2) → (NwT (B 7) sz (B 10) f2 K K2 at9 at2) → va_P G.1 pCl w H → va_D A w → va_S A s.heap H locs → OKP G h0 a (upd (upd (upd (upd F 2 (nI sz)) 9 (nI at2)) 10 (nI dp)) 11 (nI sg2)) R Z (updA B 10 f2) J K2 w → lv_has ls 2 [(1, .ref q2), (0, .ref (a 3))] → W p l e (headSpec (Cond.code yX8_forStatement cX8_forStatement 2 (some (.object "JinjaTongue$Node")) :: pw) ({ frames := (50 * n + 58), cells := (2 * (sz - at9) + 20), slots := (11 * (2 * (sz - at9) + 20)), locals := (1500 * n + 1650) } : Room)).room s m ([.ref (a 3)] : List Value).toArray below meth c H locs (2 * (at2 - at9) - 4) (11 * (2 * (at2 - at9) - 4)) (vx_MQ below (pQn G A (fun (v : Option Value) (u : va_W × (Nat × PK × (Nat → Nat → Nat) × Nat × Nat × (Nat → Int32) × Nat)) => v = some (.ref u.2.1) ∧ (NwR K u.2.2.1 g u.2.2.2.1 u.2.1 O u.2.2.2.2.2.2.2 ((173 + 3 * (20 - dp)))) ∧ (rS u.2.2.2.2.2.2.2 = at9 ∧ rE u.2.2.2.2.2.2.2 ≤ u.2.2.2.2.1 ∧ rS u.2.2.2.2.2.2.2 ≤ rE u.2.2.2.2.2.2.2 ∧ rD u.2.2.2.2.2.2.2 ≤ 2 * (20 - dp) + 2) ∧ (at9 + 6 ≤ u.2.2.2.2.1 ∧ u.2.2.2.2.1 ≤ sz) ∧ (sg ≤ u.2.2.2.2.2.1 ∧ u.2.2.2.2.2.1 ≤ 60) ∧ (¬ u.2.2.1.2.1 0 u.2.1 = 22) ∧ (NwT (B 7) sz (B 10) u.2.2.2.2.2.2.1 K u.2.2.1 at9 u.2.2.2.2.1) ∧ (OKP G h0 a (upd (upd (upd (upd F 2 (nI sz)) 9 (nI u.2.2.2.2.1)) 10 (nI dp)) 11 (nI u.2.2.2.2.2.1)) R Z (updA B 10 u.2.2.2.2.2.2.1) J u.2.2.1 u.1)) (fun u => u.1) (fun (u : va_W × (Nat × PK × (Nat → Nat → Nat) × Nat × Nat × (Nat → Int32) × Nat)) => (2 * (u.2.2.2.2.1 - at9) - 6)) (fun (u : va_W × (Nat × PK × (Nat → Nat → Nat) × Nat × Nat × (Nat → Int32) × Nat)) => (11 * (2 * (u.2.2.2.2.1 - at9) - 6)))) (pXX G A (fun (u : va_W × (Nat → Int32) × (Nat → Value) × (Nat → Nat → Int32)) => ThQ G h0 a (upd (upd (upd (upd F 2 (nI sz)) 9 (nI at9)) 10 (nI dp)) 11 (nI sg)) R Z B J u) (fun u => u.1)) ([.ref (a 3)] : List Value).toArray s ({ frames := (50 * n + 58), cells := (2 * (sz - at9) + 20), slots := (11 * (2 * (sz - at9) + 20)), locals := (1500 * n + 1650) } : Room).cells ({ frames := (50 * n + 58), cells := (2 * (sz - at9) + 20), slots := (11 * (2 * (sz - at9) + 20)), locals := (1500 * n + 1650) } : Room).slots A) (F0 m 92 ls []) := by
    intro at2 sg2 f2 K2 g2 q2 oa ob m2 H locs ls w hbo2 hat2 hsg2 hns2 hq20 hq2 hg20 hno2 hkd2 hc20 hc21 hc22 hc23 hc24 hoa hob hia hib htkj hP hD hS hO hl
    refine lv_aload_n hx hb dX8_forStatement_92 rfl (lv_at hl 1 rfl) ?_
    refine lv_bipush (v := 38) hx hb dX8_forStatement_93 (by decide) ?_
    have hO : OKW G h0 a (upd (upd (upd (upd (upd (upd (upd (upd F 2 (nI sz)) 9 (nI at9)) 10 (nI dp)) 11 (nI sg)) 9 (nI at2)) 11 (nI sg2)) 2 (nI sz)) 9 (nI at2)) R Z (updA B 10 f2) J K2.1 (fun q99 x99 => x99 = rep G a K2 q99) w := hO.to rfl
    obtain ⟨_, qr28, hqr29⟩ := hO.2.1 23 _ (sg_23 G h0 a _ _ _ _ _)
    refine pn_V0 (G := G) (As := [.int 38]) (rest := []) hx hb hml hown hq hE hX pX0_al hP hD hS hA hl.1 (P_take l G h0 a (upd (upd (upd (upd (upd (upd F 2 (nI sz)) 9 (nI at9)) 10 (nI dp)) 11 (nI sg)) 9 (nI at2)) 11 (nI sg2)) R Z (updA B 10 f2) J K2.1 (fun q99 x99 => x99 = rep G a K2 q99) w 38 at2 sz (by omega) (by omega) (by decide) hO hl0) (gV pw_793 pw_794 pw_795 pw_796 pw_781) hV_X8_take qr28 5 hqr29 rfl rfl rfl (Nat.le_of_ble_eq_true rfl) dX8_forStatement_95 ⟨(by show (2 * (at2 - at9) - 4) + 1 ≤ (2 * (sz - at9) + 20); omega), (by show (11 * (2 * (at2 - at9) - 4)) + 6 ≤ (11 * (2 * (sz - at9) + 20)); omega)⟩ ⟨(by show 7 + 1 ≤ (50 * n + 58); omega), (by show 8 + (2 + 11) + 122 ≤ (1500 * n + 1650); omega)⟩ (fun v27 u25 H locs hw26 hP hD hS => ?_) (fun ux ce9 q9 H9 locs9 hux hP9 hD9 hS9 hce hcv hcl => pb_out ux (ThQ.up (Thx.same (Thx.same (Thx.b (Thx.f (Thx.f Thx.rfl (by omega)) (by omega)) (by omega) (by decide)) rfl) rfl) RhX.rfl hux) hnt hlocks hce hcv hcl hP9 hD9 hS9 (by show (2 * (at2 - at9) - 4) + 1 ≤ (2 * (sz - at9) + 20); omega) (by show (11 * (2 * (at2 - at9) - 4)) + 6 ≤ (11 * (2 * (sz - at9) + 20)); omega))
    obtain ⟨w, _⟩ := u25
    obtain ⟨hw26, h30, h31, hO⟩ := hw26
    have h30 : at2 + 1 ≤ sz := h30
    have h31 : tkN ((B 7)) sz 67 (nI at2) = 38 := h31
    obtain rfl : v27 = some (.int (nI at2)) := hw26
    have hO : OKP G h0 a (upd (upd (upd (upd F 2 (nI sz)) 9 (nI (at2 + 1))) 10 (nI dp)) 11 (nI sg2)) R Z (updA B 10 f2) J K2 w := hO.to rfl
    refine W.widen (k := (2 * (at2 - at9) - 4)) (n := (11 * (2 * (at2 - at9) - 4))) (by show (2 * (at2 - at9) - 4) + 0 ≤ (2 * (at2 - at9) - 4); omega) (by show (11 * (2 * (at2 - at9) - 4)) + 0 ≤ (11 * (2 * (at2 - at9) - 4)); omega) ?_
    refine W.eq (g2 := F0 m 98 ls [.int (nI at2)]) rfl ?_
    refine lv_pop hx hb dX8_forStatement_98 rfl ?_
    refine lv_aload_n hx hb dX8_forStatement_99 rfl (lv_at hl 1 rfl) ?_
    refine lv_bipush (v := 35) hx hb dX8_forStatement_100 (by decide) ?_
    have hO : OKW G h0 a (upd (upd (upd (upd (upd (upd F 2 (nI sz)) 9 (nI (at2 + 1))) 10 (nI dp)) 11 (nI sg2)) 2 (nI sz)) 9 (nI (at2 + 1))) R Z (updA B 10 f2) J K2.1 (fun q99 x99 => x99 = rep G a K2 q99) w := hO.to rfl
    obtain ⟨_, qr35, hqr36⟩ := hO.2.1 23 _ (sg_23 G h0 a _ _ _ _ _)
    refine pc_V0 (G := G) (As := [.int 35]) (rest := []) hx hb hml hown hq hE hX pX0_al hP hD hS hA hl.1 (P_sees l G h0 a (upd (upd (upd (upd F 2 (nI sz)) 9 (nI (at2 + 1))) 10 (nI dp)) 11 (nI sg2)) R Z (updA B 10 f2) J K2.1 (fun q99 x99 => x99 = rep G a K2 q99) w 35 (at2 + 1) sz (by omega) (by omega) hO) (gV pw_803 pw_804 pw_805 pw_796 pw_775) hV_X8_sees qr35 5 hqr36 rfl rfl rfl (Nat.le_of_ble_eq_true rfl) dX8_forStatement_102 ⟨(by show (2 * (at2 - at9) - 4) + 0 ≤ (2 * (sz - at9) + 20); omega), (by show (11 * (2 * (at2 - at9) - 4)) + 0 ≤ (11 * (2 * (sz - at9) + 20)); omega)⟩ ⟨(by show 3 + 1 ≤ (50 * n + 58); omega), (by show 8 + (2 + 11) + 81 ≤ (1500 * n + 1650); omega)⟩ (fun v34 u32 H locs hw33 hP hD hS => ?_)
    obtain ⟨w, r37⟩ := u32
    obtain ⟨hw33, h38, h39, hO⟩ := hw33
    have h38 : r37 ≤ 1 := h38
    have h39 : SeQ ((B 7)) sz (at2 + 1) 35 r37 := h39
    obtain rfl : v34 = some (.int (nI r37)) := hw33
    have hO : OKP G h0 a (upd (upd (upd (upd F 2 (nI sz)) 9 (nI (at2 + 1))) 10 (nI dp)) 11 (nI sg2)) R Z (updA B 10 f2) J K2 w := hO.to rfl
    refine W.widen (k := (2 * (at2 - at9) - 4)) (n := (11 * (2 * (at2 - at9) - 4))) (by show (2 * (at2 - at9) - 4) + 0 ≤ (2 * (at2 - at9) - 4); omega) (by show (11 * (2 * (at2 - at9) - 4)) + 0 ≤ (11 * (2 * (at2 - at9) - 4)); omega) ?_
    refine W.eq (g2 := F0 m 105 ls [.int (nI r37)]) rfl ?_
    refine lv_if_ne (tgt := 117) hx hb dX8_forStatement_105 (by decide) (fun c40 => ?_) (fun c40 => ?_)
    · have n41 : ¬ (r37 = 0) := fun h9 => c40 ((nI_eq (a := r37) (b := 0) (by omega) (by omega)).mpr h9)
      refine lv_aload_n hx hb dX8_forStatement_117 rfl (lv_at hl 1 rfl) ?_
      refine lv_bipush (v := 35) hx hb dX8_forStatement_118 (by decide) ?_
      have hO : OKW G h0 a (upd (upd (upd (upd (upd (upd (upd (upd F 2 (nI sz)) 9 (nI at9)) 10 (nI dp)) 11 (nI sg)) 9 (nI (at2 + 1))) 11 (nI sg2)) 2 (nI sz)) 9 (nI (at2 + 1))) R Z (updA B 10 f2) J K2.1 (fun q99 x99 => x99 = rep G a K2 q99) w := hO.to rfl
      obtain ⟨_, qr45, hqr46⟩ := hO.2.1 23 _ (sg_23 G h0 a _ _ _ _ _)
      refine pn_V0 (G := G) (As := [.int 35]) (rest := []) hx hb hml hown hq hE hX pX0_al hP hD hS hA hl.1 (P_take l G h0 a (upd (upd (upd (upd (upd (upd F 2 (nI sz)) 9 (nI at9)) 10 (nI dp)) 11 (nI sg)) 9 (nI (at2 + 1))) 11 (nI sg2)) R Z (updA B 10 f2) J K2.1 (fun q99 x99 => x99 = rep G a K2 q99) w 35 (at2 + 1) sz (by omega) (by omega) (by decide) hO hl0) (gV pw_793 pw_794 pw_795 pw_796 pw_781) hV_X8_take qr45 5 hqr46 rfl rfl rfl (Nat.le_of_ble_eq_true rfl) dX8_forStatement_120 ⟨(by show (2 * (at2 - at9) - 4) + 1 ≤ (2 * (sz - at9) + 20); omega), (by show (11 * (2 * (at2 - at9) - 4)) + 6 ≤ (11 * (2 * (sz - at9) + 20)); omega)⟩ ⟨(by show 7 + 1 ≤ (50 * n + 58); omega), (by show 8 + (2 + 11) + 122 ≤ (1500 * n + 1650); omega)⟩ (fun v44 u42 H locs hw43 hP hD hS => ?_) (fun ux ce9 q9 H9 locs9 hux hP9 hD9 hS9 hce hcv hcl => pb_out ux (ThQ.up (Thx.same (Thx.same (Thx.b (Thx.f (Thx.f Thx.rfl (by omega)) (by omega)) (by omega) (by decide)) rfl) rfl) RhX.rfl hux) hnt hlocks hce hcv hcl hP9 hD9 hS9 (by show (2 * (at2 - at9) - 4) + 1 ≤ (2 * (sz - at9) + 20); omega) (by show (11 * (2 * (at2 - at9) - 4)) + 6 ≤ (11 * (2 * (sz - at9) + 20)); omega))
      obtain ⟨w, _⟩ := u42
      obtain ⟨hw43, h47, h48, hO⟩ := hw43
      have h47 : (at2 + 1) + 1 ≤ sz := h47
      have h48 : tkN ((B 7)) sz 67 (nI (at2 + 1)) = 35 := h48
      obtain rfl : v44 = some (.int (nI (at2 + 1))) := hw43
      have hO : OKP G h0 a (upd (upd (upd (upd F 2 (nI sz)) 9 (nI ((at2 + 1) + 1))) 10 (nI dp)) 11 (nI sg2)) R Z (updA B 10 f2) J K2 w := hO.to rfl
      refine W.widen (k := (2 * (at2 - at9) - 4)) (n := (11 * (2 * (at2 - at9) - 4))) (by show (2 * (at2 - at9) - 4) + 0 ≤ (2 * (at2 - at9) - 4); omega) (by show (11 * (2 * (at2 - at9) - 4)) + 0 ≤ (11 * (2 * (at2 - at9) - 4)); omega) ?_
      refine W.eq (g2 := F0 m 123 ls [.int (nI (at2 + 1))]) rfl ?_
      refine lv_pop hx hb dX8_forStatement_123 rfl ?_
      refine lv_aload_n hx hb dX8_forStatement_124 rfl (lv_at hl 0 rfl) ?_
      refine lv_aload_n hx hb dX8_forStatement_125 rfl (lv_at hl 1 rfl) ?_
      refine lv_iconst (v := 0) hx hb dX8_forStatement_126 (by decide) ?_
      have hO : OKP G h0 a (upd (upd (upd (upd (upd (upd (upd (upd (upd (upd F 2 (nI sz)) 9 (nI at9)) 10 (nI dp)) 11 (nI sg)) 9 (nI ((at2 + 1) + 1))) 11 (nI sg2)) 2 (nI sz)) 9 (nI ((at2 + 1) + 1))) 10 (nI dp)) 11 (nI sg2)) R Z (updA B 10 f2) J K2 w := hO.to rfl
      obtain ⟨_, qr52, hqr53⟩ := hO.2.1 23 _ (sg_23 G h0 a _ _ _ _ _)
      refine pn_V0 (G := G) (As := [.int (nI 0)]) (rest := [.ref q2]) hx hb hml hown hq hE hX pX0_al hP hD hS hA hl.1 (ist h0 a (upd (upd (upd (upd (upd (upd F 2 (nI sz)) 9 (nI at9)) 10 (nI dp)) 11 (nI sg)) 9 (nI ((at2 + 1) + 1))) 11 (nI sg2)) R Z (updA B 10 f2) J K2 w 0 ((at2 + 1) + 1) sz dp sg2 0 g2 (by omega) (by omega) hdp (by omega) hns2.1 (fun o9 h9 => absurd h9 (by omega)) (by omega) hO hl0) (gV pw_1003 pw_1004 pw_1005 pw_796 pw_1025) hV_X8_statement qr52 5 hqr53 rfl rfl rfl (Nat.le_of_ble_eq_true rfl) dX8_forStatement_127 ⟨(by show (2 * (at2 - at9) - 4) + (2 * (sz - ((at2 + 1) + 1)) + 20) ≤ (2 * (sz - at9) + 20); omega), (by show (11 * (2 * (at2 - at9) - 4)) + (11 * (2 * (sz - ((at2 + 1) + 1)) + 20)) ≤ (11 * (2 * (sz - at9) + 20)); omega)⟩ ⟨(by show (50 * n + 50) + 1 ≤ (50 * n + 58); omega), (by show 8 + (5 + 11) + (1500 * n + 1500) ≤ (1500 * n + 1650); omega)⟩ (fun v51 u49 H locs hw50 hP hD hS => ?_) (fun ux ce9 q9 H9 locs9 hux hP9 hD9 hS9 hce hcv hcl => pb_out ux (ThQ.up (Thx.same (Thx.same (Thx.same (Thx.same (Thx.b (Thx.f (Thx.f Thx.rfl (by omega)) (by omega)) (by omega) (by decide)) rfl) rfl) rfl) rfl) RhX.rfl hux) hnt hlocks hce hcv hcl hP9 hD9 hS9 (by show (2 * (at2 - at9) - 4) + (2 * (sz - ((at2 + 1) + 1)) + 20) ≤ (2 * (sz - at9) + 20); omega) (by show (11 * (2 * (at2 - at9) - 4)) + (11 * (2 * (sz - ((at2 + 1) + 1)) + 20)) ≤ (11 * (2 * (sz - at9) + 20)); omega))
      obtain ⟨w, r54, K55, g56, at57, sg58, f59, k60⟩ := u49
      obtain ⟨hw50, h61, h62, h63, h64, h65, h66, hO⟩ := hw50
      have h61 : NwR K2 K55 g2 g56 r54 0 k60 ((170 + 3 * (20 - dp))) := h61
      have h62 : rS k60 = ((at2 + 1) + 1) ∧ rE k60 ≤ at57 ∧ rS k60 ≤ rE k60 ∧ rD k60 ≤ 2 * (20 - dp) := h62
      have h63 : ((at2 + 1) + 1) + 1 ≤ at57 ∧ at57 ≤ sz := h63
      have h64 : sg2 ≤ sg58 ∧ sg58 ≤ 60 := h64
      have h65 : 0 = 0 → ¬ K55.2.1 0 r54 = 22 := h65
      have h66 : NwT ((B 7)) sz (f2) f59 K2 K55 ((at2 + 1) + 1) at57 := h66
      obtain rfl : v51 = some (.ref r54) := hw50
      have hf67 : K55.1 q2 = 1 := (((h61).2.1.1 q2 (by rw [hq2]; decide)).1).trans hq2
      have hf68 : K55.2.1 0 q2 = 27 := (((h61).2.1.1 q2 (by rw [hq2]; decide)).2.1 0).trans hkd2
      have hf69 : K55.2.2.1 2 q2 = none := (((h61).2.1.1 q2 (by rw [hq2]; decide)).2.2.1 2).trans hc22
      have hf70 : K55.2.2.1 3 q2 = none := (((h61).2.1.1 q2 (by rw [hq2]; decide)).2.2.1 3).trans hc23
      have hf71 : K55.2.2.1 4 q2 = none := (((h61).2.1.1 q2 (by rw [hq2]; decide)).2.2.1 4).trans hc24
      have hf72 : K55.2.2.1 0 q2 = oa := (((h61).2.1.1 q2 (by rw [hq2]; decide)).2.2.1 0).trans hc20
      have hf73 : K55.2.2.1 1 q2 = ob := (((h61).2.1.1 q2 (by rw [hq2]; decide)).2.2.1 1).trans hc21
      have hO : OKP G h0 a (upd (upd (upd (upd F 2 (nI sz)) 9 (nI at57)) 10 (nI dp)) 11 (nI sg58)) R Z (updA B 10 f59) J K55 w := hO.to rfl
      refine W.widen (k := ((2 * (at2 - at9) - 4) + (2 * (at57 - ((at2 + 1) + 1)) - 1))) (n := ((11 * (2 * (at2 - at9) - 4)) + (11 * (2 * (at57 - ((at2 + 1) + 1)) - 1)))) (by show (2 * (at2 - at9) - 4) + (2 * (at57 - ((at2 + 1) + 1)) - 1) ≤ ((2 * (at2 - at9) - 4) + (2 * (at57 - ((at2 + 1) + 1)) - 1)); omega) (by show (11 * (2 * (at2 - at9) - 4)) + (11 * (2 * (at57 - ((at2 + 1) + 1)) - 1)) ≤ ((11 * (2 * (at2 - at9) - 4)) + (11 * (2 * (at57 - ((at2 + 1) + 1)) - 1))); omega) ?_
      refine W.eq (g2 := F0 m 130 ls [.ref r54, .ref q2]) rfl ?_
      have htk74 : NwT (B 7) sz (B 10) f59 K K55 at9 at57 := (NwT.call htkj h66 (by omega))
      have hns75 : NwS K K55 g g56 := NwS.call hns2 h61 (fun o9 h9 => absurd h9 (by omega))
      have hrk76 : g56 2 r54 = k60 := h61.2.2.1.2.2.2.2.2.1
      have hf77 : K55.1 r54 = 1 := h61.2.2.1.2.1
      have hg78 : g56 0 q2 = 0 := (h61.2.1.2 q2 (by rw [hq2]; decide) 0).trans hg20
      have hno79 : NoO K55 g56 q2 := NoO.call hno2 h61 hq2 (by omega)
      have hgy80 := h61.2.2.1
      have hgy80a := hgy80.2.2.1
      have hgy80b := hgy80.2.2.2.1
      have hka81 := KdO.ext hoa h61.2.1
      have hkb82 := KdO.ext hob h61.2.1
      have hki83 := KdF.ext hia hoa h61.2.1
      have hkj84 := KdE.ext hib hob h61.2.1
      obtain ⟨kd85, hkd86⟩ : ∃ z : Int32, K55.2.1 0 r54 = z := ⟨_, rfl⟩
      have hn287 : ¬ kd85 = 22 := by rw [← hkd86]; exact h65 rfl
      refine p_put (v := .ref r54) (ty := (.object "JinjaTongue$Node")) (C := RX7) (Tc := TX7) (N := 11) (ci := 13) (K' := (kC K55 3 q2 (some r54))) hx hb hq pin_wsX70 tyX7 tyX7_ok nmX7 hown hE hP hD hS hO (by rw [hf67]; decide) (rep_1 hf67) rfl 9 (by decide) (hq _ pw_1011) (fun _ h9 => h9) rfl (by decide +kernel) rfl rfl (Nat.le_of_ble_eq_true rfl) rfl (by rw [rep_1 (show (kC K55 3 q2 (some r54)).1 q2 = 1 from hf67), pc_3] <;> rfl) (fun p9 hp9 => rep_kC hp9) dX8_forStatement_130 (fun H locs w hP hD hS hO => ?_)
      obtain ⟨K88, hK89⟩ : ∃ z : PK, z = (kC K55 3 q2 (some r54)) := ⟨_, rfl⟩
      rw [← hK89] at hO
      have hf90 : K88.1 q2 = 1 := (by rw [hK89]; exact hf67)
      have hf91 : K88.2.1 0 q2 = 27 := (by rw [hK89]; exact hf68)
      have hf92 : K88.2.2.1 2 q2 = none := (by rw [hK89]; exact (kC_of (by decide)).trans hf69)
      have hf93 : K88.2.2.1 4 q2 = none := (by rw [hK89]; exact (kC_of (by decide)).trans hf71)
      have hf94 : K88.2.2.1 0 q2 = oa := (by rw [hK89]; exact (kC_of (by decide)).trans hf72)
      have hf95 : K88.2.2.1 1 q2 = ob := (by rw [hK89]; exact (kC_of (by decide)).trans hf73)
      have hf96 : K88.1 r54 = 1 := (by rw [hK89]; exact hf77)
      have hf97 : K88.2.1 0 r54 = kd85 := (by rw [hK89]; exact hkd86)
      have hf98 : K88.2.2.1 3 q2 = some r54 := by rw [hK89]; exact kC_eq
      have htk99 : NwT (B 7) sz (B 10) f59 K K88 at9 at57 := by rw [hK89]; exact NwT.put htk74
      have hns100 : NwS K K88 g g56 := by rw [hK89]; exact NwS.put hns75 hq20 hg78
      have hno101 : NoO K88 g56 q2 := by rw [hK89]; exact hno79
      have hka102 : KdO K88 g56 oa (173 + 3 * (20 - dp)) := by rw [hK89]; exact hka81
      have hkb103 : KdO K88 g56 ob (173 + 3 * (20 - dp)) := by rw [hK89]; exact hkb82
      have hki104 : KdF K88 g56 oa (at9 + 2) m2 := by rw [hK89]; exact hki83
      refine lv_aload_n hx hb dX8_forStatement_133 rfl (lv_at hl 0 rfl) ?_
      refine W_size (fun hz1 hz2 => ?_)
      refine vx_ret ?_
      have hkid : ∀ f9 y9 : Nat, f9 ≤ 3 → K88.2.2.1 f9 q2 = some y9 → K88.1 y9 = 1 ∧ 1 ≤ g56 0 y9 ∧ g56 0 y9 < (173 + 3 * (20 - dp)) := by
        intro f9 y9 hf9 hy9
        rcases (show f9 = 0 ∨ f9 = 1 ∨ f9 = 2 ∨ f9 = 3 by omega) with rfl | rfl | rfl | rfl
        · rw [hf94] at hy9; exact hka102 y9 hy9
        · rw [hf95] at hy9; exact hkb103 y9 hy9
        · rw [hf92] at hy9; cases hy9
        · rw [hf98] at hy9; cases hy9; exact ⟨hf96, by omega, by omega⟩
      obtain ⟨k9, k9I, hkS, hkE, hkM, hkN, hkX, hkD⟩ := rk_ex (s := at9) (e := at57) (m := m2) (n := (rS k60)) (x := at2) (d := (2 * (20 - dp) + 2)) (by omega)
      have hkch9 : ∀ f9 y9 : Nat, f9 ≤ 3 → K88.2.2.1 f9 q2 = some y9 → Kch (K88.2.1 0 q2) f9 (K88.2.1 0 y9) k9 (g56 2 y9) := by
        intro f9 y9 hf9 hy9
        rw [hf91]
        rcases (show f9 = 0 ∨ f9 = 1 ∨ f9 = 2 ∨ f9 = 3 by omega) with rfl | rfl | rfl | rfl
        · rw [hf94] at hy9; have z9 := hki104 y9 hy9; have z8 := z9.1; exact ⟨(fun z => absurd z (by decide)), (fun z => absurd z (by decide)), (fun z => absurd z (by decide)), (fun z => absurd z (by decide)), (fun z => absurd z (by decide)), (fun z => absurd z (by decide)), (fun z => absurd z (by decide)), (fun z => absurd z (by decide)), (fun z => absurd z (by decide)), (fun z => absurd z (by decide)), (fun z => absurd z (by decide)), (fun z => absurd z (by decide)), (fun z => absurd z (by decide)), (fun z => absurd z (by decide)), (fun z => absurd z (by decide)), (fun z => absurd z (by decide)), (fun z => absurd z (by decide)), (fun _ _ => ⟨z9.2, (by omega)⟩), (fun _ z => absurd z (by decide)), (fun _ z => absurd z (by decide)), (fun _ z => absurd z (by decide)), (fun z => absurd z (by decide)), (fun z => absurd z (by decide)), (fun z => absurd z (by decide))⟩
        · rw [hf95] at hy9; have z9 := hkj84 y9 hy9; exact ⟨(fun z => absurd z (by decide)), (fun z => absurd z (by decide)), (fun z => absurd z (by decide)), (fun z => absurd z (by decide)), (fun z => absurd z (by decide)), (fun z => absurd z (by decide)), (fun z => absurd z (by decide)), (fun z => absurd z (by decide)), (fun z => absurd z (by decide)), (fun z => absurd z (by decide)), (fun z => absurd z (by decide)), (fun z => absurd z (by decide)), (fun z => absurd z (by decide)), (fun z => absurd z (by decide)), (fun z => absurd z (by decide)), (fun z => absurd z (by decide)), (fun z => absurd z (by decide)), (fun _ z => absurd z (by decide)), (fun _ _ => (by omega)), (fun _ z => absurd z (by decide)), (fun _ z => absurd z (by decide)), (fun z => absurd z (by decide)), (fun z => absurd z (by decide)), (fun z => absurd z (by decide))⟩
        · rw [hf92] at hy9; cases hy9
        · rw [hf98] at hy9; cases hy9; rw [hrk76]; exact ⟨(fun z => absurd z (by decide)), (fun z => absurd z (by decide)), (fun z => absurd z (by decide)), (fun z => absurd z (by decide)), (fun z => absurd z (by decide)), (fun z => absurd z (by decide)), (fun z => absurd z (by decide)), (fun z => absurd z (by decide)), (fun z => absurd z (by decide)), (fun z => absurd z (by decide)), (fun z => absurd z (by decide)), (fun z => absurd z (by decide)), (fun z => absurd z (by decide)), (fun z => absurd z (by decide)), (fun z => absurd z (by decide)), (fun z => absurd z (by decide)), (fun z => absurd z (by decide)), (fun _ z => absurd z (by decide)), (fun _ z => absurd z (by decide)), (fun _ z => absurd z (by decide)), (fun _ _ => ⟨(by rw [hf97]; exact hn287), (by omega)⟩), (fun z => absurd z (by decide)), (fun z => absurd z (by decide)), (fun z => absurd z (by decide))⟩
      have hdn := NwS.done1I (q := q2) (L := (173 + 3 * (20 - dp))) (O := O) (k := k9) hns100 hq20 hf90 hg78 (by omega) ⟨k9I, (by rw [hf91]; exact ⟨(fun z => absurd z (by decide)), (fun z => absurd z (by decide)), (fun _ => (by omega))⟩)⟩ (by rw [hf91]; exact ⟨(fun z => absurd z (by decide)), (fun z => absurd z (by decide)), (fun z => absurd z (by decide)), (fun z => absurd z (by decide)), fun _ => (by show ¬ K88.2.2.1 3 q2 = none; rw [hf98]; intro z; cases z)⟩) (fun f9 z => by rw [hf91] at z; rcases z with ⟨z, _⟩ | ⟨z | z | z, _⟩ <;> exact absurd z (by decide)) hkid hf93 hno101 hkch9 how
      have hz105 : NwR K K88 g (gset g56 q2 (173 + 3 * (20 - dp)) O k9) q2 O k9 ((173 + 3 * (20 - dp))) := hdn
      have hz106 : rS k9 = at9 ∧ rE k9 ≤ at57 ∧ rS k9 ≤ rE k9 ∧ rD k9 ≤ 2 * (20 - dp) + 2 := (by omega)
      have hz107 : at9 + 6 ≤ at57 ∧ at57 ≤ sz := (by omega)
      have hz108 : sg ≤ sg58 ∧ sg58 ≤ 60 := (by omega)
      have hz109 : ¬ K88.2.1 0 q2 = 22 := (by rw [hf91]; decide)
      have hz110 : NwT (B 7) sz (B 10) f59 K K88 at9 at57 := (NwT.le htk99 (by omega))
      have hO : OKP G h0 a (upd (upd (upd (upd F 2 (nI sz)) 9 (nI at57)) 10 (nI dp)) 11 (nI sg58)) R Z (updA B 10 f59) J K88 w := hO.to rfl
      refine W.widen (k := (2 * (sz - at9) + 20)) (n := (11 * (2 * (sz - at9) + 20))) (by omega) (by omega) ?_
      have hzz1 : H.size ≤ s.heap.size + ((2 * (at57 - at9) - 6)) := (by have z : ((2 * (at2 - at9) - 4) + (2 * (at57 - ((at2 + 1) + 1)) - 1)) ≤ (2 * (at57 - at9) - 6) := (by omega); omega)
      have hzz2 : hSl H ≤ hSl s.heap + ((11 * (2 * (at57 - at9) - 6))) := (by have z : ((11 * (2 * (at2 - at9) - 4)) + (11 * (2 * (at57 - ((at2 + 1) + 1)) - 1))) ≤ (11 * (2 * (at57 - at9) - 6)) := (by omega); omega)
      exact W.aret (v := .ref q2) hx hb hr (Or.inl ⟨_, rfl⟩) (Or.inr ⟨_, rfl⟩) (fun t99 ht99 hW99 => ⟨⟨_, (w, (q2, K88, (gset g56 q2 (173 + 3 * (20 - dp)) O k9), at57, sg58, f59, k9)), rfl, ⟨rfl, hz105, hz106, hz107, hz108, hz109, hz110, hO⟩, by rw [ht99]; exact hP, hD, by rw [ht99]; exact hzz1, by rw [ht99]; exact hzz2⟩, hS.F ht99⟩) hS.2.2 dX8_forStatement_134
    · have n111 : r37 = 0 := (nI_eq (a := r37) (b := 0) (by omega) (by omega)).mp c40
      refine lv_aload_n hx hb dX8_forStatement_108 rfl (lv_at hl 0 rfl) ?_
      refine lv_aload_n hx hb dX8_forStatement_109 rfl (lv_at hl 1 rfl) ?_
      refine lv_iconst (v := 1) hx hb dX8_forStatement_110 (by decide) ?_
      have hO : OKP G h0 a (upd (upd (upd (upd (upd (upd (upd (upd (upd (upd F 2 (nI sz)) 9 (nI at9)) 10 (nI dp)) 11 (nI sg)) 9 (nI (at2 + 1))) 11 (nI sg2)) 2 (nI sz)) 9 (nI (at2 + 1))) 10 (nI dp)) 11 (nI sg2)) R Z (updA B 10 f2) J K2 w := hO.to rfl
      obtain ⟨_, qr115, hqr116⟩ := hO.2.1 23 _ (sg_23 G h0 a _ _ _ _ _)
      refine pn_V0 (G := G) (As := [.int (nI 1)]) (rest := [.ref q2]) hx hb hml hown hq hE hX pX0_al hP hD hS hA hl.1 (P_simple l G h0 a (upd (upd (upd (upd (upd (upd F 2 (nI sz)) 9 (nI at9)) 10 (nI dp)) 11 (nI sg)) 9 (nI (at2 + 1))) 11 (nI sg2)) R Z (updA B 10 f2) J K2 w 1 n (at2 + 1) sz dp sg2 0 g2 (by omega) (by omega) hdp (by omega) hns2.1 (fun o9 h9 => absurd h9 (by omega)) (by omega) hO hl0) (gV pw_1018 pw_1019 pw_1020 pw_796 pw_994) hV_X8_simple qr115 5 hqr116 rfl rfl rfl (Nat.le_of_ble_eq_true rfl) dX8_forStatement_111 ⟨(by show (2 * (at2 - at9) - 4) + (2 * (sz - (at2 + 1)) + 20) ≤ (2 * (sz - at9) + 20); omega), (by show (11 * (2 * (at2 - at9) - 4)) + (11 * (2 * (sz - (at2 + 1)) + 20)) ≤ (11 * (2 * (sz - at9) + 20)); omega)⟩ ⟨(by show (40 * n + 44) + 1 ≤ (50 * n + 58); omega), (by show 8 + (5 + 11) + (1300 * n + 1400) ≤ (1500 * n + 1650); omega)⟩ (fun v114 u112 H locs hw113 hP hD hS => ?_) (fun ux ce9 q9 H9 locs9 hux hP9 hD9 hS9 hce hcv hcl => pb_out ux (ThQ.up (Thx.same (Thx.same (Thx.same (Thx.same (Thx.b (Thx.f (Thx.f Thx.rfl (by omega)) (by omega)) (by omega) (by decide)) rfl) rfl) rfl) rfl) RhX.rfl hux) hnt hlocks hce hcv hcl hP9 hD9 hS9 (by show (2 * (at2 - at9) - 4) + (2 * (sz - (at2 + 1)) + 20) ≤ (2 * (sz - at9) + 20); omega) (by show (11 * (2 * (at2 - at9) - 4)) + (11 * (2 * (sz - (at2 + 1)) + 20)) ≤ (11 * (2 * (sz - at9) + 20)); omega))
      obtain ⟨w, r117, K118, g119, at120, sg121, f122, k123⟩ := u112
      obtain ⟨hw113, h124, h125, h126, h127, h128, h129, hO⟩ := hw113
      have h124 : NwR K2 K118 g2 g119 r117 0 k123 (168) := h124
      have h125 : rS k123 = (at2 + 1) ∧ rE k123 ≤ at120 ∧ rS k123 ≤ rE k123 ∧ rD k123 ≤ 2 * (20 - dp) + 2 := h125
      have h126 : (at2 + 1) + 1 ≤ at120 ∧ at120 ≤ sz := h126
      have h127 : sg2 ≤ sg121 ∧ sg121 ≤ 60 := h127
      have h128 : (K118.2.1 0 r117 = 23 ∨ K118.2.1 0 r117 = 24) ∧ (1 = 0 → K118.2.1 0 r117 = 23) := h128
      have h129 : NwT ((B 7)) sz (f2) f122 K2 K118 (at2 + 1) at120 := h129
      obtain rfl : v114 = some (.ref r117) := hw113
      have hf130 : K118.1 q2 = 1 := (((h124).2.1.1 q2 (by rw [hq2]; decide)).1).trans hq2
      have hf131 : K118.2.1 0 q2 = 27 := (((h124).2.1.1 q2 (by rw [hq2]; decide)).2.1 0).trans hkd2
      have hf132 : K118.2.2.1 2 q2 = none := (((h124).2.1.1 q2 (by rw [hq2]; decide)).2.2.1 2).trans hc22
      have hf133 : K118.2.2.1 3 q2 = none := (((h124).2.1.1 q2 (by rw [hq2]; decide)).2.2.1 3).trans hc23
      have hf134 : K118.2.2.1 4 q2 = none := (((h124).2.1.1 q2 (by rw [hq2]; decide)).2.2.1 4).trans hc24
      have hf135 : K118.2.2.1 0 q2 = oa := (((h124).2.1.1 q2 (by rw [hq2]; decide)).2.2.1 0).trans hc20
      have hf136 : K118.2.2.1 1 q2 = ob := (((h124).2.1.1 q2 (by rw [hq2]; decide)).2.2.1 1).trans hc21
      have hO : OKP G h0 a (upd (upd (upd (upd F 2 (nI sz)) 9 (nI at120)) 10 (nI dp)) 11 (nI sg121)) R Z (updA B 10 f122) J K118 w := hO.to rfl
      refine W.widen (k := ((2 * (at2 - at9) - 4) + (2 * (at120 - (at2 + 1)) - 0))) (n := ((11 * (2 * (at2 - at9) - 4)) + (11 * (2 * (at120 - (at2 + 1)) - 0)))) (by show (2 * (at2 - at9) - 4) + (2 * (at120 - (at2 + 1)) - 0) ≤ ((2 * (at2 - at9) - 4) + (2 * (at120 - (at2 + 1)) - 0)); omega) (by show (11 * (2 * (at2 - at9) - 4)) + (11 * (2 * (at120 - (at2 + 1)) - 0)) ≤ ((11 * (2 * (at2 - at9) - 4)) + (11 * (2 * (at120 - (at2 + 1)) - 0))); omega) ?_
      refine W.eq (g2 := F0 m 114 ls [.ref r117, .ref q2]) rfl ?_
      have htk137 : NwT (B 7) sz (B 10) f122 K K118 at9 at120 := (NwT.call htkj h129 (by omega))
      have hns138 : NwS K K118 g g119 := NwS.call hns2 h124 (fun o9 h9 => absurd h9 (by omega))
      have hrk139 : g119 2 r117 = k123 := h124.2.2.1.2.2.2.2.2.1
      have hf140 : K118.1 r117 = 1 := h124.2.2.1.2.1
      have hg141 : g119 0 q2 = 0 := (h124.2.1.2 q2 (by rw [hq2]; decide) 0).trans hg20
      have hno142 : NoO K118 g119 q2 := NoO.call hno2 h124 hq2 (by omega)
      have hgy143 := h124.2.2.1
      have hgy143a := hgy143.2.2.1
      have hgy143b := hgy143.2.2.2.1
      have hka144 := KdO.ext hoa h124.2.1
      have hkb145 := KdO.ext hob h124.2.1
      have hki146 := KdF.ext hia hoa h124.2.1
      have hkj147 := KdE.ext hib hob h124.2.1
      obtain ⟨kd148, hkd149⟩ : ∃ z : Int32, K118.2.1 0 r117 = z := ⟨_, rfl⟩
      have hkf150 : kd148 = 23 ∨ kd148 = 24 := by rw [← hkd149]; exact h128.1
      refine p_put (v := .ref r117) (ty := (.object "JinjaTongue$Node")) (C := RX7) (Tc := TX7) (N := 11) (ci := 13) (K' := (kC K118 2 q2 (some r117))) hx hb hq pin_wsX70 tyX7 tyX7_ok nmX7 hown hE hP hD hS hO (by rw [hf130]; decide) (rep_1 hf130) rfl 8 (by decide) (hq _ pw_943) (fun _ h9 => h9) rfl (by decide +kernel) rfl rfl (Nat.le_of_ble_eq_true rfl) rfl (by rw [rep_1 (show (kC K118 2 q2 (some r117)).1 q2 = 1 from hf130), pc_2] <;> rfl) (fun p9 hp9 => rep_kC hp9) dX8_forStatement_114 (fun H locs w hP hD hS hO => ?_)
      obtain ⟨K151, hK152⟩ : ∃ z : PK, z = (kC K118 2 q2 (some r117)) := ⟨_, rfl⟩
      rw [← hK152] at hO
      have hf153 : K151.1 q2 = 1 := (by rw [hK152]; exact hf130)
      have hf154 : K151.2.1 0 q2 = 27 := (by rw [hK152]; exact hf131)
      have hf155 : K151.2.2.1 3 q2 = none := (by rw [hK152]; exact (kC_of (by decide)).trans hf133)
      have hf156 : K151.2.2.1 4 q2 = none := (by rw [hK152]; exact (kC_of (by decide)).trans hf134)
      have hf157 : K151.2.2.1 0 q2 = oa := (by rw [hK152]; exact (kC_of (by decide)).trans hf135)
      have hf158 : K151.2.2.1 1 q2 = ob := (by rw [hK152]; exact (kC_of (by decide)).trans hf136)
      have hf159 : K151.1 r117 = 1 := (by rw [hK152]; exact hf140)
      have hf160 : K151.2.1 0 r117 = kd148 := (by rw [hK152]; exact hkd149)
      have hf161 : K151.2.2.1 2 q2 = some r117 := by rw [hK152]; exact kC_eq
      have htk162 : NwT (B 7) sz (B 10) f122 K K151 at9 at120 := by rw [hK152]; exact NwT.put htk137
      have hns163 : NwS K K151 g g119 := by rw [hK152]; exact NwS.put hns138 hq20 hg141
      have hno164 : NoO K151 g119 q2 := by rw [hK152]; exact hno142
      have hka165 : KdO K151 g119 oa (173 + 3 * (20 - dp)) := by rw [hK152]; exact hka144
      have hkb166 : KdO K151 g119 ob (173 + 3 * (20 - dp)) := by rw [hK152]; exact hkb145
      have hki167 : KdF K151 g119 oa (at9 + 2) m2 := by rw [hK152]; exact hki146
      refine lv_aload_n hx hb dX8_forStatement_117 rfl (lv_at hl 1 rfl) ?_
      refine lv_bipush (v := 35) hx hb dX8_forStatement_118 (by decide) ?_
      have hO : OKW G h0 a (upd (upd (upd (upd (upd (upd (upd (upd F 2 (nI sz)) 9 (nI at9)) 10 (nI dp)) 11 (nI sg)) 9 (nI at120)) 11 (nI sg121)) 2 (nI sz)) 9 (nI at120)) R Z (updA B 10 f122) J K151.1 (fun q99 x99 => x99 = rep G a K151 q99) w := hO.to rfl
      obtain ⟨_, qr171, hqr172⟩ := hO.2.1 23 _ (sg_23 G h0 a _ _ _ _ _)
      refine pn_V0 (G := G) (As := [.int 35]) (rest := []) hx hb hml hown hq hE hX pX0_al hP hD hS hA hl.1 (P_take l G h0 a (upd (upd (upd (upd (upd (upd F 2 (nI sz)) 9 (nI at9)) 10 (nI dp)) 11 (nI sg)) 9 (nI at120)) 11 (nI sg121)) R Z (updA B 10 f122) J K151.1 (fun q99 x99 => x99 = rep G a K151 q99) w 35 at120 sz (by omega) (by omega) (by decide) hO hl0) (gV pw_793 pw_794 pw_795 pw_796 pw_781) hV_X8_take qr171 5 hqr172 rfl rfl rfl (Nat.le_of_ble_eq_true rfl) dX8_forStatement_120 ⟨(by show ((2 * (at2 - at9) - 4) + (2 * (at120 - (at2 + 1)) - 0)) + 1 ≤ (2 * (sz - at9) + 20); omega), (by show ((11 * (2 * (at2 - at9) - 4)) + (11 * (2 * (at120 - (at2 + 1)) - 0))) + 6 ≤ (11 * (2 * (sz - at9) + 20)); omega)⟩ ⟨(by show 7 + 1 ≤ (50 * n + 58); omega), (by show 8 + (2 + 11) + 122 ≤ (1500 * n + 1650); omega)⟩ (fun v170 u168 H locs hw169 hP hD hS => ?_) (fun ux ce9 q9 H9 locs9 hux hP9 hD9 hS9 hce hcv hcl => pb_out ux (ThQ.up (Thx.same (Thx.same (Thx.b (Thx.f (Thx.f Thx.rfl (by omega)) (by omega)) (by omega) (by decide)) rfl) rfl) RhX.rfl hux) hnt hlocks hce hcv hcl hP9 hD9 hS9 (by show ((2 * (at2 - at9) - 4) + (2 * (at120 - (at2 + 1)) - 0)) + 1 ≤ (2 * (sz - at9) + 20); omega) (by show ((11 * (2 * (at2 - at9) - 4)) + (11 * (2 * (at120 - (at2 + 1)) - 0))) + 6 ≤ (11 * (2 * (sz - at9) + 20)); omega))
      obtain ⟨w, _⟩ := u168
      obtain ⟨hw169, h173, h174, hO⟩ := hw169
      have h173 : at120 + 1 ≤ sz := h173
      have h174 : tkN ((B 7)) sz 67 (nI at120) = 35 := h174
      obtain rfl : v170 = some (.int (nI at120)) := hw169
      have hO : OKP G h0 a (upd (upd (upd (upd F 2 (nI sz)) 9 (nI (at120 + 1))) 10 (nI dp)) 11 (nI sg121)) R Z (updA B 10 f122) J K151 w := hO.to rfl
      refine W.widen (k := ((2 * (at2 - at9) - 4) + (2 * (at120 - (at2 + 1)) - 0))) (n := ((11 * (2 * (at2 - at9) - 4)) + (11 * (2 * (at120 - (at2 + 1)) - 0)))) (by show ((2 * (at2 - at9) - 4) + (2 * (at120 - (at2 + 1)) - 0)) + 0 ≤ ((2 * (at2 - at9) - 4) + (2 * (at120 - (at2 + 1)) - 0)); omega) (by show ((11 * (2 * (at2 - at9) - 4)) + (11 * (2 * (at120 - (at2 + 1)) - 0))) + 0 ≤ ((11 * (2 * (at2 - at9) - 4)) + (11 * (2 * (at120 - (at2 + 1)) - 0))); omega) ?_
      refine W.eq (g2 := F0 m 123 ls [.int (nI at120)]) rfl ?_
      refine lv_pop hx hb dX8_forStatement_123 rfl ?_
      refine lv_aload_n hx hb dX8_forStatement_124 rfl (lv_at hl 0 rfl) ?_
      refine lv_aload_n hx hb dX8_forStatement_125 rfl (lv_at hl 1 rfl) ?_
      refine lv_iconst (v := 0) hx hb dX8_forStatement_126 (by decide) ?_
      have hO : OKP G h0 a (upd (upd (upd (upd (upd (upd (upd (upd (upd (upd F 2 (nI sz)) 9 (nI at9)) 10 (nI dp)) 11 (nI sg)) 9 (nI (at120 + 1))) 11 (nI sg121)) 2 (nI sz)) 9 (nI (at120 + 1))) 10 (nI dp)) 11 (nI sg121)) R Z (updA B 10 f122) J K151 w := hO.to rfl
      obtain ⟨_, qr178, hqr179⟩ := hO.2.1 23 _ (sg_23 G h0 a _ _ _ _ _)
      refine pn_V0 (G := G) (As := [.int (nI 0)]) (rest := [.ref q2]) hx hb hml hown hq hE hX pX0_al hP hD hS hA hl.1 (ist h0 a (upd (upd (upd (upd (upd (upd F 2 (nI sz)) 9 (nI at9)) 10 (nI dp)) 11 (nI sg)) 9 (nI (at120 + 1))) 11 (nI sg121)) R Z (updA B 10 f122) J K151 w 0 (at120 + 1) sz dp sg121 0 g119 (by omega) (by omega) hdp (by omega) hns163.1 (fun o9 h9 => absurd h9 (by omega)) (by omega) hO hl0) (gV pw_1003 pw_1004 pw_1005 pw_796 pw_1025) hV_X8_statement qr178 5 hqr179 rfl rfl rfl (Nat.le_of_ble_eq_true rfl) dX8_forStatement_127 ⟨(by show ((2 * (at2 - at9) - 4) + (2 * (at120 - (at2 + 1)) - 0)) + (2 * (sz - (at120 + 1)) + 20) ≤ (2 * (sz - at9) + 20); omega), (by show ((11 * (2 * (at2 - at9) - 4)) + (11 * (2 * (at120 - (at2 + 1)) - 0))) + (11 * (2 * (sz - (at120 + 1)) + 20)) ≤ (11 * (2 * (sz - at9) + 20)); omega)⟩ ⟨(by show (50 * n + 50) + 1 ≤ (50 * n + 58); omega), (by show 8 + (5 + 11) + (1500 * n + 1500) ≤ (1500 * n + 1650); omega)⟩ (fun v177 u175 H locs hw176 hP hD hS => ?_) (fun ux ce9 q9 H9 locs9 hux hP9 hD9 hS9 hce hcv hcl => pb_out ux (ThQ.up (Thx.same (Thx.same (Thx.same (Thx.same (Thx.b (Thx.f (Thx.f Thx.rfl (by omega)) (by omega)) (by omega) (by decide)) rfl) rfl) rfl) rfl) RhX.rfl hux) hnt hlocks hce hcv hcl hP9 hD9 hS9 (by show ((2 * (at2 - at9) - 4) + (2 * (at120 - (at2 + 1)) - 0)) + (2 * (sz - (at120 + 1)) + 20) ≤ (2 * (sz - at9) + 20); omega) (by show ((11 * (2 * (at2 - at9) - 4)) + (11 * (2 * (at120 - (at2 + 1)) - 0))) + (11 * (2 * (sz - (at120 + 1)) + 20)) ≤ (11 * (2 * (sz - at9) + 20)); omega))
      obtain ⟨w, r180, K181, g182, at183, sg184, f185, k186⟩ := u175
      obtain ⟨hw176, h187, h188, h189, h190, h191, h192, hO⟩ := hw176
      have h187 : NwR K151 K181 g119 g182 r180 0 k186 ((170 + 3 * (20 - dp))) := h187
      have h188 : rS k186 = (at120 + 1) ∧ rE k186 ≤ at183 ∧ rS k186 ≤ rE k186 ∧ rD k186 ≤ 2 * (20 - dp) := h188
      have h189 : (at120 + 1) + 1 ≤ at183 ∧ at183 ≤ sz := h189
      have h190 : sg121 ≤ sg184 ∧ sg184 ≤ 60 := h190
      have h191 : 0 = 0 → ¬ K181.2.1 0 r180 = 22 := h191
      have h192 : NwT ((B 7)) sz (f122) f185 K151 K181 (at120 + 1) at183 := h192
      obtain rfl : v177 = some (.ref r180) := hw176
      have hf193 : K181.1 q2 = 1 := (((h187).2.1.1 q2 (by rw [hf153]; decide)).1).trans hf153
      have hf194 : K181.2.1 0 q2 = 27 := (((h187).2.1.1 q2 (by rw [hf153]; decide)).2.1 0).trans hf154
      have hf195 : K181.2.2.1 3 q2 = none := (((h187).2.1.1 q2 (by rw [hf153]; decide)).2.2.1 3).trans hf155
      have hf196 : K181.2.2.1 4 q2 = none := (((h187).2.1.1 q2 (by rw [hf153]; decide)).2.2.1 4).trans hf156
      have hf197 : K181.2.2.1 0 q2 = oa := (((h187).2.1.1 q2 (by rw [hf153]; decide)).2.2.1 0).trans hf157
      have hf198 : K181.2.2.1 1 q2 = ob := (((h187).2.1.1 q2 (by rw [hf153]; decide)).2.2.1 1).trans hf158
      have hf199 : K181.1 r117 = 1 := (((h187).2.1.1 r117 (by rw [hf159]; decide)).1).trans hf159
      have hf200 : K181.2.1 0 r117 = kd148 := (((h187).2.1.1 r117 (by rw [hf159]; decide)).2.1 0).trans hf160
      have hf201 : K181.2.2.1 2 q2 = some r117 := (((h187).2.1.1 q2 (by rw [hf153]; decide)).2.2.1 2).trans hf161
      have hO : OKP G h0 a (upd (upd (upd (upd F 2 (nI sz)) 9 (nI at183)) 10 (nI dp)) 11 (nI sg184)) R Z (updA B 10 f185) J K181 w := hO.to rfl
      refine W.widen (k := (((2 * (at2 - at9) - 4) + (2 * (at120 - (at2 + 1)) - 0)) + (2 * (at183 - (at120 + 1)) - 1))) (n := (((11 * (2 * (at2 - at9) - 4)) + (11 * (2 * (at120 - (at2 + 1)) - 0))) + (11 * (2 * (at183 - (at120 + 1)) - 1)))) (by show ((2 * (at2 - at9) - 4) + (2 * (at120 - (at2 + 1)) - 0)) + (2 * (at183 - (at120 + 1)) - 1) ≤ (((2 * (at2 - at9) - 4) + (2 * (at120 - (at2 + 1)) - 0)) + (2 * (at183 - (at120 + 1)) - 1)); omega) (by show ((11 * (2 * (at2 - at9) - 4)) + (11 * (2 * (at120 - (at2 + 1)) - 0))) + (11 * (2 * (at183 - (at120 + 1)) - 1)) ≤ (((11 * (2 * (at2 - at9) - 4)) + (11 * (2 * (at120 - (at2 + 1)) - 0))) + (11 * (2 * (at183 - (at120 + 1)) - 1))); omega) ?_
      refine W.eq (g2 := F0 m 130 ls [.ref r180, .ref q2]) rfl ?_
      have htk202 : NwT (B 7) sz (B 10) f185 K K181 at9 at183 := (NwT.call htk162 h192 (by omega))
      have hns203 : NwS K K181 g g182 := NwS.call hns163 h187 (fun o9 h9 => absurd h9 (by omega))
      have hrk204 : g182 2 r117 = k123 := (h187.2.1.2 r117 (by rw [hf159]; decide) 2).trans hrk139
      have hrk205 : g182 2 r180 = k186 := h187.2.2.1.2.2.2.2.2.1
      have hf206 : K181.1 r180 = 1 := h187.2.2.1.2.1
      have hg207 : g182 0 q2 = 0 := (h187.2.1.2 q2 (by rw [hf153]; decide) 0).trans hg141
      have hno208 : NoO K181 g182 q2 := NoO.call hno164 h187 hf153 (by omega)
      have hgz209 : g182 0 r117 = g119 0 r117 := h187.2.1.2 r117 (by rw [hf159]; decide) 0
      have hgy210 := h187.2.2.1
      have hgy210a := hgy210.2.2.1
      have hgy210b := hgy210.2.2.2.1
      have hka211 := KdO.ext hka165 h187.2.1
      have hkb212 := KdO.ext hkb166 h187.2.1
      have hki213 := KdF.ext hki167 hka165 h187.2.1
      have hkj214 := KdE.ext hkj147 hkb166 h187.2.1
      obtain ⟨kd215, hkd216⟩ : ∃ z : Int32, K181.2.1 0 r180 = z := ⟨_, rfl⟩
      have hn2217 : ¬ kd215 = 22 := by rw [← hkd216]; exact h191 rfl
      refine p_put (v := .ref r180) (ty := (.object "JinjaTongue$Node")) (C := RX7) (Tc := TX7) (N := 11) (ci := 13) (K' := (kC K181 3 q2 (some r180))) hx hb hq pin_wsX70 tyX7 tyX7_ok nmX7 hown hE hP hD hS hO (by rw [hf193]; decide) (rep_1 hf193) rfl 9 (by decide) (hq _ pw_1011) (fun _ h9 => h9) rfl (by decide +kernel) rfl rfl (Nat.le_of_ble_eq_true rfl) rfl (by rw [rep_1 (show (kC K181 3 q2 (some r180)).1 q2 = 1 from hf193), pc_3] <;> rfl) (fun p9 hp9 => rep_kC hp9) dX8_forStatement_130 (fun H locs w hP hD hS hO => ?_)
      obtain ⟨K218, hK219⟩ : ∃ z : PK, z = (kC K181 3 q2 (some r180)) := ⟨_, rfl⟩
      rw [← hK219] at hO
      have hf220 : K218.1 q2 = 1 := (by rw [hK219]; exact hf193)
      have hf221 : K218.2.1 0 q2 = 27 := (by rw [hK219]; exact hf194)
      have hf222 : K218.2.2.1 4 q2 = none := (by rw [hK219]; exact (kC_of (by decide)).trans hf196)
      have hf223 : K218.2.2.1 0 q2 = oa := (by rw [hK219]; exact (kC_of (by decide)).trans hf197)
      have hf224 : K218.2.2.1 1 q2 = ob := (by rw [hK219]; exact (kC_of (by decide)).trans hf198)
      have hf225 : K218.1 r117 = 1 := (by rw [hK219]; exact hf199)
      have hf226 : K218.2.1 0 r117 = kd148 := (by rw [hK219]; exact hf200)
      have hf227 : K218.2.2.1 2 q2 = some r117 := (by rw [hK219]; exact (kC_of (by decide)).trans hf201)
      have hf228 : K218.1 r180 = 1 := (by rw [hK219]; exact hf206)
      have hf229 : K218.2.1 0 r180 = kd215 := (by rw [hK219]; exact hkd216)
      have hf230 : K218.2.2.1 3 q2 = some r180 := by rw [hK219]; exact kC_eq
      have htk231 : NwT (B 7) sz (B 10) f185 K K218 at9 at183 := by rw [hK219]; exact NwT.put htk202
      have hns232 : NwS K K218 g g182 := by rw [hK219]; exact NwS.put hns203 hq20 hg207
      have hno233 : NoO K218 g182 q2 := by rw [hK219]; exact hno208
      have hka234 : KdO K218 g182 oa (173 + 3 * (20 - dp)) := by rw [hK219]; exact hka211
      have hkb235 : KdO K218 g182 ob (173 + 3 * (20 - dp)) := by rw [hK219]; exact hkb212
      have hki236 : KdF K218 g182 oa (at9 + 2) m2 := by rw [hK219]; exact hki213
      refine lv_aload_n hx hb dX8_forStatement_133 rfl (lv_at hl 0 rfl) ?_
      refine W_size (fun hz1 hz2 => ?_)
      refine vx_ret ?_
      have hkid : ∀ f9 y9 : Nat, f9 ≤ 3 → K218.2.2.1 f9 q2 = some y9 → K218.1 y9 = 1 ∧ 1 ≤ g182 0 y9 ∧ g182 0 y9 < (173 + 3 * (20 - dp)) := by
        intro f9 y9 hf9 hy9
        rcases (show f9 = 0 ∨ f9 = 1 ∨ f9 = 2 ∨ f9 = 3 by omega) with rfl | rfl | rfl | rfl
        · rw [hf223] at hy9; exact hka234 y9 hy9
        · rw [hf224] at hy9; exact hkb235 y9 hy9
        · rw [hf227] at hy9; cases hy9; exact ⟨hf225, by omega, by omega⟩
        · rw [hf230] at hy9; cases hy9; exact ⟨hf228, by omega, by omega⟩
      obtain ⟨k9, k9I, hkS, hkE, hkM, hkN, hkX, hkD⟩ := rk_ex (s := at9) (e := at183) (m := m2) (n := (rS k186)) (x := at2) (d := (2 * (20 - dp) + 2)) (by omega)
      have hkch9 : ∀ f9 y9 : Nat, f9 ≤ 3 → K218.2.2.1 f9 q2 = some y9 → Kch (K218.2.1 0 q2) f9 (K218.2.1 0 y9) k9 (g182 2 y9) := by
        intro f9 y9 hf9 hy9
        rw [hf221]
        rcases (show f9 = 0 ∨ f9 = 1 ∨ f9 = 2 ∨ f9 = 3 by omega) with rfl | rfl | rfl | rfl
        · rw [hf223] at hy9; have z9 := hki236 y9 hy9; have z8 := z9.1; exact ⟨(fun z => absurd z (by decide)), (fun z => absurd z (by decide)), (fun z => absurd z (by decide)), (fun z => absurd z (by decide)), (fun z => absurd z (by decide)), (fun z => absurd z (by decide)), (fun z => absurd z (by decide)), (fun z => absurd z (by decide)), (fun z => absurd z (by decide)), (fun z => absurd z (by decide)), (fun z => absurd z (by decide)), (fun z => absurd z (by decide)), (fun z => absurd z (by decide)), (fun z => absurd z (by decide)), (fun z => absurd z (by decide)), (fun z => absurd z (by decide)), (fun z => absurd z (by decide)), (fun _ _ => ⟨z9.2, (by omega)⟩), (fun _ z => absurd z (by decide)), (fun _ z => absurd z (by decide)), (fun _ z => absurd z (by decide)), (fun z => absurd z (by decide)), (fun z => absurd z (by decide)), (fun z => absurd z (by decide))⟩
        · rw [hf224] at hy9; have z9 := hkj214 y9 hy9; exact ⟨(fun z => absurd z (by decide)), (fun z => absurd z (by decide)), (fun z => absurd z (by decide)), (fun z => absurd z (by decide)), (fun z => absurd z (by decide)), (fun z => absurd z (by decide)), (fun z => absurd z (by decide)), (fun z => absurd z (by decide)), (fun z => absurd z (by decide)), (fun z => absurd z (by decide)), (fun z => absurd z (by decide)), (fun z => absurd z (by decide)), (fun z => absurd z (by decide)), (fun z => absurd z (by decide)), (fun z => absurd z (by decide)), (fun z => absurd z (by decide)), (fun z => absurd z (by decide)), (fun _ z => absurd z (by decide)), (fun _ _ => (by omega)), (fun _ z => absurd z (by decide)), (fun _ z => absurd z (by decide)), (fun z => absurd z (by decide)), (fun z => absurd z (by decide)), (fun z => absurd z (by decide))⟩
        · rw [hf227] at hy9; cases hy9; rw [hrk204]; exact ⟨(fun z => absurd z (by decide)), (fun z => absurd z (by decide)), (fun z => absurd z (by decide)), (fun z => absurd z (by decide)), (fun z => absurd z (by decide)), (fun z => absurd z (by decide)), (fun z => absurd z (by decide)), (fun z => absurd z (by decide)), (fun z => absurd z (by decide)), (fun z => absurd z (by decide)), (fun z => absurd z (by decide)), (fun z => absurd z (by decide)), (fun z => absurd z (by decide)), (fun z => absurd z (by decide)), (fun z => absurd z (by decide)), (fun z => absurd z (by decide)), (fun z => absurd z (by decide)), (fun _ z => absurd z (by decide)), (fun _ z => absurd z (by decide)), (fun _ _ => ⟨(by rw [hf226]; exact hkf150), (by omega)⟩), (fun _ z => absurd z (by decide)), (fun z => absurd z (by decide)), (fun z => absurd z (by decide)), (fun z => absurd z (by decide))⟩
        · rw [hf230] at hy9; cases hy9; rw [hrk205]; exact ⟨(fun z => absurd z (by decide)), (fun z => absurd z (by decide)), (fun z => absurd z (by decide)), (fun z => absurd z (by decide)), (fun z => absurd z (by decide)), (fun z => absurd z (by decide)), (fun z => absurd z (by decide)), (fun z => absurd z (by decide)), (fun z => absurd z (by decide)), (fun z => absurd z (by decide)), (fun z => absurd z (by decide)), (fun z => absurd z (by decide)), (fun z => absurd z (by decide)), (fun z => absurd z (by decide)), (fun z => absurd z (by decide)), (fun z => absurd z (by decide)), (fun z => absurd z (by decide)), (fun _ z => absurd z (by decide)), (fun _ z => absurd z (by decide)), (fun _ z => absurd z (by decide)), (fun _ _ => ⟨(by rw [hf229]; exact hn2217), (by omega)⟩), (fun z => absurd z (by decide)), (fun z => absurd z (by decide)), (fun z => absurd z (by decide))⟩
      have hdn := NwS.done1I (q := q2) (L := (173 + 3 * (20 - dp))) (O := O) (k := k9) hns232 hq20 hf220 hg207 (by omega) ⟨k9I, (by rw [hf221]; exact ⟨(fun z => absurd z (by decide)), (fun z => absurd z (by decide)), (fun _ => (by omega))⟩)⟩ (by rw [hf221]; exact ⟨(fun z => absurd z (by decide)), (fun z => absurd z (by decide)), (fun z => absurd z (by decide)), (fun z => absurd z (by decide)), fun _ => (by show ¬ K218.2.2.1 3 q2 = none; rw [hf230]; intro z; cases z)⟩) (fun f9 z => by rw [hf221] at z; rcases z with ⟨z, _⟩ | ⟨z | z | z, _⟩ <;> exact absurd z (by decide)) hkid hf222 hno233 hkch9 how
      have hz237 : NwR K K218 g (gset g182 q2 (173 + 3 * (20 - dp)) O k9) q2 O k9 ((173 + 3 * (20 - dp))) := hdn
      have hz238 : rS k9 = at9 ∧ rE k9 ≤ at183 ∧ rS k9 ≤ rE k9 ∧ rD k9 ≤ 2 * (20 - dp) + 2 := (by omega)
      have hz239 : at9 + 6 ≤ at183 ∧ at183 ≤ sz := (by omega)
      have hz240 : sg ≤ sg184 ∧ sg184 ≤ 60 := (by omega)
      have hz241 : ¬ K218.2.1 0 q2 = 22 := (by rw [hf221]; decide)
      have hz242 : NwT (B 7) sz (B 10) f185 K K218 at9 at183 := (NwT.le htk231 (by omega))
      have hO : OKP G h0 a (upd (upd (upd (upd F 2 (nI sz)) 9 (nI at183)) 10 (nI dp)) 11 (nI sg184)) R Z (updA B 10 f185) J K218 w := hO.to rfl
      refine W.widen (k := (2 * (sz - at9) + 20)) (n := (11 * (2 * (sz - at9) + 20))) (by omega) (by omega) ?_
      have hzz1 : H.size ≤ s.heap.size + ((2 * (at183 - at9) - 6)) := (by have z : (((2 * (at2 - at9) - 4) + (2 * (at120 - (at2 + 1)) - 0)) + (2 * (at183 - (at120 + 1)) - 1)) ≤ (2 * (at183 - at9) - 6) := (by omega); omega)
      have hzz2 : hSl H ≤ hSl s.heap + ((11 * (2 * (at183 - at9) - 6))) := (by have z : (((11 * (2 * (at2 - at9) - 4)) + (11 * (2 * (at120 - (at2 + 1)) - 0))) + (11 * (2 * (at183 - (at120 + 1)) - 1))) ≤ (11 * (2 * (at183 - at9) - 6)) := (by omega); omega)
      exact W.aret (v := .ref q2) hx hb hr (Or.inl ⟨_, rfl⟩) (Or.inr ⟨_, rfl⟩) (fun t99 ht99 hW99 => ⟨⟨_, (w, (q2, K218, (gset g182 q2 (173 + 3 * (20 - dp)) O k9), at183, sg184, f185, k9)), rfl, ⟨rfl, hz237, hz238, hz239, hz240, hz241, hz242, hO⟩, by rw [ht99]; exact hP, hD, by rw [ht99]; exact hzz1, by rw [ht99]; exact hzz2⟩, hS.F ht99⟩) hS.2.2 dX8_forStatement_134
  refine lv_aload_n hx hb dX8_forStatement_18 rfl (lv_at hl 1 rfl) ?_
  refine lv_dup hx hb dX8_forStatement_19 rfl ?_
  refine c_get (v := .int (nI at9)) (C := RX8) (Tc := TX8) (N := 5) (ci := 5) hx hb hq pin_wsX80 hown hE hP hO 23 (sg_23 G h0 a _ _ _ _ _) rfl 2 (by decide) (hq _ pw_776) (fun _ h9 => h9) rfl dX8_forStatement_20 ?_
  refine lv_iconst (v := 1) hx hb dX8_forStatement_23 (by decide) ?_
  refine lv_iadd hx hb dX8_forStatement_24 ?_
  refine lv_topi (fun x243 e244 => ?_)
  obtain rfl : x243 = nI (at9 + 1) := e244.trans (nI_add (at9) (1))
  refine c_put (v := .int (nI (at9 + 1))) (ty := .int) (C := RX8) (Tc := TX8) (N := 5) (ci := 5) hx hb hq pin_wsX80 tyX8 tyX8_ok nmX8 hown hE hP hD hS hO 23 (sg_23 G h0 a _ _ _ _ _) rfl 2 (by decide) (hq _ pw_776) (fun _ h9 => h9) rfl (by decide +kernel) rfl rfl (Nat.le_of_ble_eq_true rfl) (sf_9 G h0 a _ _ _ _ _ (nI (at9 + 1))) dX8_forStatement_25 (fun H locs w hP hD hS hO => ?_)
  refine lv_aload_n hx hb dX8_forStatement_28 rfl (lv_at hl 1 rfl) ?_
  refine lv_bipush (v := 34) hx hb dX8_forStatement_29 (by decide) ?_
  have hO : OKW G h0 a (upd (upd (upd (upd (upd (upd (upd F 2 (nI sz)) 9 (nI at9)) 10 (nI dp)) 11 (nI sg)) 9 (nI (at9 + 1))) 2 (nI sz)) 9 (nI (at9 + 1))) R Z B J K10.1 (fun q99 x99 => x99 = rep G a K10 q99) w := hO.to rfl
  obtain ⟨_, qr248, hqr249⟩ := hO.2.1 23 _ (sg_23 G h0 a _ _ _ _ _)
  refine pn_V0 (G := G) (As := [.int 34]) (rest := []) hx hb hml hown hq hE hX pX0_al hP hD hS hA hl.1 (P_take l G h0 a (upd (upd (upd (upd (upd F 2 (nI sz)) 9 (nI at9)) 10 (nI dp)) 11 (nI sg)) 9 (nI (at9 + 1))) R Z B J K10.1 (fun q99 x99 => x99 = rep G a K10 q99) w 34 (at9 + 1) sz (by omega) (by omega) (by decide) hO hl0) (gV pw_793 pw_794 pw_795 pw_796 pw_781) hV_X8_take qr248 5 hqr249 rfl rfl rfl (Nat.le_of_ble_eq_true rfl) dX8_forStatement_31 ⟨(by show 1 + 1 ≤ (2 * (sz - at9) + 20); omega), (by show 11 + 6 ≤ (11 * (2 * (sz - at9) + 20)); omega)⟩ ⟨(by show 7 + 1 ≤ (50 * n + 58); omega), (by show 8 + (2 + 11) + 122 ≤ (1500 * n + 1650); omega)⟩ (fun v247 u245 H locs hw246 hP hD hS => ?_) (fun ux ce9 q9 H9 locs9 hux hP9 hD9 hS9 hce hcv hcl => pb_out ux (ThQ.up (Thx.same (Thx.same (Thx.f Thx.rfl (by omega)) rfl) rfl) RhX.rfl hux) hnt hlocks hce hcv hcl hP9 hD9 hS9 (by show 1 + 1 ≤ (2 * (sz - at9) + 20); omega) (by show 11 + 6 ≤ (11 * (2 * (sz - at9) + 20)); omega))
  obtain ⟨w, _⟩ := u245
  obtain ⟨hw246, h250, h251, hO⟩ := hw246
  have h250 : (at9 + 1) + 1 ≤ sz := h250
  have h251 : tkN ((B 7)) sz 67 (nI (at9 + 1)) = 34 := h251
  obtain rfl : v247 = some (.int (nI (at9 + 1))) := hw246
  have hO : OKP G h0 a (upd (upd (upd (upd F 2 (nI sz)) 9 (nI ((at9 + 1) + 1))) 10 (nI dp)) 11 (nI sg)) R Z B J K10 w := hO.to rfl
  refine W.widen (k := 1) (n := 11) (by show 1 + 0 ≤ 1; omega) (by show 11 + 0 ≤ 11; omega) ?_
  refine W.eq (g2 := F0 m 34 ls [.int (nI (at9 + 1))]) rfl ?_
  refine lv_pop hx hb dX8_forStatement_34 rfl ?_
  refine lv_aload_n hx hb dX8_forStatement_35 rfl (lv_at hl 1 rfl) ?_
  refine lv_bipush (v := 38) hx hb dX8_forStatement_36 (by decide) ?_
  have hO : OKW G h0 a (upd (upd (upd (upd (upd (upd F 2 (nI sz)) 9 (nI ((at9 + 1) + 1))) 10 (nI dp)) 11 (nI sg)) 2 (nI sz)) 9 (nI ((at9 + 1) + 1))) R Z B J K10.1 (fun q99 x99 => x99 = rep G a K10 q99) w := hO.to rfl
  obtain ⟨_, qr255, hqr256⟩ := hO.2.1 23 _ (sg_23 G h0 a _ _ _ _ _)
  refine pc_V0 (G := G) (As := [.int 38]) (rest := []) hx hb hml hown hq hE hX pX0_al hP hD hS hA hl.1 (P_sees l G h0 a (upd (upd (upd (upd F 2 (nI sz)) 9 (nI ((at9 + 1) + 1))) 10 (nI dp)) 11 (nI sg)) R Z B J K10.1 (fun q99 x99 => x99 = rep G a K10 q99) w 38 ((at9 + 1) + 1) sz (by omega) (by omega) hO) (gV pw_803 pw_804 pw_805 pw_796 pw_775) hV_X8_sees qr255 5 hqr256 rfl rfl rfl (Nat.le_of_ble_eq_true rfl) dX8_forStatement_38 ⟨(by show 1 + 0 ≤ (2 * (sz - at9) + 20); omega), (by show 11 + 0 ≤ (11 * (2 * (sz - at9) + 20)); omega)⟩ ⟨(by show 3 + 1 ≤ (50 * n + 58); omega), (by show 8 + (2 + 11) + 81 ≤ (1500 * n + 1650); omega)⟩ (fun v254 u252 H locs hw253 hP hD hS => ?_)
  obtain ⟨w, r257⟩ := u252
  obtain ⟨hw253, h258, h259, hO⟩ := hw253
  have h258 : r257 ≤ 1 := h258
  have h259 : SeQ ((B 7)) sz ((at9 + 1) + 1) 38 r257 := h259
  obtain rfl : v254 = some (.int (nI r257)) := hw253
  have hO : OKP G h0 a (upd (upd (upd (upd F 2 (nI sz)) 9 (nI ((at9 + 1) + 1))) 10 (nI dp)) 11 (nI sg)) R Z B J K10 w := hO.to rfl
  refine W.widen (k := 1) (n := 11) (by show 1 + 0 ≤ 1; omega) (by show 11 + 0 ≤ 11; omega) ?_
  refine W.eq (g2 := F0 m 41 ls [.int (nI r257)]) rfl ?_
  refine lv_if_ne (tgt := 68) hx hb dX8_forStatement_41 (by decide) (fun c260 => ?_) (fun c260 => ?_)
  · have n261 : ¬ (r257 = 0) := fun h9 => c260 ((nI_eq (a := r257) (b := 0) (by omega) (by omega)).mpr h9)
    refine lv_aload_n hx hb dX8_forStatement_68 rfl (lv_at hl 1 rfl) ?_
    refine lv_bipush (v := 38) hx hb dX8_forStatement_69 (by decide) ?_
    have hO : OKW G h0 a (upd (upd (upd (upd (upd (upd (upd F 2 (nI sz)) 9 (nI at9)) 10 (nI dp)) 11 (nI sg)) 9 (nI ((at9 + 1) + 1))) 2 (nI sz)) 9 (nI ((at9 + 1) + 1))) R Z B J K10.1 (fun q99 x99 => x99 = rep G a K10 q99) w := hO.to rfl
    obtain ⟨_, qr265, hqr266⟩ := hO.2.1 23 _ (sg_23 G h0 a _ _ _ _ _)
    refine pn_V0 (G := G) (As := [.int 38]) (rest := []) hx hb hml hown hq hE hX pX0_al hP hD hS hA hl.1 (P_take l G h0 a (upd (upd (upd (upd (upd F 2 (nI sz)) 9 (nI at9)) 10 (nI dp)) 11 (nI sg)) 9 (nI ((at9 + 1) + 1))) R Z B J K10.1 (fun q99 x99 => x99 = rep G a K10 q99) w 38 ((at9 + 1) + 1) sz (by omega) (by omega) (by decide) hO hl0) (gV pw_793 pw_794 pw_795 pw_796 pw_781) hV_X8_take qr265 5 hqr266 rfl rfl rfl (Nat.le_of_ble_eq_true rfl) dX8_forStatement_71 ⟨(by show 1 + 1 ≤ (2 * (sz - at9) + 20); omega), (by show 11 + 6 ≤ (11 * (2 * (sz - at9) + 20)); omega)⟩ ⟨(by show 7 + 1 ≤ (50 * n + 58); omega), (by show 8 + (2 + 11) + 122 ≤ (1500 * n + 1650); omega)⟩ (fun v264 u262 H locs hw263 hP hD hS => ?_) (fun ux ce9 q9 H9 locs9 hux hP9 hD9 hS9 hce hcv hcl => pb_out ux (ThQ.up (Thx.same (Thx.same (Thx.f Thx.rfl (by omega)) rfl) rfl) RhX.rfl hux) hnt hlocks hce hcv hcl hP9 hD9 hS9 (by show 1 + 1 ≤ (2 * (sz - at9) + 20); omega) (by show 11 + 6 ≤ (11 * (2 * (sz - at9) + 20)); omega))
    obtain ⟨w, _⟩ := u262
    obtain ⟨hw263, h267, h268, hO⟩ := hw263
    have h267 : ((at9 + 1) + 1) + 1 ≤ sz := h267
    have h268 : tkN ((B 7)) sz 67 (nI ((at9 + 1) + 1)) = 38 := h268
    obtain rfl : v264 = some (.int (nI ((at9 + 1) + 1))) := hw263
    have hO : OKP G h0 a (upd (upd (upd (upd F 2 (nI sz)) 9 (nI (((at9 + 1) + 1) + 1))) 10 (nI dp)) 11 (nI sg)) R Z B J K10 w := hO.to rfl
    refine W.widen (k := 1) (n := 11) (by show 1 + 0 ≤ 1; omega) (by show 11 + 0 ≤ 11; omega) ?_
    refine W.eq (g2 := F0 m 74 ls [.int (nI ((at9 + 1) + 1))]) rfl ?_
    refine lv_pop hx hb dX8_forStatement_74 rfl ?_
    refine lv_aload_n hx hb dX8_forStatement_75 rfl (lv_at hl 1 rfl) ?_
    refine lv_bipush (v := 38) hx hb dX8_forStatement_76 (by decide) ?_
    have hO : OKW G h0 a (upd (upd (upd (upd (upd (upd F 2 (nI sz)) 9 (nI (((at9 + 1) + 1) + 1))) 10 (nI dp)) 11 (nI sg)) 2 (nI sz)) 9 (nI (((at9 + 1) + 1) + 1))) R Z B J K10.1 (fun q99 x99 => x99 = rep G a K10 q99) w := hO.to rfl
    obtain ⟨_, qr272, hqr273⟩ := hO.2.1 23 _ (sg_23 G h0 a _ _ _ _ _)
    refine pc_V0 (G := G) (As := [.int 38]) (rest := []) hx hb hml hown hq hE hX pX0_al hP hD hS hA hl.1 (P_sees l G h0 a (upd (upd (upd (upd F 2 (nI sz)) 9 (nI (((at9 + 1) + 1) + 1))) 10 (nI dp)) 11 (nI sg)) R Z B J K10.1 (fun q99 x99 => x99 = rep G a K10 q99) w 38 (((at9 + 1) + 1) + 1) sz (by omega) (by omega) hO) (gV pw_803 pw_804 pw_805 pw_796 pw_775) hV_X8_sees qr272 5 hqr273 rfl rfl rfl (Nat.le_of_ble_eq_true rfl) dX8_forStatement_78 ⟨(by show 1 + 0 ≤ (2 * (sz - at9) + 20); omega), (by show 11 + 0 ≤ (11 * (2 * (sz - at9) + 20)); omega)⟩ ⟨(by show 3 + 1 ≤ (50 * n + 58); omega), (by show 8 + (2 + 11) + 81 ≤ (1500 * n + 1650); omega)⟩ (fun v271 u269 H locs hw270 hP hD hS => ?_)
    obtain ⟨w, r274⟩ := u269
    obtain ⟨hw270, h275, h276, hO⟩ := hw270
    have h275 : r274 ≤ 1 := h275
    have h276 : SeQ ((B 7)) sz (((at9 + 1) + 1) + 1) 38 r274 := h276
    obtain rfl : v271 = some (.int (nI r274)) := hw270
    have hO : OKP G h0 a (upd (upd (upd (upd F 2 (nI sz)) 9 (nI (((at9 + 1) + 1) + 1))) 10 (nI dp)) 11 (nI sg)) R Z B J K10 w := hO.to rfl
    refine W.widen (k := 1) (n := 11) (by show 1 + 0 ≤ 1; omega) (by show 11 + 0 ≤ 11; omega) ?_
    refine W.eq (g2 := F0 m 81 ls [.int (nI r274)]) rfl ?_
    refine lv_if_ne (tgt := 92) hx hb dX8_forStatement_81 (by decide) (fun c277 => ?_) (fun c277 => ?_)
    · have n278 : ¬ (r274 = 0) := fun h9 => c277 ((nI_eq (a := r274) (b := 0) (by omega) (by omega)).mpr h9)
      refine W.widen (k := (2 * ((((at9 + 1) + 1) + 1) - at9) - 4)) (n := (11 * (2 * ((((at9 + 1) + 1) + 1) - at9) - 4))) (by show 1 ≤ _; omega) (by show 11 ≤ _; omega) ?_
      have hO : OKP G h0 a (upd (upd (upd (upd F 2 (nI sz)) 9 (nI (((at9 + 1) + 1) + 1))) 10 (nI dp)) 11 (nI sg)) R Z (updA B 10 (B 10)) J K10 w := hO.to rfl
      exact cut_j (((at9 + 1) + 1) + 1) sg (B 10) K10 (gset g q1 0 0 0) q1 none none (((at9 + 1) + 1) + 1) _ _ _ _ (by omega) (by omega) (by omega) hns21 hq22 hf13 hg23 hno24 hf14 hf16 hf17 hf18 hf19 hf20 KdO.no KdO.no KdF.no KdE.no (NwT.le htk12 (by omega)) hP hD hS hO (lv_sub hl [0, 1] rfl)
    · have n279 : r274 = 0 := (nI_eq (a := r274) (b := 0) (by omega) (by omega)).mp c277
      refine lv_aload_n hx hb dX8_forStatement_84 rfl (lv_at hl 0 rfl) ?_
      refine lv_aload_n hx hb dX8_forStatement_85 rfl (lv_at hl 1 rfl) ?_
      have hO : OKP G h0 a (upd (upd (upd (upd (upd (upd (upd (upd (upd F 2 (nI sz)) 9 (nI at9)) 10 (nI dp)) 11 (nI sg)) 9 (nI (((at9 + 1) + 1) + 1))) 2 (nI sz)) 9 (nI (((at9 + 1) + 1) + 1))) 10 (nI dp)) 11 (nI sg)) R Z B J K10 w := hO.to rfl
      obtain ⟨_, qr283, hqr284⟩ := hO.2.1 23 _ (sg_23 G h0 a _ _ _ _ _)
      refine pn_V0 (G := G) (As := []) (rest := [.ref q1]) hx hb hml hown hq hE hX pX0_al hP hD hS hA hl.1 (((PE_all l G n).1) h0 a (upd (upd (upd (upd (upd F 2 (nI sz)) 9 (nI at9)) 10 (nI dp)) 11 (nI sg)) 9 (nI (((at9 + 1) + 1) + 1))) R Z B J K10 w (((at9 + 1) + 1) + 1) sz dp sg 0 (gset g q1 0 0 0) (by omega) (by omega) hdp (by omega) hns21.1 (fun o9 h9 => absurd h9 (by omega)) hO hl0) (gV pw_916 pw_917 pw_918 pw_796 pw_942) hV_X8_expression qr283 5 hqr284 rfl rfl rfl (Nat.le_of_ble_eq_true rfl) dX8_forStatement_86 ⟨(by show 1 + (2 * (sz - (((at9 + 1) + 1) + 1)) + 20) ≤ (2 * (sz - at9) + 20); omega), (by show 11 + (11 * (2 * (sz - (((at9 + 1) + 1) + 1)) + 20)) ≤ (11 * (2 * (sz - at9) + 20)); omega)⟩ ⟨(by show (40 * n + 40) + 1 ≤ (50 * n + 58); omega), (by show 8 + (3 + 11) + (1300 * n + 1300) ≤ (1500 * n + 1650); omega)⟩ (fun v282 u280 H locs hw281 hP hD hS => ?_) (fun ux ce9 q9 H9 locs9 hux hP9 hD9 hS9 hce hcv hcl => pb_out ux (ThQ.up (Thx.same (Thx.same (Thx.same (Thx.same (Thx.f Thx.rfl (by omega)) rfl) rfl) rfl) rfl) RhX.rfl hux) hnt hlocks hce hcv hcl hP9 hD9 hS9 (by show 1 + (2 * (sz - (((at9 + 1) + 1) + 1)) + 20) ≤ (2 * (sz - at9) + 20); omega) (by show 11 + (11 * (2 * (sz - (((at9 + 1) + 1) + 1)) + 20)) ≤ (11 * (2 * (sz - at9) + 20)); omega))
      obtain ⟨w, r285, K286, g287, at288, sg289, f290, k291⟩ := u280
      obtain ⟨hw281, h292, h293, h294, h295, h296, h297, hO⟩ := hw281
      have h292 : NwR K10 K286 (gset g q1 0 0 0) g287 r285 0 k291 (5 * (20 - dp) + 6 + (sg289 - sg)) := h292
      have h293 : (((at9 + 1) + 1) + 1) ≤ rS k291 ∧ rS k291 + 1 ≤ rE k291 ∧ rE k291 ≤ at288 ∧ 1 ≤ rD k291 ∧ rD k291 ≤ 9 * (20 - dp) + (sg289 - sg) + 1 := h293
      have h294 : (((at9 + 1) + 1) + 1) + 1 ≤ at288 ∧ at288 ≤ sz := h294
      have h295 : sg ≤ sg289 ∧ sg289 ≤ 60 := h295
      have h296 : ¬ tkN ((B 7)) sz 67 (nI (((at9 + 1) + 1) + 1)) = 37 := h296
      have h297 : NwT ((B 7)) sz ((B 10)) f290 K10 K286 (((at9 + 1) + 1) + 1) at288 := h297
      obtain rfl : v282 = some (.ref r285) := hw281
      have hf298 : K286.1 q1 = 1 := (((h292).2.1.1 q1 (by rw [hf13]; decide)).1).trans hf13
      have hf299 : K286.2.1 0 q1 = 27 := (((h292).2.1.1 q1 (by rw [hf13]; decide)).2.1 0).trans hf14
      have hf300 : K286.2.1 2 q1 = (nI at9) := (((h292).2.1.1 q1 (by rw [hf13]; decide)).2.1 2).trans hf15
      have hf301 : K286.2.2.1 0 q1 = none := (((h292).2.1.1 q1 (by rw [hf13]; decide)).2.2.1 0).trans hf16
      have hf302 : K286.2.2.1 1 q1 = none := (((h292).2.1.1 q1 (by rw [hf13]; decide)).2.2.1 1).trans hf17
      have hf303 : K286.2.2.1 2 q1 = none := (((h292).2.1.1 q1 (by rw [hf13]; decide)).2.2.1 2).trans hf18
      have hf304 : K286.2.2.1 3 q1 = none := (((h292).2.1.1 q1 (by rw [hf13]; decide)).2.2.1 3).trans hf19
      have hf305 : K286.2.2.1 4 q1 = none := (((h292).2.1.1 q1 (by rw [hf13]; decide)).2.2.1 4).trans hf20
      have hO : OKP G h0 a (upd (upd (upd (upd F 2 (nI sz)) 9 (nI at288)) 10 (nI dp)) 11 (nI sg289)) R Z (updA B 10 f290) J K286 w := hO.to rfl
      refine W.widen (k := (1 + (2 * (at288 - (((at9 + 1) + 1) + 1)) - 1))) (n := (11 + (11 * (2 * (at288 - (((at9 + 1) + 1) + 1)) - 1)))) (by show 1 + (2 * (at288 - (((at9 + 1) + 1) + 1)) - 1) ≤ (1 + (2 * (at288 - (((at9 + 1) + 1) + 1)) - 1)); omega) (by show 11 + (11 * (2 * (at288 - (((at9 + 1) + 1) + 1)) - 1)) ≤ (11 + (11 * (2 * (at288 - (((at9 + 1) + 1) + 1)) - 1))); omega) ?_
      refine W.eq (g2 := F0 m 89 ls [.ref r285, .ref q1]) rfl ?_
      have htk306 : NwT (B 7) sz (B 10) f290 K K286 at9 at288 := (NwT.call htk12 h297 (by omega))
      have hns307 : NwS K K286 g g287 := NwS.call hns21 h292 (fun o9 h9 => absurd h9 (by omega))
      have hrk308 : g287 2 r285 = k291 := h292.2.2.1.2.2.2.2.2.1
      have hf309 : K286.1 r285 = 1 := h292.2.2.1.2.1
      have hg310 : g287 0 q1 = 0 := (h292.2.1.2 q1 (by rw [hf13]; decide) 0).trans hg23
      have hno311 : NoO K286 g287 q1 := NoO.call hno24 h292 hf13 (by omega)
      have hgy312 := h292.2.2.1
      have hgy312a := hgy312.2.2.1
      have hgy312b := hgy312.2.2.2.1
      refine p_put (v := .ref r285) (ty := (.object "JinjaTongue$Node")) (C := RX7) (Tc := TX7) (N := 11) (ci := 13) (K' := (kC K286 1 q1 (some r285))) hx hb hq pin_wsX70 tyX7 tyX7_ok nmX7 hown hE hP hD hS hO (by rw [hf298]; decide) (rep_1 hf298) rfl 7 (by decide) (hq _ pw_910) (fun _ h9 => h9) rfl (by decide +kernel) rfl rfl (Nat.le_of_ble_eq_true rfl) rfl (by rw [rep_1 (show (kC K286 1 q1 (some r285)).1 q1 = 1 from hf298), pc_1] <;> rfl) (fun p9 hp9 => rep_kC hp9) dX8_forStatement_89 (fun H locs w hP hD hS hO => ?_)
      obtain ⟨K313, hK314⟩ : ∃ z : PK, z = (kC K286 1 q1 (some r285)) := ⟨_, rfl⟩
      rw [← hK314] at hO
      have hf315 : K313.1 q1 = 1 := (by rw [hK314]; exact hf298)
      have hf316 : K313.2.1 0 q1 = 27 := (by rw [hK314]; exact hf299)
      have hf317 : K313.2.1 2 q1 = (nI at9) := (by rw [hK314]; exact hf300)
      have hf318 : K313.2.2.1 0 q1 = none := (by rw [hK314]; exact (kC_of (by decide)).trans hf301)
      have hf319 : K313.2.2.1 2 q1 = none := (by rw [hK314]; exact (kC_of (by decide)).trans hf303)
      have hf320 : K313.2.2.1 3 q1 = none := (by rw [hK314]; exact (kC_of (by decide)).trans hf304)
      have hf321 : K313.2.2.1 4 q1 = none := (by rw [hK314]; exact (kC_of (by decide)).trans hf305)
      have hf322 : K313.1 r285 = 1 := (by rw [hK314]; exact hf309)
      have hf323 : K313.2.2.1 1 q1 = some r285 := by rw [hK314]; exact kC_eq
      have htk324 : NwT (B 7) sz (B 10) f290 K K313 at9 at288 := by rw [hK314]; exact NwT.put htk306
      have hns325 : NwS K K313 g g287 := by rw [hK314]; exact NwS.put hns307 hq22 hg310
      have hno326 : NoO K313 g287 q1 := by rw [hK314]; exact hno311
      refine W.widen (k := (2 * (at288 - at9) - 4)) (n := (11 * (2 * (at288 - at9) - 4))) (by show (1 + (2 * (at288 - (((at9 + 1) + 1) + 1)) - 1)) ≤ _; omega) (by show (11 + (11 * (2 * (at288 - (((at9 + 1) + 1) + 1)) - 1))) ≤ _; omega) ?_
      have hO : OKP G h0 a (upd (upd (upd (upd F 2 (nI sz)) 9 (nI at288)) 10 (nI dp)) 11 (nI sg289)) R Z (updA B 10 f290) J K313 w := hO.to rfl
      exact cut_j at288 sg289 f290 K313 g287 q1 none (some r285) (((at9 + 1) + 1) + 1) _ _ _ _ (by omega) (by omega) (by omega) hns325 hq22 hf315 hg310 hno326 hf316 hf318 hf323 hf319 hf320 hf321 KdO.no (KdO.one hf322 (by omega) (by omega)) KdF.no (KdE.one hrk308 (by omega)) (NwT.le htk324 (by omega)) hP hD hS hO (lv_sub hl [0, 1] rfl)
  · have n327 : r257 = 0 := (nI_eq (a := r257) (b := 0) (by omega) (by omega)).mp c260
    refine lv_aload_n hx hb dX8_forStatement_44 rfl (lv_at hl 0 rfl) ?_
    refine lv_aload_n hx hb dX8_forStatement_45 rfl (lv_at hl 1 rfl) ?_
    have hO : OKW G h0 a (upd (upd (upd (upd (upd (upd F 2 (nI sz)) 9 (nI ((at9 + 1) + 1))) 10 (nI dp)) 11 (nI sg)) 2 (nI sz)) 9 (nI ((at9 + 1) + 1))) R Z B J K10.1 (fun q99 x99 => x99 = rep G a K10 q99) w := hO.to rfl
    obtain ⟨_, qr331, hqr332⟩ := hO.2.1 23 _ (sg_23 G h0 a _ _ _ _ _)
    refine pc_V0 (G := G) (As := []) (rest := [.ref q1]) hx hb hml hown hq hE hX pX0_al hP hD hS hA hl.1 (P_beginsLocal l G h0 a (upd (upd (upd (upd F 2 (nI sz)) 9 (nI ((at9 + 1) + 1))) 10 (nI dp)) 11 (nI sg)) R Z B J K10.1 (fun q99 x99 => x99 = rep G a K10 q99) w ((at9 + 1) + 1) sz (by omega) (by omega) hO) (gV pw_1012 pw_1013 pw_1014 pw_796 pw_899) hV_X8_beginsLocal qr331 5 hqr332 rfl rfl rfl (Nat.le_of_ble_eq_true rfl) dX8_forStatement_46 ⟨(by show 1 + 0 ≤ (2 * (sz - at9) + 20); omega), (by show 11 + 0 ≤ (11 * (2 * (sz - at9) + 20)); omega)⟩ ⟨(by show 4 + 1 ≤ (50 * n + 58); omega), (by show 8 + (2 + 11) + 102 ≤ (1500 * n + 1650); omega)⟩ (fun v330 u328 H locs hw329 hP hD hS => ?_)
    obtain ⟨w, r333⟩ := u328
    obtain ⟨hw329, h334, hO⟩ := hw329
    have h334 : r333 ≤ 1 := h334
    obtain rfl : v330 = some (.int (nI r333)) := hw329
    have hO : OKP G h0 a (upd (upd (upd (upd F 2 (nI sz)) 9 (nI ((at9 + 1) + 1))) 10 (nI dp)) 11 (nI sg)) R Z B J K10 w := hO.to rfl
    refine W.widen (k := 1) (n := 11) (by show 1 + 0 ≤ 1; omega) (by show 11 + 0 ≤ 11; omega) ?_
    refine W.eq (g2 := F0 m 49 ls [.int (nI r333), .ref q1]) rfl ?_
    refine lv_if_eq (tgt := 60) hx hb dX8_forStatement_49 (by decide) (fun c335 => ?_) (fun c335 => ?_)
    · have n336 : r333 = 0 := (nI_eq (a := r333) (b := 0) (by omega) (by omega)).mp c335
      refine lv_aload_n hx hb dX8_forStatement_60 rfl (lv_at hl 1 rfl) ?_
      refine lv_iconst (v := 0) hx hb dX8_forStatement_61 (by decide) ?_
      have hO : OKP G h0 a (upd (upd (upd (upd (upd (upd (upd (upd (upd F 2 (nI sz)) 9 (nI at9)) 10 (nI dp)) 11 (nI sg)) 9 (nI ((at9 + 1) + 1))) 2 (nI sz)) 9 (nI ((at9 + 1) + 1))) 10 (nI dp)) 11 (nI sg)) R Z B J K10 w := hO.to rfl
      obtain ⟨_, qr340, hqr341⟩ := hO.2.1 23 _ (sg_23 G h0 a _ _ _ _ _)
      refine pn_V0 (G := G) (As := [.int (nI 0)]) (rest := [.ref q1]) hx hb hml hown hq hE hX pX0_al hP hD hS hA hl.1 (P_simple l G h0 a (upd (upd (upd (upd (upd F 2 (nI sz)) 9 (nI at9)) 10 (nI dp)) 11 (nI sg)) 9 (nI ((at9 + 1) + 1))) R Z B J K10 w 0 n ((at9 + 1) + 1) sz dp sg 0 (gset g q1 0 0 0) (by omega) (by omega) hdp (by omega) hns21.1 (fun o9 h9 => absurd h9 (by omega)) (by omega) hO hl0) (gV pw_1018 pw_1019 pw_1020 pw_796 pw_994) hV_X8_simple qr340 5 hqr341 rfl rfl rfl (Nat.le_of_ble_eq_true rfl) dX8_forStatement_62 ⟨(by show 1 + (2 * (sz - ((at9 + 1) + 1)) + 20) ≤ (2 * (sz - at9) + 20); omega), (by show 11 + (11 * (2 * (sz - ((at9 + 1) + 1)) + 20)) ≤ (11 * (2 * (sz - at9) + 20)); omega)⟩ ⟨(by show (40 * n + 44) + 1 ≤ (50 * n + 58); omega), (by show 8 + (5 + 11) + (1300 * n + 1400) ≤ (1500 * n + 1650); omega)⟩ (fun v339 u337 H locs hw338 hP hD hS => ?_) (fun ux ce9 q9 H9 locs9 hux hP9 hD9 hS9 hce hcv hcl => pb_out ux (ThQ.up (Thx.same (Thx.same (Thx.same (Thx.same (Thx.f Thx.rfl (by omega)) rfl) rfl) rfl) rfl) RhX.rfl hux) hnt hlocks hce hcv hcl hP9 hD9 hS9 (by show 1 + (2 * (sz - ((at9 + 1) + 1)) + 20) ≤ (2 * (sz - at9) + 20); omega) (by show 11 + (11 * (2 * (sz - ((at9 + 1) + 1)) + 20)) ≤ (11 * (2 * (sz - at9) + 20)); omega))
      obtain ⟨w, r342, K343, g344, at345, sg346, f347, k348⟩ := u337
      obtain ⟨hw338, h349, h350, h351, h352, h353, h354, hO⟩ := hw338
      have h349 : NwR K10 K343 (gset g q1 0 0 0) g344 r342 0 k348 (168) := h349
      have h350 : rS k348 = ((at9 + 1) + 1) ∧ rE k348 ≤ at345 ∧ rS k348 ≤ rE k348 ∧ rD k348 ≤ 2 * (20 - dp) + 2 := h350
      have h351 : ((at9 + 1) + 1) + 1 ≤ at345 ∧ at345 ≤ sz := h351
      have h352 : sg ≤ sg346 ∧ sg346 ≤ 60 := h352
      have h353 : (K343.2.1 0 r342 = 23 ∨ K343.2.1 0 r342 = 24) ∧ (0 = 0 → K343.2.1 0 r342 = 23) := h353
      have h354 : NwT ((B 7)) sz ((B 10)) f347 K10 K343 ((at9 + 1) + 1) at345 := h354
      obtain rfl : v339 = some (.ref r342) := hw338
      have hf355 : K343.1 q1 = 1 := (((h349).2.1.1 q1 (by rw [hf13]; decide)).1).trans hf13
      have hf356 : K343.2.1 0 q1 = 27 := (((h349).2.1.1 q1 (by rw [hf13]; decide)).2.1 0).trans hf14
      have hf357 : K343.2.1 2 q1 = (nI at9) := (((h349).2.1.1 q1 (by rw [hf13]; decide)).2.1 2).trans hf15
      have hf358 : K343.2.2.1 0 q1 = none := (((h349).2.1.1 q1 (by rw [hf13]; decide)).2.2.1 0).trans hf16
      have hf359 : K343.2.2.1 1 q1 = none := (((h349).2.1.1 q1 (by rw [hf13]; decide)).2.2.1 1).trans hf17
      have hf360 : K343.2.2.1 2 q1 = none := (((h349).2.1.1 q1 (by rw [hf13]; decide)).2.2.1 2).trans hf18
      have hf361 : K343.2.2.1 3 q1 = none := (((h349).2.1.1 q1 (by rw [hf13]; decide)).2.2.1 3).trans hf19
      have hf362 : K343.2.2.1 4 q1 = none := (((h349).2.1.1 q1 (by rw [hf13]; decide)).2.2.1 4).trans hf20
      have hO : OKP G h0 a (upd (upd (upd (upd F 2 (nI sz)) 9 (nI at345)) 10 (nI dp)) 11 (nI sg346)) R Z (updA B 10 f347) J K343 w := hO.to rfl
      refine W.widen (k := (1 + (2 * (at345 - ((at9 + 1) + 1)) - 0))) (n := (11 + (11 * (2 * (at345 - ((at9 + 1) + 1)) - 0)))) (by show 1 + (2 * (at345 - ((at9 + 1) + 1)) - 0) ≤ (1 + (2 * (at345 - ((at9 + 1) + 1)) - 0)); omega) (by show 11 + (11 * (2 * (at345 - ((at9 + 1) + 1)) - 0)) ≤ (11 + (11 * (2 * (at345 - ((at9 + 1) + 1)) - 0))); omega) ?_
      refine W.eq (g2 := F0 m 65 ls [.ref r342, .ref q1]) rfl ?_
      have htk363 : NwT (B 7) sz (B 10) f347 K K343 at9 at345 := (NwT.call htk12 h354 (by omega))
      have hns364 : NwS K K343 g g344 := NwS.call hns21 h349 (fun o9 h9 => absurd h9 (by omega))
      have hrk365 : g344 2 r342 = k348 := h349.2.2.1.2.2.2.2.2.1
      have hf366 : K343.1 r342 = 1 := h349.2.2.1.2.1
      have hg367 : g344 0 q1 = 0 := (h349.2.1.2 q1 (by rw [hf13]; decide) 0).trans hg23
      have hno368 : NoO K343 g344 q1 := NoO.call hno24 h349 hf13 (by omega)
      have hgy369 := h349.2.2.1
      have hgy369a := hgy369.2.2.1
      have hgy369b := hgy369.2.2.2.1
      obtain ⟨kd370, hkd371⟩ : ∃ z : Int32, K343.2.1 0 r342 = z := ⟨_, rfl⟩
      have hkf372 : kd370 = 22 ∨ kd370 = 23 := by rw [← hkd371]; exact Or.inr (h353.2 rfl)
      refine p_put (v := .ref r342) (ty := (.object "JinjaTongue$Node")) (C := RX7) (Tc := TX7) (N := 11) (ci := 13) (K' := (kC K343 0 q1 (some r342))) hx hb hq pin_wsX70 tyX7 tyX7_ok nmX7 hown hE hP hD hS hO (by rw [hf355]; decide) (rep_1 hf355) rfl 6 (by decide) (hq _ pw_938) (fun _ h9 => h9) rfl (by decide +kernel) rfl rfl (Nat.le_of_ble_eq_true rfl) rfl (by rw [rep_1 (show (kC K343 0 q1 (some r342)).1 q1 = 1 from hf355), pc_0] <;> rfl) (fun p9 hp9 => rep_kC hp9) dX8_forStatement_65 (fun H locs w hP hD hS hO => ?_)
      obtain ⟨K373, hK374⟩ : ∃ z : PK, z = (kC K343 0 q1 (some r342)) := ⟨_, rfl⟩
      rw [← hK374] at hO
      have hf375 : K373.1 q1 = 1 := (by rw [hK374]; exact hf355)
      have hf376 : K373.2.1 0 q1 = 27 := (by rw [hK374]; exact hf356)
      have hf377 : K373.2.1 2 q1 = (nI at9) := (by rw [hK374]; exact hf357)
      have hf378 : K373.2.2.1 1 q1 = none := (by rw [hK374]; exact (kC_of (by decide)).trans hf359)
      have hf379 : K373.2.2.1 2 q1 = none := (by rw [hK374]; exact (kC_of (by decide)).trans hf360)
      have hf380 : K373.2.2.1 3 q1 = none := (by rw [hK374]; exact (kC_of (by decide)).trans hf361)
      have hf381 : K373.2.2.1 4 q1 = none := (by rw [hK374]; exact (kC_of (by decide)).trans hf362)
      have hf382 : K373.1 r342 = 1 := (by rw [hK374]; exact hf366)
      have hf383 : K373.2.1 0 r342 = kd370 := (by rw [hK374]; exact hkd371)
      have hf384 : K373.2.2.1 0 q1 = some r342 := by rw [hK374]; exact kC_eq
      have htk385 : NwT (B 7) sz (B 10) f347 K K373 at9 at345 := by rw [hK374]; exact NwT.put htk363
      have hns386 : NwS K K373 g g344 := by rw [hK374]; exact NwS.put hns364 hq22 hg367
      have hno387 : NoO K373 g344 q1 := by rw [hK374]; exact hno368
      refine lv_aload_n hx hb dX8_forStatement_68 rfl (lv_at hl 1 rfl) ?_
      refine lv_bipush (v := 38) hx hb dX8_forStatement_69 (by decide) ?_
      have hO : OKW G h0 a (upd (upd (upd (upd (upd (upd (upd (upd F 2 (nI sz)) 9 (nI at9)) 10 (nI dp)) 11 (nI sg)) 9 (nI at345)) 11 (nI sg346)) 2 (nI sz)) 9 (nI at345)) R Z (updA B 10 f347) J K373.1 (fun q99 x99 => x99 = rep G a K373 q99) w := hO.to rfl
      obtain ⟨_, qr391, hqr392⟩ := hO.2.1 23 _ (sg_23 G h0 a _ _ _ _ _)
      refine pn_V0 (G := G) (As := [.int 38]) (rest := []) hx hb hml hown hq hE hX pX0_al hP hD hS hA hl.1 (P_take l G h0 a (upd (upd (upd (upd (upd (upd F 2 (nI sz)) 9 (nI at9)) 10 (nI dp)) 11 (nI sg)) 9 (nI at345)) 11 (nI sg346)) R Z (updA B 10 f347) J K373.1 (fun q99 x99 => x99 = rep G a K373 q99) w 38 at345 sz (by omega) (by omega) (by decide) hO hl0) (gV pw_793 pw_794 pw_795 pw_796 pw_781) hV_X8_take qr391 5 hqr392 rfl rfl rfl (Nat.le_of_ble_eq_true rfl) dX8_forStatement_71 ⟨(by show (1 + (2 * (at345 - ((at9 + 1) + 1)) - 0)) + 1 ≤ (2 * (sz - at9) + 20); omega), (by show (11 + (11 * (2 * (at345 - ((at9 + 1) + 1)) - 0))) + 6 ≤ (11 * (2 * (sz - at9) + 20)); omega)⟩ ⟨(by show 7 + 1 ≤ (50 * n + 58); omega), (by show 8 + (2 + 11) + 122 ≤ (1500 * n + 1650); omega)⟩ (fun v390 u388 H locs hw389 hP hD hS => ?_) (fun ux ce9 q9 H9 locs9 hux hP9 hD9 hS9 hce hcv hcl => pb_out ux (ThQ.up (Thx.same (Thx.same (Thx.b (Thx.f (Thx.f Thx.rfl (by omega)) (by omega)) (by omega) (by decide)) rfl) rfl) RhX.rfl hux) hnt hlocks hce hcv hcl hP9 hD9 hS9 (by show (1 + (2 * (at345 - ((at9 + 1) + 1)) - 0)) + 1 ≤ (2 * (sz - at9) + 20); omega) (by show (11 + (11 * (2 * (at345 - ((at9 + 1) + 1)) - 0))) + 6 ≤ (11 * (2 * (sz - at9) + 20)); omega))
      obtain ⟨w, _⟩ := u388
      obtain ⟨hw389, h393, h394, hO⟩ := hw389
      have h393 : at345 + 1 ≤ sz := h393
      have h394 : tkN ((B 7)) sz 67 (nI at345) = 38 := h394
      obtain rfl : v390 = some (.int (nI at345)) := hw389
      have hO : OKP G h0 a (upd (upd (upd (upd F 2 (nI sz)) 9 (nI (at345 + 1))) 10 (nI dp)) 11 (nI sg346)) R Z (updA B 10 f347) J K373 w := hO.to rfl
      refine W.widen (k := (1 + (2 * (at345 - ((at9 + 1) + 1)) - 0))) (n := (11 + (11 * (2 * (at345 - ((at9 + 1) + 1)) - 0)))) (by show (1 + (2 * (at345 - ((at9 + 1) + 1)) - 0)) + 0 ≤ (1 + (2 * (at345 - ((at9 + 1) + 1)) - 0)); omega) (by show (11 + (11 * (2 * (at345 - ((at9 + 1) + 1)) - 0))) + 0 ≤ (11 + (11 * (2 * (at345 - ((at9 + 1) + 1)) - 0))); omega) ?_
      refine W.eq (g2 := F0 m 74 ls [.int (nI at345)]) rfl ?_
      refine lv_pop hx hb dX8_forStatement_74 rfl ?_
      refine lv_aload_n hx hb dX8_forStatement_75 rfl (lv_at hl 1 rfl) ?_
      refine lv_bipush (v := 38) hx hb dX8_forStatement_76 (by decide) ?_
      have hO : OKW G h0 a (upd (upd (upd (upd (upd (upd F 2 (nI sz)) 9 (nI (at345 + 1))) 10 (nI dp)) 11 (nI sg346)) 2 (nI sz)) 9 (nI (at345 + 1))) R Z (updA B 10 f347) J K373.1 (fun q99 x99 => x99 = rep G a K373 q99) w := hO.to rfl
      obtain ⟨_, qr398, hqr399⟩ := hO.2.1 23 _ (sg_23 G h0 a _ _ _ _ _)
      refine pc_V0 (G := G) (As := [.int 38]) (rest := []) hx hb hml hown hq hE hX pX0_al hP hD hS hA hl.1 (P_sees l G h0 a (upd (upd (upd (upd F 2 (nI sz)) 9 (nI (at345 + 1))) 10 (nI dp)) 11 (nI sg346)) R Z (updA B 10 f347) J K373.1 (fun q99 x99 => x99 = rep G a K373 q99) w 38 (at345 + 1) sz (by omega) (by omega) hO) (gV pw_803 pw_804 pw_805 pw_796 pw_775) hV_X8_sees qr398 5 hqr399 rfl rfl rfl (Nat.le_of_ble_eq_true rfl) dX8_forStatement_78 ⟨(by show (1 + (2 * (at345 - ((at9 + 1) + 1)) - 0)) + 0 ≤ (2 * (sz - at9) + 20); omega), (by show (11 + (11 * (2 * (at345 - ((at9 + 1) + 1)) - 0))) + 0 ≤ (11 * (2 * (sz - at9) + 20)); omega)⟩ ⟨(by show 3 + 1 ≤ (50 * n + 58); omega), (by show 8 + (2 + 11) + 81 ≤ (1500 * n + 1650); omega)⟩ (fun v397 u395 H locs hw396 hP hD hS => ?_)
      obtain ⟨w, r400⟩ := u395
      obtain ⟨hw396, h401, h402, hO⟩ := hw396
      have h401 : r400 ≤ 1 := h401
      have h402 : SeQ ((B 7)) sz (at345 + 1) 38 r400 := h402
      obtain rfl : v397 = some (.int (nI r400)) := hw396
      have hO : OKP G h0 a (upd (upd (upd (upd F 2 (nI sz)) 9 (nI (at345 + 1))) 10 (nI dp)) 11 (nI sg346)) R Z (updA B 10 f347) J K373 w := hO.to rfl
      refine W.widen (k := (1 + (2 * (at345 - ((at9 + 1) + 1)) - 0))) (n := (11 + (11 * (2 * (at345 - ((at9 + 1) + 1)) - 0)))) (by show (1 + (2 * (at345 - ((at9 + 1) + 1)) - 0)) + 0 ≤ (1 + (2 * (at345 - ((at9 + 1) + 1)) - 0)); omega) (by show (11 + (11 * (2 * (at345 - ((at9 + 1) + 1)) - 0))) + 0 ≤ (11 + (11 * (2 * (at345 - ((at9 + 1) + 1)) - 0))); omega) ?_
      refine W.eq (g2 := F0 m 81 ls [.int (nI r400)]) rfl ?_
      refine lv_if_ne (tgt := 92) hx hb dX8_forStatement_81 (by decide) (fun c403 => ?_) (fun c403 => ?_)
      · have n404 : ¬ (r400 = 0) := fun h9 => c403 ((nI_eq (a := r400) (b := 0) (by omega) (by omega)).mpr h9)
        refine W.widen (k := (2 * ((at345 + 1) - at9) - 4)) (n := (11 * (2 * ((at345 + 1) - at9) - 4))) (by show (1 + (2 * (at345 - ((at9 + 1) + 1)) - 0)) ≤ _; omega) (by show (11 + (11 * (2 * (at345 - ((at9 + 1) + 1)) - 0))) ≤ _; omega) ?_
        have hO : OKP G h0 a (upd (upd (upd (upd F 2 (nI sz)) 9 (nI (at345 + 1))) 10 (nI dp)) 11 (nI sg346)) R Z (updA B 10 f347) J K373 w := hO.to rfl
        exact cut_j (at345 + 1) sg346 f347 K373 g344 q1 (some r342) none (at345 + 1) _ _ _ _ (by omega) (by omega) (by omega) hns386 hq22 hf375 hg367 hno387 hf376 hf384 hf378 hf379 hf380 hf381 (KdO.one hf382 (by omega) (by omega)) KdO.no (KdF.one hrk365 (by omega) (by rw [hf383]; exact hkf372)) KdE.no (NwT.le htk385 (by omega)) hP hD hS hO (lv_sub hl [0, 1] rfl)
      · have n405 : r400 = 0 := (nI_eq (a := r400) (b := 0) (by omega) (by omega)).mp c403
        refine lv_aload_n hx hb dX8_forStatement_84 rfl (lv_at hl 0 rfl) ?_
        refine lv_aload_n hx hb dX8_forStatement_85 rfl (lv_at hl 1 rfl) ?_
        have hO : OKP G h0 a (upd (upd (upd (upd (upd (upd (upd (upd (upd (upd F 2 (nI sz)) 9 (nI at9)) 10 (nI dp)) 11 (nI sg)) 9 (nI (at345 + 1))) 11 (nI sg346)) 2 (nI sz)) 9 (nI (at345 + 1))) 10 (nI dp)) 11 (nI sg346)) R Z (updA B 10 f347) J K373 w := hO.to rfl
        obtain ⟨_, qr409, hqr410⟩ := hO.2.1 23 _ (sg_23 G h0 a _ _ _ _ _)
        refine pn_V0 (G := G) (As := []) (rest := [.ref q1]) hx hb hml hown hq hE hX pX0_al hP hD hS hA hl.1 (((PE_all l G n).1) h0 a (upd (upd (upd (upd (upd (upd F 2 (nI sz)) 9 (nI at9)) 10 (nI dp)) 11 (nI sg)) 9 (nI (at345 + 1))) 11 (nI sg346)) R Z (updA B 10 f347) J K373 w (at345 + 1) sz dp sg346 0 g344 (by omega) (by omega) hdp (by omega) hns386.1 (fun o9 h9 => absurd h9 (by omega)) hO hl0) (gV pw_916 pw_917 pw_918 pw_796 pw_942) hV_X8_expression qr409 5 hqr410 rfl rfl rfl (Nat.le_of_ble_eq_true rfl) dX8_forStatement_86 ⟨(by show (1 + (2 * (at345 - ((at9 + 1) + 1)) - 0)) + (2 * (sz - (at345 + 1)) + 20) ≤ (2 * (sz - at9) + 20); omega), (by show (11 + (11 * (2 * (at345 - ((at9 + 1) + 1)) - 0))) + (11 * (2 * (sz - (at345 + 1)) + 20)) ≤ (11 * (2 * (sz - at9) + 20)); omega)⟩ ⟨(by show (40 * n + 40) + 1 ≤ (50 * n + 58); omega), (by show 8 + (3 + 11) + (1300 * n + 1300) ≤ (1500 * n + 1650); omega)⟩ (fun v408 u406 H locs hw407 hP hD hS => ?_) (fun ux ce9 q9 H9 locs9 hux hP9 hD9 hS9 hce hcv hcl => pb_out ux (ThQ.up (Thx.same (Thx.same (Thx.same (Thx.same (Thx.b (Thx.f (Thx.f Thx.rfl (by omega)) (by omega)) (by omega) (by decide)) rfl) rfl) rfl) rfl) RhX.rfl hux) hnt hlocks hce hcv hcl hP9 hD9 hS9 (by show (1 + (2 * (at345 - ((at9 + 1) + 1)) - 0)) + (2 * (sz - (at345 + 1)) + 20) ≤ (2 * (sz - at9) + 20); omega) (by show (11 + (11 * (2 * (at345 - ((at9 + 1) + 1)) - 0))) + (11 * (2 * (sz - (at345 + 1)) + 20)) ≤ (11 * (2 * (sz - at9) + 20)); omega))
        obtain ⟨w, r411, K412, g413, at414, sg415, f416, k417⟩ := u406
        obtain ⟨hw407, h418, h419, h420, h421, h422, h423, hO⟩ := hw407
        have h418 : NwR K373 K412 g344 g413 r411 0 k417 (5 * (20 - dp) + 6 + (sg415 - sg346)) := h418
        have h419 : (at345 + 1) ≤ rS k417 ∧ rS k417 + 1 ≤ rE k417 ∧ rE k417 ≤ at414 ∧ 1 ≤ rD k417 ∧ rD k417 ≤ 9 * (20 - dp) + (sg415 - sg346) + 1 := h419
        have h420 : (at345 + 1) + 1 ≤ at414 ∧ at414 ≤ sz := h420
        have h421 : sg346 ≤ sg415 ∧ sg415 ≤ 60 := h421
        have h422 : ¬ tkN ((B 7)) sz 67 (nI (at345 + 1)) = 37 := h422
        have h423 : NwT ((B 7)) sz (f347) f416 K373 K412 (at345 + 1) at414 := h423
        obtain rfl : v408 = some (.ref r411) := hw407
        have hf424 : K412.1 q1 = 1 := (((h418).2.1.1 q1 (by rw [hf375]; decide)).1).trans hf375
        have hf425 : K412.2.1 0 q1 = 27 := (((h418).2.1.1 q1 (by rw [hf375]; decide)).2.1 0).trans hf376
        have hf426 : K412.2.1 2 q1 = (nI at9) := (((h418).2.1.1 q1 (by rw [hf375]; decide)).2.1 2).trans hf377
        have hf427 : K412.2.2.1 1 q1 = none := (((h418).2.1.1 q1 (by rw [hf375]; decide)).2.2.1 1).trans hf378
        have hf428 : K412.2.2.1 2 q1 = none := (((h418).2.1.1 q1 (by rw [hf375]; decide)).2.2.1 2).trans hf379
        have hf429 : K412.2.2.1 3 q1 = none := (((h418).2.1.1 q1 (by rw [hf375]; decide)).2.2.1 3).trans hf380
        have hf430 : K412.2.2.1 4 q1 = none := (((h418).2.1.1 q1 (by rw [hf375]; decide)).2.2.1 4).trans hf381
        have hf431 : K412.1 r342 = 1 := (((h418).2.1.1 r342 (by rw [hf382]; decide)).1).trans hf382
        have hf432 : K412.2.1 0 r342 = kd370 := (((h418).2.1.1 r342 (by rw [hf382]; decide)).2.1 0).trans hf383
        have hf433 : K412.2.2.1 0 q1 = some r342 := (((h418).2.1.1 q1 (by rw [hf375]; decide)).2.2.1 0).trans hf384
        have hO : OKP G h0 a (upd (upd (upd (upd F 2 (nI sz)) 9 (nI at414)) 10 (nI dp)) 11 (nI sg415)) R Z (updA B 10 f416) J K412 w := hO.to rfl
        refine W.widen (k := ((1 + (2 * (at345 - ((at9 + 1) + 1)) - 0)) + (2 * (at414 - (at345 + 1)) - 1))) (n := ((11 + (11 * (2 * (at345 - ((at9 + 1) + 1)) - 0))) + (11 * (2 * (at414 - (at345 + 1)) - 1)))) (by show (1 + (2 * (at345 - ((at9 + 1) + 1)) - 0)) + (2 * (at414 - (at345 + 1)) - 1) ≤ ((1 + (2 * (at345 - ((at9 + 1) + 1)) - 0)) + (2 * (at414 - (at345 + 1)) - 1)); omega) (by show (11 + (11 * (2 * (at345 - ((at9 + 1) + 1)) - 0))) + (11 * (2 * (at414 - (at345 + 1)) - 1)) ≤ ((11 + (11 * (2 * (at345 - ((at9 + 1) + 1)) - 0))) + (11 * (2 * (at414 - (at345 + 1)) - 1))); omega) ?_
        refine W.eq (g2 := F0 m 89 ls [.ref r411, .ref q1]) rfl ?_
        have htk434 : NwT (B 7) sz (B 10) f416 K K412 at9 at414 := (NwT.call htk385 h423 (by omega))
        have hns435 : NwS K K412 g g413 := NwS.call hns386 h418 (fun o9 h9 => absurd h9 (by omega))
        have hrk436 : g413 2 r342 = k348 := (h418.2.1.2 r342 (by rw [hf382]; decide) 2).trans hrk365
        have hrk437 : g413 2 r411 = k417 := h418.2.2.1.2.2.2.2.2.1
        have hf438 : K412.1 r411 = 1 := h418.2.2.1.2.1
        have hg439 : g413 0 q1 = 0 := (h418.2.1.2 q1 (by rw [hf375]; decide) 0).trans hg367
        have hno440 : NoO K412 g413 q1 := NoO.call hno387 h418 hf375 (by omega)
        have hgz441 : g413 0 r342 = g344 0 r342 := h418.2.1.2 r342 (by rw [hf382]; decide) 0
        have hgy442 := h418.2.2.1
        have hgy442a := hgy442.2.2.1
        have hgy442b := hgy442.2.2.2.1
        refine p_put (v := .ref r411) (ty := (.object "JinjaTongue$Node")) (C := RX7) (Tc := TX7) (N := 11) (ci := 13) (K' := (kC K412 1 q1 (some r411))) hx hb hq pin_wsX70 tyX7 tyX7_ok nmX7 hown hE hP hD hS hO (by rw [hf424]; decide) (rep_1 hf424) rfl 7 (by decide) (hq _ pw_910) (fun _ h9 => h9) rfl (by decide +kernel) rfl rfl (Nat.le_of_ble_eq_true rfl) rfl (by rw [rep_1 (show (kC K412 1 q1 (some r411)).1 q1 = 1 from hf424), pc_1] <;> rfl) (fun p9 hp9 => rep_kC hp9) dX8_forStatement_89 (fun H locs w hP hD hS hO => ?_)
        obtain ⟨K443, hK444⟩ : ∃ z : PK, z = (kC K412 1 q1 (some r411)) := ⟨_, rfl⟩
        rw [← hK444] at hO
        have hf445 : K443.1 q1 = 1 := (by rw [hK444]; exact hf424)
        have hf446 : K443.2.1 0 q1 = 27 := (by rw [hK444]; exact hf425)
        have hf447 : K443.2.1 2 q1 = (nI at9) := (by rw [hK444]; exact hf426)
        have hf448 : K443.2.2.1 2 q1 = none := (by rw [hK444]; exact (kC_of (by decide)).trans hf428)
        have hf449 : K443.2.2.1 3 q1 = none := (by rw [hK444]; exact (kC_of (by decide)).trans hf429)
        have hf450 : K443.2.2.1 4 q1 = none := (by rw [hK444]; exact (kC_of (by decide)).trans hf430)
        have hf451 : K443.1 r342 = 1 := (by rw [hK444]; exact hf431)
        have hf452 : K443.2.1 0 r342 = kd370 := (by rw [hK444]; exact hf432)
        have hf453 : K443.2.2.1 0 q1 = some r342 := (by rw [hK444]; exact (kC_of (by decide)).trans hf433)
        have hf454 : K443.1 r411 = 1 := (by rw [hK444]; exact hf438)
        have hf455 : K443.2.2.1 1 q1 = some r411 := by rw [hK444]; exact kC_eq
        have htk456 : NwT (B 7) sz (B 10) f416 K K443 at9 at414 := by rw [hK444]; exact NwT.put htk434
        have hns457 : NwS K K443 g g413 := by rw [hK444]; exact NwS.put hns435 hq22 hg439
        have hno458 : NoO K443 g413 q1 := by rw [hK444]; exact hno440
        refine W.widen (k := (2 * (at414 - at9) - 4)) (n := (11 * (2 * (at414 - at9) - 4))) (by show ((1 + (2 * (at345 - ((at9 + 1) + 1)) - 0)) + (2 * (at414 - (at345 + 1)) - 1)) ≤ _; omega) (by show ((11 + (11 * (2 * (at345 - ((at9 + 1) + 1)) - 0))) + (11 * (2 * (at414 - (at345 + 1)) - 1))) ≤ _; omega) ?_
        have hO : OKP G h0 a (upd (upd (upd (upd F 2 (nI sz)) 9 (nI at414)) 10 (nI dp)) 11 (nI sg415)) R Z (updA B 10 f416) J K443 w := hO.to rfl
        exact cut_j at414 sg415 f416 K443 g413 q1 (some r342) (some r411) (at345 + 1) _ _ _ _ (by omega) (by omega) (by omega) hns457 hq22 hf445 hg439 hno458 hf446 hf453 hf455 hf448 hf449 hf450 (KdO.one hf451 (by omega) (by omega)) (KdO.one hf454 (by omega) (by omega)) (KdF.one hrk436 (by omega) (by rw [hf452]; exact hkf372)) (KdE.one hrk437 (by omega)) (NwT.le htk456 (by omega)) hP hD hS hO (lv_sub hl [0, 1] rfl)
    · have n459 : ¬ (r333 = 0) := fun h9 => c335 ((nI_eq (a := r333) (b := 0) (by omega) (by omega)).mpr h9)
      refine lv_aload_n hx hb dX8_forStatement_52 rfl (lv_at hl 1 rfl) ?_
      refine lv_iconst (v := 0) hx hb dX8_forStatement_53 (by decide) ?_
      have hO : OKP G h0 a (upd (upd (upd (upd (upd (upd (upd (upd (upd F 2 (nI sz)) 9 (nI at9)) 10 (nI dp)) 11 (nI sg)) 9 (nI ((at9 + 1) + 1))) 2 (nI sz)) 9 (nI ((at9 + 1) + 1))) 10 (nI dp)) 11 (nI sg)) R Z B J K10 w := hO.to rfl
      obtain ⟨_, qr463, hqr464⟩ := hO.2.1 23 _ (sg_23 G h0 a _ _ _ _ _)
      refine pn_V0 (G := G) (As := [.int (nI 0)]) (rest := [.ref q1]) hx hb hml hown hq hE hX pX0_al hP hD hS hA hl.1 (P_lokal l G h0 a (upd (upd (upd (upd (upd F 2 (nI sz)) 9 (nI at9)) 10 (nI dp)) 11 (nI sg)) 9 (nI ((at9 + 1) + 1))) R Z B J K10 w 0 n ((at9 + 1) + 1) sz dp sg 0 (gset g q1 0 0 0) (by omega) (by omega) hdp (by omega) hns21.1 (fun o9 h9 => absurd h9 (by omega)) (by omega) hO hl0) (gV pw_1015 pw_1016 pw_1017 pw_796 pw_987) hV_X8_local qr463 5 hqr464 rfl rfl rfl (Nat.le_of_ble_eq_true rfl) dX8_forStatement_54 ⟨(by show 1 + (2 * (sz - ((at9 + 1) + 1)) + 20) ≤ (2 * (sz - at9) + 20); omega), (by show 11 + (11 * (2 * (sz - ((at9 + 1) + 1)) + 20)) ≤ (11 * (2 * (sz - at9) + 20)); omega)⟩ ⟨(by show (40 * n + 44) + 1 ≤ (50 * n + 58); omega), (by show 8 + (4 + 11) + (1300 * n + 1400) ≤ (1500 * n + 1650); omega)⟩ (fun v462 u460 H locs hw461 hP hD hS => ?_) (fun ux ce9 q9 H9 locs9 hux hP9 hD9 hS9 hce hcv hcl => pb_out ux (ThQ.up (Thx.same (Thx.same (Thx.same (Thx.same (Thx.f Thx.rfl (by omega)) rfl) rfl) rfl) rfl) RhX.rfl hux) hnt hlocks hce hcv hcl hP9 hD9 hS9 (by show 1 + (2 * (sz - ((at9 + 1) + 1)) + 20) ≤ (2 * (sz - at9) + 20); omega) (by show 11 + (11 * (2 * (sz - ((at9 + 1) + 1)) + 20)) ≤ (11 * (2 * (sz - at9) + 20)); omega))
      obtain ⟨w, r465, K466, g467, at468, sg469, f470, k471⟩ := u460
      obtain ⟨hw461, h472, h473, h474, h475, h476, h477, hO⟩ := hw461
      have h472 : NwR K10 K466 (gset g q1 0 0 0) g467 r465 0 k471 (168) := h472
      have h473 : rS k471 = ((at9 + 1) + 1) ∧ rE k471 ≤ at468 ∧ rS k471 ≤ rE k471 ∧ rD k471 ≤ 2 * (20 - dp) + 2 := h473
      have h474 : ((at9 + 1) + 1) + 2 ≤ at468 ∧ at468 ≤ sz := h474
      have h475 : sg ≤ sg469 ∧ sg469 ≤ 60 := h475
      have h476 : K466.2.1 0 r465 = 22 := h476
      have h477 : NwT ((B 7)) sz ((B 10)) f470 K10 K466 ((at9 + 1) + 1) at468 := h477
      obtain rfl : v462 = some (.ref r465) := hw461
      have hf478 : K466.1 q1 = 1 := (((h472).2.1.1 q1 (by rw [hf13]; decide)).1).trans hf13
      have hf479 : K466.2.1 0 q1 = 27 := (((h472).2.1.1 q1 (by rw [hf13]; decide)).2.1 0).trans hf14
      have hf480 : K466.2.1 2 q1 = (nI at9) := (((h472).2.1.1 q1 (by rw [hf13]; decide)).2.1 2).trans hf15
      have hf481 : K466.2.2.1 0 q1 = none := (((h472).2.1.1 q1 (by rw [hf13]; decide)).2.2.1 0).trans hf16
      have hf482 : K466.2.2.1 1 q1 = none := (((h472).2.1.1 q1 (by rw [hf13]; decide)).2.2.1 1).trans hf17
      have hf483 : K466.2.2.1 2 q1 = none := (((h472).2.1.1 q1 (by rw [hf13]; decide)).2.2.1 2).trans hf18
      have hf484 : K466.2.2.1 3 q1 = none := (((h472).2.1.1 q1 (by rw [hf13]; decide)).2.2.1 3).trans hf19
      have hf485 : K466.2.2.1 4 q1 = none := (((h472).2.1.1 q1 (by rw [hf13]; decide)).2.2.1 4).trans hf20
      have hO : OKP G h0 a (upd (upd (upd (upd F 2 (nI sz)) 9 (nI at468)) 10 (nI dp)) 11 (nI sg469)) R Z (updA B 10 f470) J K466 w := hO.to rfl
      refine W.widen (k := (1 + (2 * (at468 - ((at9 + 1) + 1)) - 3))) (n := (11 + (11 * (2 * (at468 - ((at9 + 1) + 1)) - 3)))) (by show 1 + (2 * (at468 - ((at9 + 1) + 1)) - 3) ≤ (1 + (2 * (at468 - ((at9 + 1) + 1)) - 3)); omega) (by show 11 + (11 * (2 * (at468 - ((at9 + 1) + 1)) - 3)) ≤ (11 + (11 * (2 * (at468 - ((at9 + 1) + 1)) - 3))); omega) ?_
      refine W.eq (g2 := F0 m 57 ls [.ref r465, .ref q1]) rfl ?_
      have htk486 : NwT (B 7) sz (B 10) f470 K K466 at9 at468 := (NwT.call htk12 h477 (by omega))
      have hns487 : NwS K K466 g g467 := NwS.call hns21 h472 (fun o9 h9 => absurd h9 (by omega))
      have hrk488 : g467 2 r465 = k471 := h472.2.2.1.2.2.2.2.2.1
      have hf489 : K466.1 r465 = 1 := h472.2.2.1.2.1
      have hg490 : g467 0 q1 = 0 := (h472.2.1.2 q1 (by rw [hf13]; decide) 0).trans hg23
      have hno491 : NoO K466 g467 q1 := NoO.call hno24 h472 hf13 (by omega)
      have hgy492 := h472.2.2.1
      have hgy492a := hgy492.2.2.1
      have hgy492b := hgy492.2.2.2.1
      obtain ⟨kd493, hkd494⟩ : ∃ z : Int32, K466.2.1 0 r465 = z := ⟨_, rfl⟩
      have hkf495 : kd493 = 22 ∨ kd493 = 23 := by rw [← hkd494]; exact Or.inl h476
      refine lv_goto (tgt := 65) hx hb dX8_forStatement_57 (by decide) ?_
      refine p_put (v := .ref r465) (ty := (.object "JinjaTongue$Node")) (C := RX7) (Tc := TX7) (N := 11) (ci := 13) (K' := (kC K466 0 q1 (some r465))) hx hb hq pin_wsX70 tyX7 tyX7_ok nmX7 hown hE hP hD hS hO (by rw [hf478]; decide) (rep_1 hf478) rfl 6 (by decide) (hq _ pw_938) (fun _ h9 => h9) rfl (by decide +kernel) rfl rfl (Nat.le_of_ble_eq_true rfl) rfl (by rw [rep_1 (show (kC K466 0 q1 (some r465)).1 q1 = 1 from hf478), pc_0] <;> rfl) (fun p9 hp9 => rep_kC hp9) dX8_forStatement_65 (fun H locs w hP hD hS hO => ?_)
      obtain ⟨K496, hK497⟩ : ∃ z : PK, z = (kC K466 0 q1 (some r465)) := ⟨_, rfl⟩
      rw [← hK497] at hO
      have hf498 : K496.1 q1 = 1 := (by rw [hK497]; exact hf478)
      have hf499 : K496.2.1 0 q1 = 27 := (by rw [hK497]; exact hf479)
      have hf500 : K496.2.1 2 q1 = (nI at9) := (by rw [hK497]; exact hf480)
      have hf501 : K496.2.2.1 1 q1 = none := (by rw [hK497]; exact (kC_of (by decide)).trans hf482)
      have hf502 : K496.2.2.1 2 q1 = none := (by rw [hK497]; exact (kC_of (by decide)).trans hf483)
      have hf503 : K496.2.2.1 3 q1 = none := (by rw [hK497]; exact (kC_of (by decide)).trans hf484)
      have hf504 : K496.2.2.1 4 q1 = none := (by rw [hK497]; exact (kC_of (by decide)).trans hf485)
      have hf505 : K496.1 r465 = 1 := (by rw [hK497]; exact hf489)
      have hf506 : K496.2.1 0 r465 = kd493 := (by rw [hK497]; exact hkd494)
      have hf507 : K496.2.2.1 0 q1 = some r465 := by rw [hK497]; exact kC_eq
      have htk508 : NwT (B 7) sz (B 10) f470 K K496 at9 at468 := by rw [hK497]; exact NwT.put htk486
      have hns509 : NwS K K496 g g467 := by rw [hK497]; exact NwS.put hns487 hq22 hg490
      have hno510 : NoO K496 g467 q1 := by rw [hK497]; exact hno491
      refine lv_aload_n hx hb dX8_forStatement_68 rfl (lv_at hl 1 rfl) ?_
      refine lv_bipush (v := 38) hx hb dX8_forStatement_69 (by decide) ?_
      have hO : OKW G h0 a (upd (upd (upd (upd (upd (upd (upd (upd F 2 (nI sz)) 9 (nI at9)) 10 (nI dp)) 11 (nI sg)) 9 (nI at468)) 11 (nI sg469)) 2 (nI sz)) 9 (nI at468)) R Z (updA B 10 f470) J K496.1 (fun q99 x99 => x99 = rep G a K496 q99) w := hO.to rfl
      obtain ⟨_, qr514, hqr515⟩ := hO.2.1 23 _ (sg_23 G h0 a _ _ _ _ _)
      refine pn_V0 (G := G) (As := [.int 38]) (rest := []) hx hb hml hown hq hE hX pX0_al hP hD hS hA hl.1 (P_take l G h0 a (upd (upd (upd (upd (upd (upd F 2 (nI sz)) 9 (nI at9)) 10 (nI dp)) 11 (nI sg)) 9 (nI at468)) 11 (nI sg469)) R Z (updA B 10 f470) J K496.1 (fun q99 x99 => x99 = rep G a K496 q99) w 38 at468 sz (by omega) (by omega) (by decide) hO hl0) (gV pw_793 pw_794 pw_795 pw_796 pw_781) hV_X8_take qr514 5 hqr515 rfl rfl rfl (Nat.le_of_ble_eq_true rfl) dX8_forStatement_71 ⟨(by show (1 + (2 * (at468 - ((at9 + 1) + 1)) - 3)) + 1 ≤ (2 * (sz - at9) + 20); omega), (by show (11 + (11 * (2 * (at468 - ((at9 + 1) + 1)) - 3))) + 6 ≤ (11 * (2 * (sz - at9) + 20)); omega)⟩ ⟨(by show 7 + 1 ≤ (50 * n + 58); omega), (by show 8 + (2 + 11) + 122 ≤ (1500 * n + 1650); omega)⟩ (fun v513 u511 H locs hw512 hP hD hS => ?_) (fun ux ce9 q9 H9 locs9 hux hP9 hD9 hS9 hce hcv hcl => pb_out ux (ThQ.up (Thx.same (Thx.same (Thx.b (Thx.f (Thx.f Thx.rfl (by omega)) (by omega)) (by omega) (by decide)) rfl) rfl) RhX.rfl hux) hnt hlocks hce hcv hcl hP9 hD9 hS9 (by show (1 + (2 * (at468 - ((at9 + 1) + 1)) - 3)) + 1 ≤ (2 * (sz - at9) + 20); omega) (by show (11 + (11 * (2 * (at468 - ((at9 + 1) + 1)) - 3))) + 6 ≤ (11 * (2 * (sz - at9) + 20)); omega))
      obtain ⟨w, _⟩ := u511
      obtain ⟨hw512, h516, h517, hO⟩ := hw512
      have h516 : at468 + 1 ≤ sz := h516
      have h517 : tkN ((B 7)) sz 67 (nI at468) = 38 := h517
      obtain rfl : v513 = some (.int (nI at468)) := hw512
      have hO : OKP G h0 a (upd (upd (upd (upd F 2 (nI sz)) 9 (nI (at468 + 1))) 10 (nI dp)) 11 (nI sg469)) R Z (updA B 10 f470) J K496 w := hO.to rfl
      refine W.widen (k := (1 + (2 * (at468 - ((at9 + 1) + 1)) - 3))) (n := (11 + (11 * (2 * (at468 - ((at9 + 1) + 1)) - 3)))) (by show (1 + (2 * (at468 - ((at9 + 1) + 1)) - 3)) + 0 ≤ (1 + (2 * (at468 - ((at9 + 1) + 1)) - 3)); omega) (by show (11 + (11 * (2 * (at468 - ((at9 + 1) + 1)) - 3))) + 0 ≤ (11 + (11 * (2 * (at468 - ((at9 + 1) + 1)) - 3))); omega) ?_
      refine W.eq (g2 := F0 m 74 ls [.int (nI at468)]) rfl ?_
      refine lv_pop hx hb dX8_forStatement_74 rfl ?_
      refine lv_aload_n hx hb dX8_forStatement_75 rfl (lv_at hl 1 rfl) ?_
      refine lv_bipush (v := 38) hx hb dX8_forStatement_76 (by decide) ?_
      have hO : OKW G h0 a (upd (upd (upd (upd (upd (upd F 2 (nI sz)) 9 (nI (at468 + 1))) 10 (nI dp)) 11 (nI sg469)) 2 (nI sz)) 9 (nI (at468 + 1))) R Z (updA B 10 f470) J K496.1 (fun q99 x99 => x99 = rep G a K496 q99) w := hO.to rfl
      obtain ⟨_, qr521, hqr522⟩ := hO.2.1 23 _ (sg_23 G h0 a _ _ _ _ _)
      refine pc_V0 (G := G) (As := [.int 38]) (rest := []) hx hb hml hown hq hE hX pX0_al hP hD hS hA hl.1 (P_sees l G h0 a (upd (upd (upd (upd F 2 (nI sz)) 9 (nI (at468 + 1))) 10 (nI dp)) 11 (nI sg469)) R Z (updA B 10 f470) J K496.1 (fun q99 x99 => x99 = rep G a K496 q99) w 38 (at468 + 1) sz (by omega) (by omega) hO) (gV pw_803 pw_804 pw_805 pw_796 pw_775) hV_X8_sees qr521 5 hqr522 rfl rfl rfl (Nat.le_of_ble_eq_true rfl) dX8_forStatement_78 ⟨(by show (1 + (2 * (at468 - ((at9 + 1) + 1)) - 3)) + 0 ≤ (2 * (sz - at9) + 20); omega), (by show (11 + (11 * (2 * (at468 - ((at9 + 1) + 1)) - 3))) + 0 ≤ (11 * (2 * (sz - at9) + 20)); omega)⟩ ⟨(by show 3 + 1 ≤ (50 * n + 58); omega), (by show 8 + (2 + 11) + 81 ≤ (1500 * n + 1650); omega)⟩ (fun v520 u518 H locs hw519 hP hD hS => ?_)
      obtain ⟨w, r523⟩ := u518
      obtain ⟨hw519, h524, h525, hO⟩ := hw519
      have h524 : r523 ≤ 1 := h524
      have h525 : SeQ ((B 7)) sz (at468 + 1) 38 r523 := h525
      obtain rfl : v520 = some (.int (nI r523)) := hw519
      have hO : OKP G h0 a (upd (upd (upd (upd F 2 (nI sz)) 9 (nI (at468 + 1))) 10 (nI dp)) 11 (nI sg469)) R Z (updA B 10 f470) J K496 w := hO.to rfl
      refine W.widen (k := (1 + (2 * (at468 - ((at9 + 1) + 1)) - 3))) (n := (11 + (11 * (2 * (at468 - ((at9 + 1) + 1)) - 3)))) (by show (1 + (2 * (at468 - ((at9 + 1) + 1)) - 3)) + 0 ≤ (1 + (2 * (at468 - ((at9 + 1) + 1)) - 3)); omega) (by show (11 + (11 * (2 * (at468 - ((at9 + 1) + 1)) - 3))) + 0 ≤ (11 + (11 * (2 * (at468 - ((at9 + 1) + 1)) - 3))); omega) ?_
      refine W.eq (g2 := F0 m 81 ls [.int (nI r523)]) rfl ?_
      refine lv_if_ne (tgt := 92) hx hb dX8_forStatement_81 (by decide) (fun c526 => ?_) (fun c526 => ?_)
      · have n527 : ¬ (r523 = 0) := fun h9 => c526 ((nI_eq (a := r523) (b := 0) (by omega) (by omega)).mpr h9)
        refine W.widen (k := (2 * ((at468 + 1) - at9) - 4)) (n := (11 * (2 * ((at468 + 1) - at9) - 4))) (by show (1 + (2 * (at468 - ((at9 + 1) + 1)) - 3)) ≤ _; omega) (by show (11 + (11 * (2 * (at468 - ((at9 + 1) + 1)) - 3))) ≤ _; omega) ?_
        have hO : OKP G h0 a (upd (upd (upd (upd F 2 (nI sz)) 9 (nI (at468 + 1))) 10 (nI dp)) 11 (nI sg469)) R Z (updA B 10 f470) J K496 w := hO.to rfl
        exact cut_j (at468 + 1) sg469 f470 K496 g467 q1 (some r465) none (at468 + 1) _ _ _ _ (by omega) (by omega) (by omega) hns509 hq22 hf498 hg490 hno510 hf499 hf507 hf501 hf502 hf503 hf504 (KdO.one hf505 (by omega) (by omega)) KdO.no (KdF.one hrk488 (by omega) (by rw [hf506]; exact hkf495)) KdE.no (NwT.le htk508 (by omega)) hP hD hS hO (lv_sub hl [0, 1] rfl)
      · have n528 : r523 = 0 := (nI_eq (a := r523) (b := 0) (by omega) (by omega)).mp c526
        refine lv_aload_n hx hb dX8_forStatement_84 rfl (lv_at hl 0 rfl) ?_
        refine lv_aload_n hx hb dX8_forStatement_85 rfl (lv_at hl 1 rfl) ?_
        have hO : OKP G h0 a (upd (upd (upd (upd (upd (upd (upd (upd (upd (upd F 2 (nI sz)) 9 (nI at9)) 10 (nI dp)) 11 (nI sg)) 9 (nI (at468 + 1))) 11 (nI sg469)) 2 (nI sz)) 9 (nI (at468 + 1))) 10 (nI dp)) 11 (nI sg469)) R Z (updA B 10 f470) J K496 w := hO.to rfl
        obtain ⟨_, qr532, hqr533⟩ := hO.2.1 23 _ (sg_23 G h0 a _ _ _ _ _)
        refine pn_V0 (G := G) (As := []) (rest := [.ref q1]) hx hb hml hown hq hE hX pX0_al hP hD hS hA hl.1 (((PE_all l G n).1) h0 a (upd (upd (upd (upd (upd (upd F 2 (nI sz)) 9 (nI at9)) 10 (nI dp)) 11 (nI sg)) 9 (nI (at468 + 1))) 11 (nI sg469)) R Z (updA B 10 f470) J K496 w (at468 + 1) sz dp sg469 0 g467 (by omega) (by omega) hdp (by omega) hns509.1 (fun o9 h9 => absurd h9 (by omega)) hO hl0) (gV pw_916 pw_917 pw_918 pw_796 pw_942) hV_X8_expression qr532 5 hqr533 rfl rfl rfl (Nat.le_of_ble_eq_true rfl) dX8_forStatement_86 ⟨(by show (1 + (2 * (at468 - ((at9 + 1) + 1)) - 3)) + (2 * (sz - (at468 + 1)) + 20) ≤ (2 * (sz - at9) + 20); omega), (by show (11 + (11 * (2 * (at468 - ((at9 + 1) + 1)) - 3))) + (11 * (2 * (sz - (at468 + 1)) + 20)) ≤ (11 * (2 * (sz - at9) + 20)); omega)⟩ ⟨(by show (40 * n + 40) + 1 ≤ (50 * n + 58); omega), (by show 8 + (3 + 11) + (1300 * n + 1300) ≤ (1500 * n + 1650); omega)⟩ (fun v531 u529 H locs hw530 hP hD hS => ?_) (fun ux ce9 q9 H9 locs9 hux hP9 hD9 hS9 hce hcv hcl => pb_out ux (ThQ.up (Thx.same (Thx.same (Thx.same (Thx.same (Thx.b (Thx.f (Thx.f Thx.rfl (by omega)) (by omega)) (by omega) (by decide)) rfl) rfl) rfl) rfl) RhX.rfl hux) hnt hlocks hce hcv hcl hP9 hD9 hS9 (by show (1 + (2 * (at468 - ((at9 + 1) + 1)) - 3)) + (2 * (sz - (at468 + 1)) + 20) ≤ (2 * (sz - at9) + 20); omega) (by show (11 + (11 * (2 * (at468 - ((at9 + 1) + 1)) - 3))) + (11 * (2 * (sz - (at468 + 1)) + 20)) ≤ (11 * (2 * (sz - at9) + 20)); omega))
        obtain ⟨w, r534, K535, g536, at537, sg538, f539, k540⟩ := u529
        obtain ⟨hw530, h541, h542, h543, h544, h545, h546, hO⟩ := hw530
        have h541 : NwR K496 K535 g467 g536 r534 0 k540 (5 * (20 - dp) + 6 + (sg538 - sg469)) := h541
        have h542 : (at468 + 1) ≤ rS k540 ∧ rS k540 + 1 ≤ rE k540 ∧ rE k540 ≤ at537 ∧ 1 ≤ rD k540 ∧ rD k540 ≤ 9 * (20 - dp) + (sg538 - sg469) + 1 := h542
        have h543 : (at468 + 1) + 1 ≤ at537 ∧ at537 ≤ sz := h543
        have h544 : sg469 ≤ sg538 ∧ sg538 ≤ 60 := h544
        have h545 : ¬ tkN ((B 7)) sz 67 (nI (at468 + 1)) = 37 := h545
        have h546 : NwT ((B 7)) sz (f470) f539 K496 K535 (at468 + 1) at537 := h546
        obtain rfl : v531 = some (.ref r534) := hw530
        have hf547 : K535.1 q1 = 1 := (((h541).2.1.1 q1 (by rw [hf498]; decide)).1).trans hf498
        have hf548 : K535.2.1 0 q1 = 27 := (((h541).2.1.1 q1 (by rw [hf498]; decide)).2.1 0).trans hf499
        have hf549 : K535.2.1 2 q1 = (nI at9) := (((h541).2.1.1 q1 (by rw [hf498]; decide)).2.1 2).trans hf500
        have hf550 : K535.2.2.1 1 q1 = none := (((h541).2.1.1 q1 (by rw [hf498]; decide)).2.2.1 1).trans hf501
        have hf551 : K535.2.2.1 2 q1 = none := (((h541).2.1.1 q1 (by rw [hf498]; decide)).2.2.1 2).trans hf502
        have hf552 : K535.2.2.1 3 q1 = none := (((h541).2.1.1 q1 (by rw [hf498]; decide)).2.2.1 3).trans hf503
        have hf553 : K535.2.2.1 4 q1 = none := (((h541).2.1.1 q1 (by rw [hf498]; decide)).2.2.1 4).trans hf504
        have hf554 : K535.1 r465 = 1 := (((h541).2.1.1 r465 (by rw [hf505]; decide)).1).trans hf505
        have hf555 : K535.2.1 0 r465 = kd493 := (((h541).2.1.1 r465 (by rw [hf505]; decide)).2.1 0).trans hf506
        have hf556 : K535.2.2.1 0 q1 = some r465 := (((h541).2.1.1 q1 (by rw [hf498]; decide)).2.2.1 0).trans hf507
        have hO : OKP G h0 a (upd (upd (upd (upd F 2 (nI sz)) 9 (nI at537)) 10 (nI dp)) 11 (nI sg538)) R Z (updA B 10 f539) J K535 w := hO.to rfl
        refine W.widen (k := ((1 + (2 * (at468 - ((at9 + 1) + 1)) - 3)) + (2 * (at537 - (at468 + 1)) - 1))) (n := ((11 + (11 * (2 * (at468 - ((at9 + 1) + 1)) - 3))) + (11 * (2 * (at537 - (at468 + 1)) - 1)))) (by show (1 + (2 * (at468 - ((at9 + 1) + 1)) - 3)) + (2 * (at537 - (at468 + 1)) - 1) ≤ ((1 + (2 * (at468 - ((at9 + 1) + 1)) - 3)) + (2 * (at537 - (at468 + 1)) - 1)); omega) (by show (11 + (11 * (2 * (at468 - ((at9 + 1) + 1)) - 3))) + (11 * (2 * (at537 - (at468 + 1)) - 1)) ≤ ((11 + (11 * (2 * (at468 - ((at9 + 1) + 1)) - 3))) + (11 * (2 * (at537 - (at468 + 1)) - 1))); omega) ?_
        refine W.eq (g2 := F0 m 89 ls [.ref r534, .ref q1]) rfl ?_
        have htk557 : NwT (B 7) sz (B 10) f539 K K535 at9 at537 := (NwT.call htk508 h546 (by omega))
        have hns558 : NwS K K535 g g536 := NwS.call hns509 h541 (fun o9 h9 => absurd h9 (by omega))
        have hrk559 : g536 2 r465 = k471 := (h541.2.1.2 r465 (by rw [hf505]; decide) 2).trans hrk488
        have hrk560 : g536 2 r534 = k540 := h541.2.2.1.2.2.2.2.2.1
        have hf561 : K535.1 r534 = 1 := h541.2.2.1.2.1
        have hg562 : g536 0 q1 = 0 := (h541.2.1.2 q1 (by rw [hf498]; decide) 0).trans hg490
        have hno563 : NoO K535 g536 q1 := NoO.call hno510 h541 hf498 (by omega)
        have hgz564 : g536 0 r465 = g467 0 r465 := h541.2.1.2 r465 (by rw [hf505]; decide) 0
        have hgy565 := h541.2.2.1
        have hgy565a := hgy565.2.2.1
        have hgy565b := hgy565.2.2.2.1
        refine p_put (v := .ref r534) (ty := (.object "JinjaTongue$Node")) (C := RX7) (Tc := TX7) (N := 11) (ci := 13) (K' := (kC K535 1 q1 (some r534))) hx hb hq pin_wsX70 tyX7 tyX7_ok nmX7 hown hE hP hD hS hO (by rw [hf547]; decide) (rep_1 hf547) rfl 7 (by decide) (hq _ pw_910) (fun _ h9 => h9) rfl (by decide +kernel) rfl rfl (Nat.le_of_ble_eq_true rfl) rfl (by rw [rep_1 (show (kC K535 1 q1 (some r534)).1 q1 = 1 from hf547), pc_1] <;> rfl) (fun p9 hp9 => rep_kC hp9) dX8_forStatement_89 (fun H locs w hP hD hS hO => ?_)
        obtain ⟨K566, hK567⟩ : ∃ z : PK, z = (kC K535 1 q1 (some r534)) := ⟨_, rfl⟩
        rw [← hK567] at hO
        have hf568 : K566.1 q1 = 1 := (by rw [hK567]; exact hf547)
        have hf569 : K566.2.1 0 q1 = 27 := (by rw [hK567]; exact hf548)
        have hf570 : K566.2.1 2 q1 = (nI at9) := (by rw [hK567]; exact hf549)
        have hf571 : K566.2.2.1 2 q1 = none := (by rw [hK567]; exact (kC_of (by decide)).trans hf551)
        have hf572 : K566.2.2.1 3 q1 = none := (by rw [hK567]; exact (kC_of (by decide)).trans hf552)
        have hf573 : K566.2.2.1 4 q1 = none := (by rw [hK567]; exact (kC_of (by decide)).trans hf553)
        have hf574 : K566.1 r465 = 1 := (by rw [hK567]; exact hf554)
        have hf575 : K566.2.1 0 r465 = kd493 := (by rw [hK567]; exact hf555)
        have hf576 : K566.2.2.1 0 q1 = some r465 := (by rw [hK567]; exact (kC_of (by decide)).trans hf556)
        have hf577 : K566.1 r534 = 1 := (by rw [hK567]; exact hf561)
        have hf578 : K566.2.2.1 1 q1 = some r534 := by rw [hK567]; exact kC_eq
        have htk579 : NwT (B 7) sz (B 10) f539 K K566 at9 at537 := by rw [hK567]; exact NwT.put htk557
        have hns580 : NwS K K566 g g536 := by rw [hK567]; exact NwS.put hns558 hq22 hg562
        have hno581 : NoO K566 g536 q1 := by rw [hK567]; exact hno563
        refine W.widen (k := (2 * (at537 - at9) - 4)) (n := (11 * (2 * (at537 - at9) - 4))) (by show ((1 + (2 * (at468 - ((at9 + 1) + 1)) - 3)) + (2 * (at537 - (at468 + 1)) - 1)) ≤ _; omega) (by show ((11 + (11 * (2 * (at468 - ((at9 + 1) + 1)) - 3))) + (11 * (2 * (at537 - (at468 + 1)) - 1))) ≤ _; omega) ?_
        have hO : OKP G h0 a (upd (upd (upd (upd F 2 (nI sz)) 9 (nI at537)) 10 (nI dp)) 11 (nI sg538)) R Z (updA B 10 f539) J K566 w := hO.to rfl
        exact cut_j at537 sg538 f539 K566 g536 q1 (some r465) (some r534) (at468 + 1) _ _ _ _ (by omega) (by omega) (by omega) hns580 hq22 hf568 hg562 hno581 hf569 hf576 hf578 hf571 hf572 hf573 (KdO.one hf574 (by omega) (by omega)) (KdO.one hf577 (by omega) (by omega)) (KdF.one hrk559 (by omega) (by rw [hf575]; exact hkf495)) (KdE.one hrk560 (by omega)) (NwT.le htk579 (by omega)) hP hD hS hO (lv_sub hl [0, 1] rfl)
