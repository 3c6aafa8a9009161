def KdI (g : Nat → Nat → Nat) (o : Option Nat) (lo hi : Nat) : Prop := ∀ x : Nat, o = some x → lo ≤ rS (g 2 x) ∧ rE (g 2 x) ≤ hi
theorem KdI.no {g : Nat → Nat → Nat} {lo hi : Nat} : KdI g none lo hi := fun _ h => by cases h
theorem KdI.one {g : Nat → Nat → Nat} {lo hi x k : Nat} (h : g 2 x = k) (h1 : lo ≤ rS k ∧ rE k ≤ hi) : KdI g (some x) lo hi := fun _ e => by cases e; rw [h]; exact h1
def KdO (K : PK) (g : Nat → Nat → Nat) (o : Option Nat) (L : Nat) : Prop := ∀ x : Nat, o = some x → K.1 x = 1 ∧ 1 ≤ g 0 x ∧ g 0 x < L
theorem KdO.no {K : PK} {g : Nat → Nat → Nat} {L : Nat} : KdO K g none L := fun _ h => by cases h
theorem KdO.one {K : PK} {g : Nat → Nat → Nat} {L x : Nat} (h : K.1 x = 1) (h1 : 1 ≤ g 0 x) (h2 : g 0 x < L) : KdO K g (some x) L := fun _ e => by cases e; exact ⟨h, h1, h2⟩
theorem KdO.ext {K K1 : PK} {g g1 : Nat → Nat → Nat} {o : Option Nat} {L : Nat} (h : KdO K g o L) (hx : XtG K K1 g g1) : KdO K1 g1 o L := fun x e => by
  obtain ⟨h1, h2, h3⟩ := h x e
  have h0 : ¬ K.1 x = 0 := by rw [h1]; decide
  exact ⟨(hx.1 x h0).1.trans h1, by rw [hx.2 x h0]; exact h2, by rw [hx.2 x h0]; exact h3⟩
theorem KdI.ext {K K1 : PK} {g g1 : Nat → Nat → Nat} {o : Option Nat} {L lo hi : Nat} (h : KdI g o lo hi) (hk : KdO K g o L) (hx : XtG K K1 g g1) : KdI g1 o lo hi := fun x e => by
  have h0 : ¬ K.1 x = 0 := by rw [(hk x e).1]; decide
  rw [hx.2 x h0]; exact h x e
theorem dX8_forStatement_0 : decode cX8_forStatement 0 = .ok (.new 143, 3) := by decide +kernel
theorem dX8_forStatement_3 : decode cX8_forStatement 3 = .ok (.dup, 1) := by decide +kernel
theorem dX8_forStatement_4 : decode cX8_forStatement 4 = .ok (.bipush 27, 2) := by decide +kernel
theorem dX8_forStatement_6 : decode cX8_forStatement 6 = .ok (.aload_n 0, 1) := by decide +kernel
theorem dX8_forStatement_7 : decode cX8_forStatement 7 = .ok (.getfield 17, 3) := by decide +kernel
theorem dX8_forStatement_10 : decode cX8_forStatement 10 = .ok (.aload_n 0, 1) := by decide +kernel
theorem dX8_forStatement_11 : decode cX8_forStatement 11 = .ok (.getfield 17, 3) := by decide +kernel
theorem dX8_forStatement_14 : decode cX8_forStatement 14 = .ok (.invokespecial 145, 3) := by decide +kernel
theorem dX8_forStatement_17 : decode cX8_forStatement 17 = .ok (.astore_n 1, 1) := by decide +kernel
theorem dX8_forStatement_92 : decode cX8_forStatement 92 = .ok (.aload_n 0, 1) := by decide +kernel
theorem dX8_forStatement_93 : decode cX8_forStatement 93 = .ok (.bipush 38, 2) := by decide +kernel
theorem dX8_forStatement_95 : decode cX8_forStatement 95 = .ok (.invokevirtual 53, 3) := by decide +kernel
theorem dX8_forStatement_98 : decode cX8_forStatement 98 = .ok (.pop, 1) := by decide +kernel
theorem dX8_forStatement_99 : decode cX8_forStatement 99 = .ok (.aload_n 0, 1) := by decide +kernel
theorem dX8_forStatement_100 : decode cX8_forStatement 100 = .ok (.bipush 35, 2) := by decide +kernel
theorem dX8_forStatement_102 : decode cX8_forStatement 102 = .ok (.invokevirtual 36, 3) := by decide +kernel
theorem dX8_forStatement_105 : decode cX8_forStatement 105 = .ok (.ifCond .ne 12, 3) := by decide +kernel
theorem dX8_forStatement_117 : decode cX8_forStatement 117 = .ok (.aload_n 0, 1) := by decide +kernel
theorem dX8_forStatement_118 : decode cX8_forStatement 118 = .ok (.bipush 35, 2) := by decide +kernel
theorem dX8_forStatement_120 : decode cX8_forStatement 120 = .ok (.invokevirtual 53, 3) := by decide +kernel
theorem dX8_forStatement_123 : decode cX8_forStatement 123 = .ok (.pop, 1) := by decide +kernel
theorem dX8_forStatement_124 : decode cX8_forStatement 124 = .ok (.aload_n 1, 1) := by decide +kernel
theorem dX8_forStatement_125 : decode cX8_forStatement 125 = .ok (.aload_n 0, 1) := by decide +kernel
theorem dX8_forStatement_126 : decode cX8_forStatement 126 = .ok (.iconst 0, 1) := by decide +kernel
theorem dX8_forStatement_127 : decode cX8_forStatement 127 = .ok (.invokevirtual 161, 3) := by decide +kernel
theorem dX8_forStatement_130 : decode cX8_forStatement 130 = .ok (.putfield 239, 3) := by decide +kernel
theorem dX8_forStatement_133 : decode cX8_forStatement 133 = .ok (.aload_n 1, 1) := by decide +kernel
theorem dX8_forStatement_134 : decode cX8_forStatement 134 = .ok (.areturn, 1) := by decide +kernel
theorem dX8_forStatement_108 : decode cX8_forStatement 108 = .ok (.aload_n 1, 1) := by decide +kernel
theorem dX8_forStatement_109 : decode cX8_forStatement 109 = .ok (.aload_n 0, 1) := by decide +kernel
theorem dX8_forStatement_110 : decode cX8_forStatement 110 = .ok (.iconst 1, 1) := by decide +kernel
theorem dX8_forStatement_111 : decode cX8_forStatement 111 = .ok (.invokevirtual 218, 3) := by decide +kernel
theorem dX8_forStatement_114 : decode cX8_forStatement 114 = .ok (.putfield 236, 3) := by decide +kernel
theorem dX8_forStatement_18 : decode cX8_forStatement 18 = .ok (.aload_n 0, 1) := by decide +kernel
theorem dX8_forStatement_19 : decode cX8_forStatement 19 = .ok (.dup, 1) := by decide +kernel
theorem dX8_forStatement_20 : decode cX8_forStatement 20 = .ok (.getfield 17, 3) := by decide +kernel
theorem dX8_forStatement_23 : decode cX8_forStatement 23 = .ok (.iconst 1, 1) := by decide +kernel
theorem dX8_forStatement_24 : decode cX8_forStatement 24 = .ok (.iadd, 1) := by decide +kernel
theorem dX8_forStatement_25 : decode cX8_forStatement 25 = .ok (.putfield 17, 3) := by decide +kernel
theorem dX8_forStatement_28 : decode cX8_forStatement 28 = .ok (.aload_n 0, 1) := by decide +kernel
theorem dX8_forStatement_29 : decode cX8_forStatement 29 = .ok (.bipush 34, 2) := by decide +kernel
theorem dX8_forStatement_31 : decode cX8_forStatement 31 = .ok (.invokevirtual 53, 3) := by decide +kernel
theorem dX8_forStatement_34 : decode cX8_forStatement 34 = .ok (.pop, 1) := by decide +kernel
theorem dX8_forStatement_35 : decode cX8_forStatement 35 = .ok (.aload_n 0, 1) := by decide +kernel
theorem dX8_forStatement_36 : decode cX8_forStatement 36 = .ok (.bipush 38, 2) := by decide +kernel
theorem dX8_forStatement_38 : decode cX8_forStatement 38 = .ok (.invokevirtual 36, 3) := by decide +kernel
theorem dX8_forStatement_41 : decode cX8_forStatement 41 = .ok (.ifCond .ne 27, 3) := by decide +kernel
theorem dX8_forStatement_68 : decode cX8_forStatement 68 = .ok (.aload_n 0, 1) := by decide +kernel
theorem dX8_forStatement_69 : decode cX8_forStatement 69 = .ok (.bipush 38, 2) := by decide +kernel
theorem dX8_forStatement_71 : decode cX8_forStatement 71 = .ok (.invokevirtual 53, 3) := by decide +kernel
theorem dX8_forStatement_74 : decode cX8_forStatement 74 = .ok (.pop, 1) := by decide +kernel
theorem dX8_forStatement_75 : decode cX8_forStatement 75 = .ok (.aload_n 0, 1) := by decide +kernel
theorem dX8_forStatement_76 : decode cX8_forStatement 76 = .ok (.bipush 38, 2) := by decide +kernel
theorem dX8_forStatement_78 : decode cX8_forStatement 78 = .ok (.invokevirtual 36, 3) := by decide +kernel
theorem dX8_forStatement_81 : decode cX8_forStatement 81 = .ok (.ifCond .ne 11, 3) := by decide +kernel
theorem dX8_forStatement_84 : decode cX8_forStatement 84 = .ok (.aload_n 1, 1) := by decide +kernel
theorem dX8_forStatement_85 : decode cX8_forStatement 85 = .ok (.aload_n 0, 1) := by decide +kernel
theorem dX8_forStatement_86 : decode cX8_forStatement 86 = .ok (.invokevirtual 196, 3) := by decide +kernel
theorem dX8_forStatement_89 : decode cX8_forStatement 89 = .ok (.putfield 230, 3) := by decide +kernel
theorem dX8_forStatement_44 : decode cX8_forStatement 44 = .ok (.aload_n 1, 1) := by decide +kernel
theorem dX8_forStatement_45 : decode cX8_forStatement 45 = .ok (.aload_n 0, 1) := by decide +kernel
theorem dX8_forStatement_46 : decode cX8_forStatement 46 = .ok (.invokevirtual 174, 3) := by decide +kernel
theorem dX8_forStatement_49 : decode cX8_forStatement 49 = .ok (.ifCond .eq 11, 3) := by decide +kernel
theorem dX8_forStatement_60 : decode cX8_forStatement 60 = .ok (.aload_n 0, 1) := by decide +kernel
theorem dX8_forStatement_61 : decode cX8_forStatement 61 = .ok (.iconst 0, 1) := by decide +kernel
theorem dX8_forStatement_62 : decode cX8_forStatement 62 = .ok (.invokevirtual 218, 3) := by decide +kernel
theorem dX8_forStatement_65 : decode cX8_forStatement 65 = .ok (.putfield 165, 3) := by decide +kernel
theorem dX8_forStatement_52 : decode cX8_forStatement 52 = .ok (.aload_n 0, 1) := by decide +kernel
theorem dX8_forStatement_53 : decode cX8_forStatement 53 = .ok (.iconst 0, 1) := by decide +kernel
theorem dX8_forStatement_54 : decode cX8_forStatement 54 = .ok (.invokevirtual 183, 3) := by decide +kernel
theorem dX8_forStatement_57 : decode cX8_forStatement 57 = .ok (.goto 8, 3) := by decide +kernel
theorem hV_X8_simple : yX8_simple.cls = RX8 ∧ yX8_simple.cls ≠ "java/lang/invoke/MethodHandle" ∧ yX8_simple.cls ≠ "java/lang/invoke/VarHandle" ∧ (parseMethodDescriptor yX8_simple.desc).map (fun d => d.parameters.length) = some 1 := by decide +kernel
theorem hV_X8_beginsLocal : yX8_beginsLocal.cls = RX8 ∧ yX8_beginsLocal.cls ≠ "java/lang/invoke/MethodHandle" ∧ yX8_beginsLocal.cls ≠ "java/lang/invoke/VarHandle" ∧ (parseMethodDescriptor yX8_beginsLocal.desc).map (fun d => d.parameters.length) = some 0 := by decide +kernel
theorem hV_X8_local : yX8_local.cls = RX8 ∧ yX8_local.cls ≠ "java/lang/invoke/MethodHandle" ∧ yX8_local.cls ≠ "java/lang/invoke/VarHandle" ∧ (parseMethodDescriptor yX8_local.desc).map (fun d => d.parameters.length) = some 1 := by decide +kernel
set_option maxHeartbeats 60000000 in
set_option maxRecDepth 100000 in
theorem P_for (l : Launch) (G : pT) (h0 : Nat) (a : Nat → Nat) (F : Nat → Int32) (R : Nat → Value) (Z : Int64) (B : Nat → Nat → Int32) (J : Nat → Nat → Int64) (K : PK) (w : va_W) (n : Nat) (at9 : Nat) (sz : Nat) (dp : Nat) (sg : Nat) (O : Nat) (g : Nat → Nat → Nat) (hsz : sz ≤ 5000) (hat : at9 ≤ sz) (hdp : dp + n = 20) (hsg : sg ≤ 60) (hwn : WN K g) (how : ∀ o : Nat, O = o + 1 → K.1 o = 1 ∧ g 0 o = 0 ∧ ¬ K.2.1 0 o = 32) (hle : at9 + 1 ≤ sz) (ist : PSt l G n) (hO : OKP G h0 a (upd (upd (upd (upd F 2 (nI sz)) 9 (nI at9)) 10 (nI dp)) 11 (nI sg)) R Z B J K w) (hl0 : l.stackTraces = false) : PBn l G pX0 yX8_forStatement cX8_forStatement 2 (some (.object "JinjaTongue$Node")) ({ frames := (50 * n + 58), cells := (2 * (sz - at9) + 20), slots := (11 * (2 * (sz - at9) + 20)), locals := (1500 * n + 1650) }) [.ref (a 3)] w (fun (v : Option Value) (u : va_W × (Nat × PK × (Nat → Nat → Nat) × Nat × Nat × (Nat → Int32) × Nat)) => v = some (.ref u.2.1) ∧ (NwR K u.2.2.1 g u.2.2.2.1 u.2.1 O u.2.2.2.2.2.2.2 ((173 + 3 * (20 - dp)))) ∧ (at9 + 6 ≤ u.2.2.2.2.1 ∧ u.2.2.2.2.1 ≤ sz) ∧ (sg ≤ u.2.2.2.2.2.1 ∧ u.2.2.2.2.2.1 ≤ 60) ∧ (rS u.2.2.2.2.2.2.2 = at9 ∧ rE u.2.2.2.2.2.2.2 ≤ u.2.2.2.2.1 ∧ rS u.2.2.2.2.2.2.2 ≤ rE u.2.2.2.2.2.2.2) ∧ (OKP G h0 a (upd (upd (upd (upd F 2 (nI sz)) 9 (nI u.2.2.2.2.1)) 10 (nI dp)) 11 (nI u.2.2.2.2.2.1)) R Z (updA B 10 u.2.2.2.2.2.2.1) J u.2.2.1 u.1)) (fun u => u.1) (fun (u : va_W × (Nat × PK × (Nat → Nat → Nat) × Nat × Nat × (Nat → Int32) × Nat)) => (2 * (u.2.2.2.2.1 - at9) - 6)) (fun (u : va_W × (Nat × PK × (Nat → Nat → Nat) × Nat × Nat × (Nat → Int32) × Nat)) => (11 * (2 * (u.2.2.2.2.1 - at9) - 6))) (fun (u : va_W × (Nat → Int32) × (Nat → Value) × (Nat → Nat → Int32)) => ThQ G h0 a (upd (upd (upd (upd F 2 (nI sz)) 9 (nI at9)) 10 (nI dp)) 11 (nI sg)) R Z B J u) (fun u => u.1) := by
  intro sz
  refine vx_ofW (cc := cX8_forStatement) (maxL := 2) (ret := (some (.object "JinjaTongue$Node"))) (by decide) rfl ?_
  intro p e s m args below meth c s₁ B9 hml hnt hv
  obtain ⟨rfl, hsz, hP, hD0, hE, hX⟩ := hv
  have hx := B9.exec
  have hb := B9.bytes
  have hr := B9.returns
  have hts := atoms_spec (ws := Cond.code yX8_forStatement cX8_forStatement 2 (some (.object "JinjaTongue$Node")) :: pw) B9.pre
  have hq : ∀ w ∈ pw, w.before _ s = true := fun w h => hts w (List.mem_cons_of_mem _ h)
  have hown : s.vm.findClass RX8 = some m.cls := findClass_of_methodNamed B9.named
  have hlocks := B9.notSynchronized
  subst hsz
  have hD := hD0.self (sz := s.heap.size)
  have hA : ∀ q : Nat, s.heap.size ≤ q → va_A w s.heap.size q := fun q h => Or.inr h
  generalize va_A w s.heap.size = A at hD hE hA ⊢
  have hS : va_S A s.heap s.heap [] := va_S.rf
  have hl := lv_entry ([.ref (a 3)]) (n := 2) (Nat.le_of_ble_eq_true rfl)
  rw [lg_entry_eq]
  generalize (lg_sl ([.ref (a 3)]) ++ List.replicate (2 - (lg_sl ([.ref (a 3)])).length) Slot.unset).toArray = ls at hl ⊢
  have hl : lv_has ls 2 [(0, .ref (a 3))] := hl
  have hns0 : NwS K K g g := NwS.nil hwn
  refine p_new (s9 := 1) (C := RX7) (T := TX7) (N := 11) (ci := 13) (fs := [.int 0, .int 0, .int 0, .int 0, .int 0, .int 0, .null, .null, .null, .null, .null]) hx hb hq pin_wsX70 tyX7 tyX7_ok hown (hq _ pw_870) (hq _ pw_871) (hq _ pw_872) hE hP hD hS hA hO rfl nw_X7 (by decide) (fun q => by rw [rep_1 (show (kN K q 1 0).1 q = 1 from if_pos rfl)]; unfold fsNode kN; simp only [if_true]; rfl) (by show 0 + 1 ≤ (2 * (sz - at9) + 20); omega) (by show 0 + 11 ≤ (11 * (2 * (sz - at9) + 20)); omega) dX8_forStatement_0 (fun q1 H w hq2 hP hD hS hO => ?_)
  have hf3 : (kN K q1 1 0).1 q1 = 1 := if_pos rfl
  refine W.widen (k := 1) (n := 11) (by show 0 + 1 ≤ 1; omega) (by show 0 + 11 ≤ 11; omega) ?_
  refine lv_dup hx hb dX8_forStatement_3 rfl ?_
  refine lv_bipush (v := 27) hx hb dX8_forStatement_4 (by decide) ?_
  refine lv_aload_n hx hb dX8_forStatement_6 rfl (lv_at hl 0 rfl) ?_
  refine c_get (v := .int (nI at9)) (C := RX8) (Tc := TX8) (N := 5) (ci := 5) hx hb hq pin_wsX80 hown hE hP hO 23 (sg_23 G h0 a _ _ _ _ _) rfl 2 (by decide) (hq _ pw_776) (fun _ h9 => h9) rfl dX8_forStatement_7 ?_
  refine lv_aload_n hx hb dX8_forStatement_10 rfl (lv_at hl 0 rfl) ?_
  refine c_get (v := .int (nI at9)) (C := RX8) (Tc := TX8) (N := 5) (ci := 5) hx hb hq pin_wsX80 hown hE hP hO 23 (sg_23 G h0 a _ _ _ _ _) rfl 2 (by decide) (hq _ pw_776) (fun _ h9 => h9) rfl dX8_forStatement_11 ?_
  have hO : OKP G h0 a (upd (upd (upd (upd F 2 (nI sz)) 9 (nI at9)) 10 (nI dp)) 11 (nI sg)) R Z B J (kN K q1 1 0) w := hO.to rfl
  obtain ⟨qr7, hqr8⟩ := p_recv hO (by rw [hf3]; decide) (rep_1 hf3)
  refine pc_I0 (G := G) (As := [.int 27, .int (nI at9), .int (nI at9)]) (rest := [.ref q1]) hx hb hml hown hq hE hX pX0_al hP hD hS hA hl.1 (N_init l G h0 a (upd (upd (upd (upd F 2 (nI sz)) 9 (nI at9)) 10 (nI dp)) 11 (nI sg)) R Z B J (kN K q1 1 0) w q1 27 (nI at9) (nI at9) (by omega) hO) pw_874 pw_875 pw_872 pw_765 rfl hS_X7_init rfl (Nat.le_of_ble_eq_true rfl) dX8_forStatement_14 ⟨(by show 1 + 0 ≤ (2 * (sz - at9) + 20); omega), (by show 11 + 0 ≤ (11 * (2 * (sz - at9) + 20)); omega)⟩ ⟨(by show 2 + 1 ≤ (50 * n + 58); omega), (by show 8 + (4 + 11) + 60 ≤ (1500 * n + 1650); omega)⟩ (fun v6 u4 H locs hw5 hP hD hS => ?_)
  obtain ⟨w, _⟩ := u4
  obtain ⟨hw5, hO⟩ := hw5
  obtain rfl : v6 = none := hw5
  have hf9 : (kI (kI (kI (kN K q1 1 0) 0 q1 27) 1 q1 (nI at9)) 2 q1 (nI at9)).1 q1 = 1 := hf3
  have hO : OKP G h0 a (upd (upd (upd (upd F 2 (nI sz)) 9 (nI at9)) 10 (nI dp)) 11 (nI sg)) R Z B J (kI (kI (kI (kN K q1 1 0) 0 q1 27) 1 q1 (nI at9)) 2 q1 (nI at9)) w := hO.to rfl
  refine W.widen (k := 1) (n := 11) (by show 1 + 0 ≤ 1; omega) (by show 11 + 0 ≤ 11; omega) ?_
  refine W.eq (g2 := F0 m 17 ls [.ref q1]) rfl ?_
  change OKP G h0 a (upd (upd (upd (upd F 2 (nI sz)) 9 (nI at9)) 10 (nI dp)) 11 (nI sg)) R Z B J (mkN K q1 27 (nI at9) (nI at9)) w at hO
  obtain ⟨K10, hK11⟩ : ∃ z : PK, z = (mkN K q1 27 (nI at9) (nI at9)) := ⟨_, rfl⟩
  rw [← hK11] at hO
  have hf12 : K10.1 q1 = 1 := by rw [hK11]; exact mkN_T
  have hf13 : K10.2.1 0 q1 = 27 := by rw [hK11]; exact mkN_0
  have hf14 : K10.2.1 2 q1 = (nI at9) := by rw [hK11]; exact mkN_2
  have hf15 : K10.2.2.1 0 q1 = none := by rw [hK11]; exact mkN_C
  have hf16 : K10.2.2.1 1 q1 = none := by rw [hK11]; exact mkN_C
  have hf17 : K10.2.2.1 2 q1 = none := by rw [hK11]; exact mkN_C
  have hf18 : K10.2.2.1 3 q1 = none := by rw [hK11]; exact mkN_C
  have hf19 : K10.2.2.1 4 q1 = none := by rw [hK11]; exact mkN_C
  have hns20 : NwS K K10 g (gset g q1 0 0 0) := by rw [hK11]; exact NwS.node hns0 hq2
  have hq21 : K.1 q1 = 0 := old_T hns0.2.1 hq2
  have hg22 : (gset g q1 0 0 0) 0 q1 = 0 := gset_0
  have hno23 : NoO K10 (gset g q1 0 0 0) q1 := by rw [hK11]; exact NoO.new hns0.1 hq2
  refine lv_astore_n (lv' := [(1, .ref q1), (0, .ref (a 3))]) hx hb dX8_forStatement_17 rfl hl (by decide) rfl (fun ls hl => ?_)
  have cut_j : ∀ (at2 : Nat) (sg2 : Nat) (f2 : Nat → Int32) (K2 : PK) (g2 : Nat → Nat → Nat) (q2 : Nat) (oa : Option Nat) (ob : Option Nat) (H : Heap) (locs : List Loc) (ls : Array Slot) (w : va_W), (at9 + 3 ≤ at2 ∧ at2 ≤ sz) → (sg ≤ sg2 ∧ sg2 ≤ 60) → (NwS K K2 g g2) → (K.1 q2 = 0) → (K2.1 q2 = 1) → (g2 0 q2 = 0) → (NoO K2 g2 q2) → (K2.2.1 0 q2 = 27) → (K2.2.2.1 0 q2 = oa) → (K2.2.2.1 1 q2 = ob) → (K2.2.2.1 2 q2 = none) → (K2.2.2.1 3 q2 = none) → (K2.2.2.1 4 q2 = none) → (KdO K2 g2 oa (173 + 3 * (20 - dp))) → (KdO K2 g2 ob (173 + 3 * (20 - dp))) → (KdI g2 oa (at9 + 1) at2) → va_P G.1 pCl w H → va_D A w → va_S A s.heap H locs → OKP G h0 a (upd (upd (upd (upd F 2 (nI sz)) 9 (nI at2)) 10 (nI dp)) 11 (nI sg2)) R Z (updA B 10 f2) J K2 w → lv_has ls 2 [(1, .ref q2), (0, .ref (a 3))] → W p l e (headSpec (Cond.code yX8_forStatement cX8_forStatement 2 (some (.object "JinjaTongue$Node")) :: pw) ({ frames := (50 * n + 58), cells := (2 * (sz - at9) + 20), slots := (11 * (2 * (sz - at9) + 20)), locals := (1500 * n + 1650) } : Room)).room s m ([.ref (a 3)] : List Value).toArray below meth c H locs (2 * (at2 - at9) - 4) (11 * (2 * (at2 - at9) - 4)) (vx_MQ below (pQn G A (fun (v : Option Value) (u : va_W × (Nat × PK × (Nat → Nat → Nat) × Nat × Nat × (Nat → Int32) × Nat)) => v = some (.ref u.2.1) ∧ (NwR K u.2.2.1 g u.2.2.2.1 u.2.1 O u.2.2.2.2.2.2.2 ((173 + 3 * (20 - dp)))) ∧ (at9 + 6 ≤ u.2.2.2.2.1 ∧ u.2.2.2.2.1 ≤ sz) ∧ (sg ≤ u.2.2.2.2.2.1 ∧ u.2.2.2.2.2.1 ≤ 60) ∧ (rS u.2.2.2.2.2.2.2 = at9 ∧ rE u.2.2.2.2.2.2.2 ≤ u.2.2.2.2.1 ∧ rS u.2.2.2.2.2.2.2 ≤ rE u.2.2.2.2.2.2.2) ∧ (OKP G h0 a (upd (upd (upd (upd F 2 (nI sz)) 9 (nI u.2.2.2.2.1)) 10 (nI dp)) 11 (nI u.2.2.2.2.2.1)) R Z (updA B 10 u.2.2.2.2.2.2.1) J u.2.2.1 u.1)) (fun u => u.1) (fun (u : va_W × (Nat × PK × (Nat → Nat → Nat) × Nat × Nat × (Nat → Int32) × Nat)) => (2 * (u.2.2.2.2.1 - at9) - 6)) (fun (u : va_W × (Nat × PK × (Nat → Nat → Nat) × Nat × Nat × (Nat → Int32) × Nat)) => (11 * (2 * (u.2.2.2.2.1 - at9) - 6)))) (pXX G A (fun (u : va_W × (Nat → Int32) × (Nat → Value) × (Nat → Nat → Int32)) => ThQ G h0 a (upd (upd (upd (upd F 2 (nI sz)) 9 (nI at9)) 10 (nI dp)) 11 (nI sg)) R Z B J u) (fun u => u.1)) ([.ref (a 3)] : List Value).toArray s ({ frames := (50 * n + 58), cells := (2 * (sz - at9) + 20), slots := (11 * (2 * (sz - at9) + 20)), locals := (1500 * n + 1650) } : Room).cells ({ frames := (50 * n + 58), cells := (2 * (sz - at9) + 20), slots := (11 * (2 * (sz - at9) + 20)), locals := (1500 * n + 1650) } : Room).slots A) (F0 m 92 ls []) := by
    intro at2 sg2 f2 K2 g2 q2 oa ob H locs ls w hat2 hsg2 hns2 hq20 hq2 hg20 hno2 hkd2 hc20 hc21 hc22 hc23 hc24 hoa hob hia hP hD hS hO hl
    refine lv_aload_n hx hb dX8_forStatement_92 rfl (lv_at hl 1 rfl) ?_
    refine lv_bipush (v := 38) hx hb dX8_forStatement_93 (by decide) ?_
    have hO : OKW G h0 a (upd (upd (upd (upd (upd (upd (upd (upd F 2 (nI sz)) 9 (nI at9)) 10 (nI dp)) 11 (nI sg)) 9 (nI at2)) 11 (nI sg2)) 2 (nI sz)) 9 (nI at2)) R Z (updA B 10 f2) J K2.1 (fun q99 x99 => x99 = rep G a K2 q99) w := hO.to rfl
    obtain ⟨_, qr27, hqr28⟩ := hO.2.1 23 _ (sg_23 G h0 a _ _ _ _ _)
    refine pn_V0 (G := G) (As := [.int 38]) (rest := []) hx hb hml hown hq hE hX pX0_al hP hD hS hA hl.1 (P_take l G h0 a (upd (upd (upd (upd (upd (upd F 2 (nI sz)) 9 (nI at9)) 10 (nI dp)) 11 (nI sg)) 9 (nI at2)) 11 (nI sg2)) R Z (updA B 10 f2) J K2.1 (fun q99 x99 => x99 = rep G a K2 q99) w 38 at2 sz (by omega) (by omega) (by decide) hO hl0) (gV pw_793 pw_794 pw_795 pw_796 pw_781) hV_X8_take qr27 5 hqr28 rfl rfl rfl (Nat.le_of_ble_eq_true rfl) dX8_forStatement_95 ⟨(by show (2 * (at2 - at9) - 4) + 1 ≤ (2 * (sz - at9) + 20); omega), (by show (11 * (2 * (at2 - at9) - 4)) + 6 ≤ (11 * (2 * (sz - at9) + 20)); omega)⟩ ⟨(by show 7 + 1 ≤ (50 * n + 58); omega), (by show 8 + (2 + 11) + 122 ≤ (1500 * n + 1650); omega)⟩ (fun v26 u24 H locs hw25 hP hD hS => ?_) (fun ux ce9 q9 H9 locs9 hux hP9 hD9 hS9 hce hcv hcl => pb_out ux (ThQ.up (Thx.same (Thx.same (Thx.b (Thx.f (Thx.f Thx.rfl (by omega)) (by omega)) (by omega) (by decide)) rfl) rfl) RhX.rfl hux) hnt hlocks hce hcv hcl hP9 hD9 hS9 (by show (2 * (at2 - at9) - 4) + 1 ≤ (2 * (sz - at9) + 20); omega) (by show (11 * (2 * (at2 - at9) - 4)) + 6 ≤ (11 * (2 * (sz - at9) + 20)); omega))
    obtain ⟨w, _⟩ := u24
    obtain ⟨hw25, h29, hO⟩ := hw25
    have h29 : at2 + 1 ≤ sz := h29
    obtain rfl : v26 = some (.int (nI at2)) := hw25
    have hO : OKP G h0 a (upd (upd (upd (upd F 2 (nI sz)) 9 (nI (at2 + 1))) 10 (nI dp)) 11 (nI sg2)) R Z (updA B 10 f2) J K2 w := hO.to rfl
    refine W.widen (k := (2 * (at2 - at9) - 4)) (n := (11 * (2 * (at2 - at9) - 4))) (by show (2 * (at2 - at9) - 4) + 0 ≤ (2 * (at2 - at9) - 4); omega) (by show (11 * (2 * (at2 - at9) - 4)) + 0 ≤ (11 * (2 * (at2 - at9) - 4)); omega) ?_
    refine W.eq (g2 := F0 m 98 ls [.int (nI at2)]) rfl ?_
    refine lv_pop hx hb dX8_forStatement_98 rfl ?_
    refine lv_aload_n hx hb dX8_forStatement_99 rfl (lv_at hl 1 rfl) ?_
    refine lv_bipush (v := 35) hx hb dX8_forStatement_100 (by decide) ?_
    have hO : OKW G h0 a (upd (upd (upd (upd (upd (upd F 2 (nI sz)) 9 (nI (at2 + 1))) 10 (nI dp)) 11 (nI sg2)) 2 (nI sz)) 9 (nI (at2 + 1))) R Z (updA B 10 f2) J K2.1 (fun q99 x99 => x99 = rep G a K2 q99) w := hO.to rfl
    obtain ⟨_, qr33, hqr34⟩ := hO.2.1 23 _ (sg_23 G h0 a _ _ _ _ _)
    refine pc_V0 (G := G) (As := [.int 35]) (rest := []) hx hb hml hown hq hE hX pX0_al hP hD hS hA hl.1 (P_sees l G h0 a (upd (upd (upd (upd F 2 (nI sz)) 9 (nI (at2 + 1))) 10 (nI dp)) 11 (nI sg2)) R Z (updA B 10 f2) J K2.1 (fun q99 x99 => x99 = rep G a K2 q99) w 35 (at2 + 1) sz (by omega) (by omega) hO) (gV pw_803 pw_804 pw_805 pw_796 pw_775) hV_X8_sees qr33 5 hqr34 rfl rfl rfl (Nat.le_of_ble_eq_true rfl) dX8_forStatement_102 ⟨(by show (2 * (at2 - at9) - 4) + 0 ≤ (2 * (sz - at9) + 20); omega), (by show (11 * (2 * (at2 - at9) - 4)) + 0 ≤ (11 * (2 * (sz - at9) + 20)); omega)⟩ ⟨(by show 3 + 1 ≤ (50 * n + 58); omega), (by show 8 + (2 + 11) + 81 ≤ (1500 * n + 1650); omega)⟩ (fun v32 u30 H locs hw31 hP hD hS => ?_)
    obtain ⟨w, r35⟩ := u30
    obtain ⟨hw31, h36, hO⟩ := hw31
    have h36 : r35 ≤ 1 := h36
    obtain rfl : v32 = some (.int (nI r35)) := hw31
    have hO : OKP G h0 a (upd (upd (upd (upd F 2 (nI sz)) 9 (nI (at2 + 1))) 10 (nI dp)) 11 (nI sg2)) R Z (updA B 10 f2) J K2 w := hO.to rfl
    refine W.widen (k := (2 * (at2 - at9) - 4)) (n := (11 * (2 * (at2 - at9) - 4))) (by show (2 * (at2 - at9) - 4) + 0 ≤ (2 * (at2 - at9) - 4); omega) (by show (11 * (2 * (at2 - at9) - 4)) + 0 ≤ (11 * (2 * (at2 - at9) - 4)); omega) ?_
    refine W.eq (g2 := F0 m 105 ls [.int (nI r35)]) rfl ?_
    refine lv_if_ne (tgt := 117) hx hb dX8_forStatement_105 (by decide) (fun c37 => ?_) (fun c37 => ?_)
    · have n38 : ¬ (r35 = 0) := fun h9 => c37 ((nI_eq (a := r35) (b := 0) (by omega) (by omega)).mpr h9)
      refine lv_aload_n hx hb dX8_forStatement_117 rfl (lv_at hl 1 rfl) ?_
      refine lv_bipush (v := 35) hx hb dX8_forStatement_118 (by decide) ?_
      have hO : OKW G h0 a (upd (upd (upd (upd (upd (upd (upd (upd F 2 (nI sz)) 9 (nI at9)) 10 (nI dp)) 11 (nI sg)) 9 (nI (at2 + 1))) 11 (nI sg2)) 2 (nI sz)) 9 (nI (at2 + 1))) R Z (updA B 10 f2) J K2.1 (fun q99 x99 => x99 = rep G a K2 q99) w := hO.to rfl
      obtain ⟨_, qr42, hqr43⟩ := hO.2.1 23 _ (sg_23 G h0 a _ _ _ _ _)
      refine pn_V0 (G := G) (As := [.int 35]) (rest := []) hx hb hml hown hq hE hX pX0_al hP hD hS hA hl.1 (P_take l G h0 a (upd (upd (upd (upd (upd (upd F 2 (nI sz)) 9 (nI at9)) 10 (nI dp)) 11 (nI sg)) 9 (nI (at2 + 1))) 11 (nI sg2)) R Z (updA B 10 f2) J K2.1 (fun q99 x99 => x99 = rep G a K2 q99) w 35 (at2 + 1) sz (by omega) (by omega) (by decide) hO hl0) (gV pw_793 pw_794 pw_795 pw_796 pw_781) hV_X8_take qr42 5 hqr43 rfl rfl rfl (Nat.le_of_ble_eq_true rfl) dX8_forStatement_120 ⟨(by show (2 * (at2 - at9) - 4) + 1 ≤ (2 * (sz - at9) + 20); omega), (by show (11 * (2 * (at2 - at9) - 4)) + 6 ≤ (11 * (2 * (sz - at9) + 20)); omega)⟩ ⟨(by show 7 + 1 ≤ (50 * n + 58); omega), (by show 8 + (2 + 11) + 122 ≤ (1500 * n + 1650); omega)⟩ (fun v41 u39 H locs hw40 hP hD hS => ?_) (fun ux ce9 q9 H9 locs9 hux hP9 hD9 hS9 hce hcv hcl => pb_out ux (ThQ.up (Thx.same (Thx.same (Thx.b (Thx.f (Thx.f Thx.rfl (by omega)) (by omega)) (by omega) (by decide)) rfl) rfl) RhX.rfl hux) hnt hlocks hce hcv hcl hP9 hD9 hS9 (by show (2 * (at2 - at9) - 4) + 1 ≤ (2 * (sz - at9) + 20); omega) (by show (11 * (2 * (at2 - at9) - 4)) + 6 ≤ (11 * (2 * (sz - at9) + 20)); omega))
      obtain ⟨w, _⟩ := u39
      obtain ⟨hw40, h44, hO⟩ := hw40
      have h44 : (at2 + 1) + 1 ≤ sz := h44
      obtain rfl : v41 = some (.int (nI (at2 + 1))) := hw40
      have hO : OKP G h0 a (upd (upd (upd (upd F 2 (nI sz)) 9 (nI ((at2 + 1) + 1))) 10 (nI dp)) 11 (nI sg2)) R Z (updA B 10 f2) J K2 w := hO.to rfl
      refine W.widen (k := (2 * (at2 - at9) - 4)) (n := (11 * (2 * (at2 - at9) - 4))) (by show (2 * (at2 - at9) - 4) + 0 ≤ (2 * (at2 - at9) - 4); omega) (by show (11 * (2 * (at2 - at9) - 4)) + 0 ≤ (11 * (2 * (at2 - at9) - 4)); omega) ?_
      refine W.eq (g2 := F0 m 123 ls [.int (nI (at2 + 1))]) rfl ?_
      refine lv_pop hx hb dX8_forStatement_123 rfl ?_
      refine lv_aload_n hx hb dX8_forStatement_124 rfl (lv_at hl 0 rfl) ?_
      refine lv_aload_n hx hb dX8_forStatement_125 rfl (lv_at hl 1 rfl) ?_
      refine lv_iconst (v := 0) hx hb dX8_forStatement_126 (by decide) ?_
      have hO : OKP G h0 a (upd (upd (upd (upd (upd (upd (upd (upd (upd (upd F 2 (nI sz)) 9 (nI at9)) 10 (nI dp)) 11 (nI sg)) 9 (nI ((at2 + 1) + 1))) 11 (nI sg2)) 2 (nI sz)) 9 (nI ((at2 + 1) + 1))) 10 (nI dp)) 11 (nI sg2)) R Z (updA B 10 f2) J K2 w := hO.to rfl
      obtain ⟨_, qr48, hqr49⟩ := hO.2.1 23 _ (sg_23 G h0 a _ _ _ _ _)
      refine pn_V0 (G := G) (As := [.int (nI 0)]) (rest := [.ref q2]) hx hb hml hown hq hE hX pX0_al hP hD hS hA hl.1 (ist h0 a (upd (upd (upd (upd (upd (upd F 2 (nI sz)) 9 (nI at9)) 10 (nI dp)) 11 (nI sg)) 9 (nI ((at2 + 1) + 1))) 11 (nI sg2)) R Z (updA B 10 f2) J K2 w 0 ((at2 + 1) + 1) sz dp sg2 0 g2 (by omega) (by omega) hdp (by omega) hns2.1 (fun o9 h9 => absurd h9 (by omega)) (by omega) hO hl0) (gV pw_1003 pw_1004 pw_1005 pw_796 pw_1025) hV_X8_statement qr48 5 hqr49 rfl rfl rfl (Nat.le_of_ble_eq_true rfl) dX8_forStatement_127 ⟨(by show (2 * (at2 - at9) - 4) + (2 * (sz - ((at2 + 1) + 1)) + 20) ≤ (2 * (sz - at9) + 20); omega), (by show (11 * (2 * (at2 - at9) - 4)) + (11 * (2 * (sz - ((at2 + 1) + 1)) + 20)) ≤ (11 * (2 * (sz - at9) + 20)); omega)⟩ ⟨(by show (50 * n + 50) + 1 ≤ (50 * n + 58); omega), (by show 8 + (5 + 11) + (1500 * n + 1500) ≤ (1500 * n + 1650); omega)⟩ (fun v47 u45 H locs hw46 hP hD hS => ?_) (fun ux ce9 q9 H9 locs9 hux hP9 hD9 hS9 hce hcv hcl => pb_out ux (ThQ.up (Thx.same (Thx.same (Thx.same (Thx.same (Thx.b (Thx.f (Thx.f Thx.rfl (by omega)) (by omega)) (by omega) (by decide)) rfl) rfl) rfl) rfl) RhX.rfl hux) hnt hlocks hce hcv hcl hP9 hD9 hS9 (by show (2 * (at2 - at9) - 4) + (2 * (sz - ((at2 + 1) + 1)) + 20) ≤ (2 * (sz - at9) + 20); omega) (by show (11 * (2 * (at2 - at9) - 4)) + (11 * (2 * (sz - ((at2 + 1) + 1)) + 20)) ≤ (11 * (2 * (sz - at9) + 20)); omega))
      obtain ⟨w, r50, K51, g52, at53, sg54, f55, k56⟩ := u45
      obtain ⟨hw46, h57, h58, h59, h60, hO⟩ := hw46
      have h57 : NwR K2 K51 g2 g52 r50 0 k56 ((170 + 3 * (20 - dp))) := h57
      have h58 : ((at2 + 1) + 1) + 1 ≤ at53 ∧ at53 ≤ sz := h58
      have h59 : sg2 ≤ sg54 ∧ sg54 ≤ 60 := h59
      have h60 : rS k56 = ((at2 + 1) + 1) ∧ rE k56 ≤ at53 ∧ rS k56 ≤ rE k56 := h60
      obtain rfl : v47 = some (.ref r50) := hw46
      have hf61 : K51.1 q2 = 1 := (((h57).2.1.1 q2 (by rw [hq2]; decide)).1).trans hq2
      have hf62 : K51.2.1 0 q2 = 27 := (((h57).2.1.1 q2 (by rw [hq2]; decide)).2.1 0).trans hkd2
      have hf63 : K51.2.2.1 2 q2 = none := (((h57).2.1.1 q2 (by rw [hq2]; decide)).2.2.1 2).trans hc22
      have hf64 : K51.2.2.1 3 q2 = none := (((h57).2.1.1 q2 (by rw [hq2]; decide)).2.2.1 3).trans hc23
      have hf65 : K51.2.2.1 4 q2 = none := (((h57).2.1.1 q2 (by rw [hq2]; decide)).2.2.1 4).trans hc24
      have hf66 : K51.2.2.1 0 q2 = oa := (((h57).2.1.1 q2 (by rw [hq2]; decide)).2.2.1 0).trans hc20
      have hf67 : K51.2.2.1 1 q2 = ob := (((h57).2.1.1 q2 (by rw [hq2]; decide)).2.2.1 1).trans hc21
      have hO : OKP G h0 a (upd (upd (upd (upd F 2 (nI sz)) 9 (nI at53)) 10 (nI dp)) 11 (nI sg54)) R Z (updA B 10 f55) J K51 w := hO.to rfl
      refine W.widen (k := ((2 * (at2 - at9) - 4) + (2 * (at53 - ((at2 + 1) + 1)) - 1))) (n := ((11 * (2 * (at2 - at9) - 4)) + (11 * (2 * (at53 - ((at2 + 1) + 1)) - 1)))) (by show (2 * (at2 - at9) - 4) + (2 * (at53 - ((at2 + 1) + 1)) - 1) ≤ ((2 * (at2 - at9) - 4) + (2 * (at53 - ((at2 + 1) + 1)) - 1)); omega) (by show (11 * (2 * (at2 - at9) - 4)) + (11 * (2 * (at53 - ((at2 + 1) + 1)) - 1)) ≤ ((11 * (2 * (at2 - at9) - 4)) + (11 * (2 * (at53 - ((at2 + 1) + 1)) - 1))); omega) ?_
      refine W.eq (g2 := F0 m 130 ls [.ref r50, .ref q2]) rfl ?_
      have hns68 : NwS K K51 g g52 := NwS.call hns2 h57 (fun o9 h9 => absurd h9 (by omega))
      have hf69 : K51.1 r50 = 1 := h57.2.2.1.2.1
      have hg70 : g52 0 q2 = 0 := (h57.2.1.2 q2 (by rw [hq2]; decide) 0).trans hg20
      have hno71 : NoO K51 g52 q2 := NoO.call hno2 h57 hq2 (by omega)
      have hrk72 : g52 2 r50 = k56 := h57.2.2.1.2.2.2.2.2.1
      have hgy73 := h57.2.2.1
      have hgy73a := hgy73.2.2.1
      have hgy73b := hgy73.2.2.2.1
      have hka74 := KdO.ext hoa h57.2.1
      have hkb75 := KdO.ext hob h57.2.1
      have hki76 := KdI.ext hia hoa h57.2.1
      refine p_put (v := .ref r50) (ty := (.object "JinjaTongue$Node")) (C := RX7) (Tc := TX7) (N := 11) (ci := 13) (K' := (kC K51 3 q2 (some r50))) hx hb hq pin_wsX70 tyX7 tyX7_ok nmX7 hown hE hP hD hS hO (by rw [hf61]; decide) (rep_1 hf61) rfl 9 (by decide) (hq _ pw_1011) (fun _ h9 => h9) rfl (by decide +kernel) rfl rfl (Nat.le_of_ble_eq_true rfl) rfl (by rw [rep_1 (show (kC K51 3 q2 (some r50)).1 q2 = 1 from hf61), pc_3] <;> rfl) (fun p9 hp9 => rep_kC hp9) dX8_forStatement_130 (fun H locs w hP hD hS hO => ?_)
      obtain ⟨K77, hK78⟩ : ∃ z : PK, z = (kC K51 3 q2 (some r50)) := ⟨_, rfl⟩
      rw [← hK78] at hO
      have hf79 : K77.1 q2 = 1 := (by rw [hK78]; exact hf61)
      have hf80 : K77.2.1 0 q2 = 27 := (by rw [hK78]; exact hf62)
      have hf81 : K77.2.2.1 2 q2 = none := (by rw [hK78]; exact (kC_of (by decide)).trans hf63)
      have hf82 : K77.2.2.1 4 q2 = none := (by rw [hK78]; exact (kC_of (by decide)).trans hf65)
      have hf83 : K77.2.2.1 0 q2 = oa := (by rw [hK78]; exact (kC_of (by decide)).trans hf66)
      have hf84 : K77.2.2.1 1 q2 = ob := (by rw [hK78]; exact (kC_of (by decide)).trans hf67)
      have hf85 : K77.1 r50 = 1 := (by rw [hK78]; exact hf69)
      have hf86 : K77.2.2.1 3 q2 = some r50 := by rw [hK78]; exact kC_eq
      have hns87 : NwS K K77 g g52 := by rw [hK78]; exact NwS.put hns68 hq20 hg70
      have hno88 : NoO K77 g52 q2 := by rw [hK78]; exact hno71
      have hka89 : KdO K77 g52 oa (173 + 3 * (20 - dp)) := by rw [hK78]; exact hka74
      have hkb90 : KdO K77 g52 ob (173 + 3 * (20 - dp)) := by rw [hK78]; exact hkb75
      refine lv_aload_n hx hb dX8_forStatement_133 rfl (lv_at hl 0 rfl) ?_
      refine W_size (fun hz1 hz2 => ?_)
      refine vx_ret ?_
      have hkid : ∀ f9 y9 : Nat, f9 ≤ 3 → K77.2.2.1 f9 q2 = some y9 → K77.1 y9 = 1 ∧ 1 ≤ g52 0 y9 ∧ g52 0 y9 < (173 + 3 * (20 - dp)) := by
        intro f9 y9 hf9 hy9
        rcases (show f9 = 0 ∨ f9 = 1 ∨ f9 = 2 ∨ f9 = 3 by omega) with rfl | rfl | rfl | rfl
        · rw [hf83] at hy9; exact hka89 y9 hy9
        · rw [hf84] at hy9; exact hkb90 y9 hy9
        · rw [hf81] at hy9; cases hy9
        · rw [hf86] at hy9; cases hy9; exact ⟨hf85, by omega, by omega⟩
      obtain ⟨k9, hkI, hkS, hkE, hkM, hkN⟩ : ∃ z : Nat, Itv z ∧ rS z = at9 ∧ rE z = at53 ∧ rM z = at2 ∧ rN z = (rS k56) := ⟨rk at9 at53 at2 (rS k56), Itv.of (by omega), rS_rk (by omega), rE_rk (by omega), rM_rk (by omega), rN_rk (by omega)⟩
      have hkch9 : ∀ f9 y9 : Nat, f9 ≤ 3 → K77.2.2.1 f9 q2 = some y9 → Kch (K77.2.1 0 q2) f9 (K77.2.1 0 y9) k9 (g52 2 y9) := by
        intro f9 y9 hf9 hy9
        rw [hf80]
        rcases (show f9 = 0 ∨ f9 = 1 ∨ f9 = 2 ∨ f9 = 3 by omega) with rfl | rfl | rfl | rfl
        · rw [hf83] at hy9; have z9 := hki76 y9 hy9; exact Kch.k26 (by decide) (fun _ => (by omega)) (fun z => absurd z (by decide)) (fun z => absurd z (by decide))
        · exact Kch.k26 (by decide) (fun z => absurd z (by decide)) (fun z => absurd z (by decide)) (fun z => absurd z (by decide))
        · rw [hf81] at hy9; cases hy9
        · rw [hf86] at hy9; cases hy9; rw [hrk72]; exact Kch.k26 (by decide) (fun z => absurd z (by decide)) (fun z => absurd z (by decide)) (fun _ => (by omega))
      have hdn := NwS.done1I (q := q2) (L := (173 + 3 * (20 - dp))) (O := O) (k := k9) hns87 hq20 hf79 hg70 (by omega) hkI (by rw [hf80]; exact ⟨(fun z => absurd z (by decide)), (fun z => absurd z (by decide)), (fun z => absurd z (by decide)), (fun z => absurd z (by decide)), fun _ => (by show ¬ K77.2.2.1 3 q2 = none; rw [hf86]; intro z; cases z)⟩) (fun f9 z => by rw [hf80] at z; rcases z with ⟨z, _⟩ | ⟨z | z | z, _⟩ <;> exact absurd z (by decide)) hkid hf82 hno88 hkch9 how
      have hz91 : NwR K K77 g (gset g52 q2 (173 + 3 * (20 - dp)) O k9) q2 O k9 ((173 + 3 * (20 - dp))) := hdn
      have hz92 : at9 + 6 ≤ at53 ∧ at53 ≤ sz := (by omega)
      have hz93 : sg ≤ sg54 ∧ sg54 ≤ 60 := (by omega)
      have hz94 : rS k9 = at9 ∧ rE k9 ≤ at53 ∧ rS k9 ≤ rE k9 := (by omega)
      have hO : OKP G h0 a (upd (upd (upd (upd F 2 (nI sz)) 9 (nI at53)) 10 (nI dp)) 11 (nI sg54)) R Z (updA B 10 f55) J K77 w := hO.to rfl
      refine W.widen (k := (2 * (sz - at9) + 20)) (n := (11 * (2 * (sz - at9) + 20))) (by omega) (by omega) ?_
      have hzz1 : H.size ≤ s.heap.size + ((2 * (at53 - at9) - 6)) := (by have z : ((2 * (at2 - at9) - 4) + (2 * (at53 - ((at2 + 1) + 1)) - 1)) ≤ (2 * (at53 - at9) - 6) := (by omega); omega)
      have hzz2 : hSl H ≤ hSl s.heap + ((11 * (2 * (at53 - at9) - 6))) := (by have z : ((11 * (2 * (at2 - at9) - 4)) + (11 * (2 * (at53 - ((at2 + 1) + 1)) - 1))) ≤ (11 * (2 * (at53 - at9) - 6)) := (by omega); omega)
      exact W.aret (v := .ref q2) hx hb hr (Or.inl ⟨_, rfl⟩) (Or.inr ⟨_, rfl⟩) (fun t99 ht99 hW99 => ⟨⟨_, (w, (q2, K77, (gset g52 q2 (173 + 3 * (20 - dp)) O k9), at53, sg54, f55, k9)), rfl, ⟨rfl, hz91, hz92, hz93, hz94, hO⟩, by rw [ht99]; exact hP, hD, by rw [ht99]; exact hzz1, by rw [ht99]; exact hzz2⟩, hS.F ht99⟩) hS.2.2 dX8_forStatement_134
    · have n95 : r35 = 0 := (nI_eq (a := r35) (b := 0) (by omega) (by omega)).mp c37
      refine lv_aload_n hx hb dX8_forStatement_108 rfl (lv_at hl 0 rfl) ?_
      refine lv_aload_n hx hb dX8_forStatement_109 rfl (lv_at hl 1 rfl) ?_
      refine lv_iconst (v := 1) hx hb dX8_forStatement_110 (by decide) ?_
      have hO : OKP G h0 a (upd (upd (upd (upd (upd (upd (upd (upd (upd (upd F 2 (nI sz)) 9 (nI at9)) 10 (nI dp)) 11 (nI sg)) 9 (nI (at2 + 1))) 11 (nI sg2)) 2 (nI sz)) 9 (nI (at2 + 1))) 10 (nI dp)) 11 (nI sg2)) R Z (updA B 10 f2) J K2 w := hO.to rfl
      obtain ⟨_, qr99, hqr100⟩ := hO.2.1 23 _ (sg_23 G h0 a _ _ _ _ _)
      refine pn_V0 (G := G) (As := [.int (nI 1)]) (rest := [.ref q2]) hx hb hml hown hq hE hX pX0_al hP hD hS hA hl.1 (P_simple l G h0 a (upd (upd (upd (upd (upd (upd F 2 (nI sz)) 9 (nI at9)) 10 (nI dp)) 11 (nI sg)) 9 (nI (at2 + 1))) 11 (nI sg2)) R Z (updA B 10 f2) J K2 w 1 n (at2 + 1) sz dp sg2 0 g2 (by omega) (by omega) hdp (by omega) hns2.1 (fun o9 h9 => absurd h9 (by omega)) (by omega) hO hl0) (gV pw_1018 pw_1019 pw_1020 pw_796 pw_994) hV_X8_simple qr99 5 hqr100 rfl rfl rfl (Nat.le_of_ble_eq_true rfl) dX8_forStatement_111 ⟨(by show (2 * (at2 - at9) - 4) + (2 * (sz - (at2 + 1)) + 20) ≤ (2 * (sz - at9) + 20); omega), (by show (11 * (2 * (at2 - at9) - 4)) + (11 * (2 * (sz - (at2 + 1)) + 20)) ≤ (11 * (2 * (sz - at9) + 20)); omega)⟩ ⟨(by show (40 * n + 44) + 1 ≤ (50 * n + 58); omega), (by show 8 + (5 + 11) + (1300 * n + 1400) ≤ (1500 * n + 1650); omega)⟩ (fun v98 u96 H locs hw97 hP hD hS => ?_) (fun ux ce9 q9 H9 locs9 hux hP9 hD9 hS9 hce hcv hcl => pb_out ux (ThQ.up (Thx.same (Thx.same (Thx.same (Thx.same (Thx.b (Thx.f (Thx.f Thx.rfl (by omega)) (by omega)) (by omega) (by decide)) rfl) rfl) rfl) rfl) RhX.rfl hux) hnt hlocks hce hcv hcl hP9 hD9 hS9 (by show (2 * (at2 - at9) - 4) + (2 * (sz - (at2 + 1)) + 20) ≤ (2 * (sz - at9) + 20); omega) (by show (11 * (2 * (at2 - at9) - 4)) + (11 * (2 * (sz - (at2 + 1)) + 20)) ≤ (11 * (2 * (sz - at9) + 20)); omega))
      obtain ⟨w, r101, K102, g103, at104, sg105, f106, k107⟩ := u96
      obtain ⟨hw97, h108, h109, h110, h111, hO⟩ := hw97
      have h108 : NwR K2 K102 g2 g103 r101 0 k107 (168) := h108
      have h109 : (at2 + 1) + 1 ≤ at104 ∧ at104 ≤ sz := h109
      have h110 : sg2 ≤ sg105 ∧ sg105 ≤ 60 := h110
      have h111 : rS k107 = (at2 + 1) ∧ rE k107 ≤ at104 ∧ rS k107 ≤ rE k107 := h111
      obtain rfl : v98 = some (.ref r101) := hw97
      have hf112 : K102.1 q2 = 1 := (((h108).2.1.1 q2 (by rw [hq2]; decide)).1).trans hq2
      have hf113 : K102.2.1 0 q2 = 27 := (((h108).2.1.1 q2 (by rw [hq2]; decide)).2.1 0).trans hkd2
      have hf114 : K102.2.2.1 2 q2 = none := (((h108).2.1.1 q2 (by rw [hq2]; decide)).2.2.1 2).trans hc22
      have hf115 : K102.2.2.1 3 q2 = none := (((h108).2.1.1 q2 (by rw [hq2]; decide)).2.2.1 3).trans hc23
      have hf116 : K102.2.2.1 4 q2 = none := (((h108).2.1.1 q2 (by rw [hq2]; decide)).2.2.1 4).trans hc24
      have hf117 : K102.2.2.1 0 q2 = oa := (((h108).2.1.1 q2 (by rw [hq2]; decide)).2.2.1 0).trans hc20
      have hf118 : K102.2.2.1 1 q2 = ob := (((h108).2.1.1 q2 (by rw [hq2]; decide)).2.2.1 1).trans hc21
      have hO : OKP G h0 a (upd (upd (upd (upd F 2 (nI sz)) 9 (nI at104)) 10 (nI dp)) 11 (nI sg105)) R Z (updA B 10 f106) J K102 w := hO.to rfl
      refine W.widen (k := ((2 * (at2 - at9) - 4) + (2 * (at104 - (at2 + 1)) - 0))) (n := ((11 * (2 * (at2 - at9) - 4)) + (11 * (2 * (at104 - (at2 + 1)) - 0)))) (by show (2 * (at2 - at9) - 4) + (2 * (at104 - (at2 + 1)) - 0) ≤ ((2 * (at2 - at9) - 4) + (2 * (at104 - (at2 + 1)) - 0)); omega) (by show (11 * (2 * (at2 - at9) - 4)) + (11 * (2 * (at104 - (at2 + 1)) - 0)) ≤ ((11 * (2 * (at2 - at9) - 4)) + (11 * (2 * (at104 - (at2 + 1)) - 0))); omega) ?_
      refine W.eq (g2 := F0 m 114 ls [.ref r101, .ref q2]) rfl ?_
      have hns119 : NwS K K102 g g103 := NwS.call hns2 h108 (fun o9 h9 => absurd h9 (by omega))
      have hf120 : K102.1 r101 = 1 := h108.2.2.1.2.1
      have hg121 : g103 0 q2 = 0 := (h108.2.1.2 q2 (by rw [hq2]; decide) 0).trans hg20
      have hno122 : NoO K102 g103 q2 := NoO.call hno2 h108 hq2 (by omega)
      have hrk123 : g103 2 r101 = k107 := h108.2.2.1.2.2.2.2.2.1
      have hgy124 := h108.2.2.1
      have hgy124a := hgy124.2.2.1
      have hgy124b := hgy124.2.2.2.1
      have hka125 := KdO.ext hoa h108.2.1
      have hkb126 := KdO.ext hob h108.2.1
      have hki127 := KdI.ext hia hoa h108.2.1
      refine p_put (v := .ref r101) (ty := (.object "JinjaTongue$Node")) (C := RX7) (Tc := TX7) (N := 11) (ci := 13) (K' := (kC K102 2 q2 (some r101))) hx hb hq pin_wsX70 tyX7 tyX7_ok nmX7 hown hE hP hD hS hO (by rw [hf112]; decide) (rep_1 hf112) rfl 8 (by decide) (hq _ pw_943) (fun _ h9 => h9) rfl (by decide +kernel) rfl rfl (Nat.le_of_ble_eq_true rfl) rfl (by rw [rep_1 (show (kC K102 2 q2 (some r101)).1 q2 = 1 from hf112), pc_2] <;> rfl) (fun p9 hp9 => rep_kC hp9) dX8_forStatement_114 (fun H locs w hP hD hS hO => ?_)
      obtain ⟨K128, hK129⟩ : ∃ z : PK, z = (kC K102 2 q2 (some r101)) := ⟨_, rfl⟩
      rw [← hK129] at hO
      have hf130 : K128.1 q2 = 1 := (by rw [hK129]; exact hf112)
      have hf131 : K128.2.1 0 q2 = 27 := (by rw [hK129]; exact hf113)
      have hf132 : K128.2.2.1 3 q2 = none := (by rw [hK129]; exact (kC_of (by decide)).trans hf115)
      have hf133 : K128.2.2.1 4 q2 = none := (by rw [hK129]; exact (kC_of (by decide)).trans hf116)
      have hf134 : K128.2.2.1 0 q2 = oa := (by rw [hK129]; exact (kC_of (by decide)).trans hf117)
      have hf135 : K128.2.2.1 1 q2 = ob := (by rw [hK129]; exact (kC_of (by decide)).trans hf118)
      have hf136 : K128.1 r101 = 1 := (by rw [hK129]; exact hf120)
      have hf137 : K128.2.2.1 2 q2 = some r101 := by rw [hK129]; exact kC_eq
      have hns138 : NwS K K128 g g103 := by rw [hK129]; exact NwS.put hns119 hq20 hg121
      have hno139 : NoO K128 g103 q2 := by rw [hK129]; exact hno122
      have hka140 : KdO K128 g103 oa (173 + 3 * (20 - dp)) := by rw [hK129]; exact hka125
      have hkb141 : KdO K128 g103 ob (173 + 3 * (20 - dp)) := by rw [hK129]; exact hkb126
      refine lv_aload_n hx hb dX8_forStatement_117 rfl (lv_at hl 1 rfl) ?_
      refine lv_bipush (v := 35) hx hb dX8_forStatement_118 (by decide) ?_
      have hO : OKW G h0 a (upd (upd (upd (upd (upd (upd (upd (upd F 2 (nI sz)) 9 (nI at9)) 10 (nI dp)) 11 (nI sg)) 9 (nI at104)) 11 (nI sg105)) 2 (nI sz)) 9 (nI at104)) R Z (updA B 10 f106) J K128.1 (fun q99 x99 => x99 = rep G a K128 q99) w := hO.to rfl
      obtain ⟨_, qr145, hqr146⟩ := hO.2.1 23 _ (sg_23 G h0 a _ _ _ _ _)
      refine pn_V0 (G := G) (As := [.int 35]) (rest := []) hx hb hml hown hq hE hX pX0_al hP hD hS hA hl.1 (P_take l G h0 a (upd (upd (upd (upd (upd (upd F 2 (nI sz)) 9 (nI at9)) 10 (nI dp)) 11 (nI sg)) 9 (nI at104)) 11 (nI sg105)) R Z (updA B 10 f106) J K128.1 (fun q99 x99 => x99 = rep G a K128 q99) w 35 at104 sz (by omega) (by omega) (by decide) hO hl0) (gV pw_793 pw_794 pw_795 pw_796 pw_781) hV_X8_take qr145 5 hqr146 rfl rfl rfl (Nat.le_of_ble_eq_true rfl) dX8_forStatement_120 ⟨(by show ((2 * (at2 - at9) - 4) + (2 * (at104 - (at2 + 1)) - 0)) + 1 ≤ (2 * (sz - at9) + 20); omega), (by show ((11 * (2 * (at2 - at9) - 4)) + (11 * (2 * (at104 - (at2 + 1)) - 0))) + 6 ≤ (11 * (2 * (sz - at9) + 20)); omega)⟩ ⟨(by show 7 + 1 ≤ (50 * n + 58); omega), (by show 8 + (2 + 11) + 122 ≤ (1500 * n + 1650); omega)⟩ (fun v144 u142 H locs hw143 hP hD hS => ?_) (fun ux ce9 q9 H9 locs9 hux hP9 hD9 hS9 hce hcv hcl => pb_out ux (ThQ.up (Thx.same (Thx.same (Thx.b (Thx.f (Thx.f Thx.rfl (by omega)) (by omega)) (by omega) (by decide)) rfl) rfl) RhX.rfl hux) hnt hlocks hce hcv hcl hP9 hD9 hS9 (by show ((2 * (at2 - at9) - 4) + (2 * (at104 - (at2 + 1)) - 0)) + 1 ≤ (2 * (sz - at9) + 20); omega) (by show ((11 * (2 * (at2 - at9) - 4)) + (11 * (2 * (at104 - (at2 + 1)) - 0))) + 6 ≤ (11 * (2 * (sz - at9) + 20)); omega))
      obtain ⟨w, _⟩ := u142
      obtain ⟨hw143, h147, hO⟩ := hw143
      have h147 : at104 + 1 ≤ sz := h147
      obtain rfl : v144 = some (.int (nI at104)) := hw143
      have hO : OKP G h0 a (upd (upd (upd (upd F 2 (nI sz)) 9 (nI (at104 + 1))) 10 (nI dp)) 11 (nI sg105)) R Z (updA B 10 f106) J K128 w := hO.to rfl
      refine W.widen (k := ((2 * (at2 - at9) - 4) + (2 * (at104 - (at2 + 1)) - 0))) (n := ((11 * (2 * (at2 - at9) - 4)) + (11 * (2 * (at104 - (at2 + 1)) - 0)))) (by show ((2 * (at2 - at9) - 4) + (2 * (at104 - (at2 + 1)) - 0)) + 0 ≤ ((2 * (at2 - at9) - 4) + (2 * (at104 - (at2 + 1)) - 0)); omega) (by show ((11 * (2 * (at2 - at9) - 4)) + (11 * (2 * (at104 - (at2 + 1)) - 0))) + 0 ≤ ((11 * (2 * (at2 - at9) - 4)) + (11 * (2 * (at104 - (at2 + 1)) - 0))); omega) ?_
      refine W.eq (g2 := F0 m 123 ls [.int (nI at104)]) rfl ?_
      refine lv_pop hx hb dX8_forStatement_123 rfl ?_
      refine lv_aload_n hx hb dX8_forStatement_124 rfl (lv_at hl 0 rfl) ?_
      refine lv_aload_n hx hb dX8_forStatement_125 rfl (lv_at hl 1 rfl) ?_
      refine lv_iconst (v := 0) hx hb dX8_forStatement_126 (by decide) ?_
      have hO : OKP G h0 a (upd (upd (upd (upd (upd (upd (upd (upd (upd (upd F 2 (nI sz)) 9 (nI at9)) 10 (nI dp)) 11 (nI sg)) 9 (nI (at104 + 1))) 11 (nI sg105)) 2 (nI sz)) 9 (nI (at104 + 1))) 10 (nI dp)) 11 (nI sg105)) R Z (updA B 10 f106) J K128 w := hO.to rfl
      obtain ⟨_, qr151, hqr152⟩ := hO.2.1 23 _ (sg_23 G h0 a _ _ _ _ _)
      refine pn_V0 (G := G) (As := [.int (nI 0)]) (rest := [.ref q2]) hx hb hml hown hq hE hX pX0_al hP hD hS hA hl.1 (ist h0 a (upd (upd (upd (upd (upd (upd F 2 (nI sz)) 9 (nI at9)) 10 (nI dp)) 11 (nI sg)) 9 (nI (at104 + 1))) 11 (nI sg105)) R Z (updA B 10 f106) J K128 w 0 (at104 + 1) sz dp sg105 0 g103 (by omega) (by omega) hdp (by omega) hns138.1 (fun o9 h9 => absurd h9 (by omega)) (by omega) hO hl0) (gV pw_1003 pw_1004 pw_1005 pw_796 pw_1025) hV_X8_statement qr151 5 hqr152 rfl rfl rfl (Nat.le_of_ble_eq_true rfl) dX8_forStatement_127 ⟨(by show ((2 * (at2 - at9) - 4) + (2 * (at104 - (at2 + 1)) - 0)) + (2 * (sz - (at104 + 1)) + 20) ≤ (2 * (sz - at9) + 20); omega), (by show ((11 * (2 * (at2 - at9) - 4)) + (11 * (2 * (at104 - (at2 + 1)) - 0))) + (11 * (2 * (sz - (at104 + 1)) + 20)) ≤ (11 * (2 * (sz - at9) + 20)); omega)⟩ ⟨(by show (50 * n + 50) + 1 ≤ (50 * n + 58); omega), (by show 8 + (5 + 11) + (1500 * n + 1500) ≤ (1500 * n + 1650); omega)⟩ (fun v150 u148 H locs hw149 hP hD hS => ?_) (fun ux ce9 q9 H9 locs9 hux hP9 hD9 hS9 hce hcv hcl => pb_out ux (ThQ.up (Thx.same (Thx.same (Thx.same (Thx.same (Thx.b (Thx.f (Thx.f Thx.rfl (by omega)) (by omega)) (by omega) (by decide)) rfl) rfl) rfl) rfl) RhX.rfl hux) hnt hlocks hce hcv hcl hP9 hD9 hS9 (by show ((2 * (at2 - at9) - 4) + (2 * (at104 - (at2 + 1)) - 0)) + (2 * (sz - (at104 + 1)) + 20) ≤ (2 * (sz - at9) + 20); omega) (by show ((11 * (2 * (at2 - at9) - 4)) + (11 * (2 * (at104 - (at2 + 1)) - 0))) + (11 * (2 * (sz - (at104 + 1)) + 20)) ≤ (11 * (2 * (sz - at9) + 20)); omega))
      obtain ⟨w, r153, K154, g155, at156, sg157, f158, k159⟩ := u148
      obtain ⟨hw149, h160, h161, h162, h163, hO⟩ := hw149
      have h160 : NwR K128 K154 g103 g155 r153 0 k159 ((170 + 3 * (20 - dp))) := h160
      have h161 : (at104 + 1) + 1 ≤ at156 ∧ at156 ≤ sz := h161
      have h162 : sg105 ≤ sg157 ∧ sg157 ≤ 60 := h162
      have h163 : rS k159 = (at104 + 1) ∧ rE k159 ≤ at156 ∧ rS k159 ≤ rE k159 := h163
      obtain rfl : v150 = some (.ref r153) := hw149
      have hf164 : K154.1 q2 = 1 := (((h160).2.1.1 q2 (by rw [hf130]; decide)).1).trans hf130
      have hf165 : K154.2.1 0 q2 = 27 := (((h160).2.1.1 q2 (by rw [hf130]; decide)).2.1 0).trans hf131
      have hf166 : K154.2.2.1 3 q2 = none := (((h160).2.1.1 q2 (by rw [hf130]; decide)).2.2.1 3).trans hf132
      have hf167 : K154.2.2.1 4 q2 = none := (((h160).2.1.1 q2 (by rw [hf130]; decide)).2.2.1 4).trans hf133
      have hf168 : K154.2.2.1 0 q2 = oa := (((h160).2.1.1 q2 (by rw [hf130]; decide)).2.2.1 0).trans hf134
      have hf169 : K154.2.2.1 1 q2 = ob := (((h160).2.1.1 q2 (by rw [hf130]; decide)).2.2.1 1).trans hf135
      have hf170 : K154.1 r101 = 1 := (((h160).2.1.1 r101 (by rw [hf136]; decide)).1).trans hf136
      have hf171 : K154.2.2.1 2 q2 = some r101 := (((h160).2.1.1 q2 (by rw [hf130]; decide)).2.2.1 2).trans hf137
      have hO : OKP G h0 a (upd (upd (upd (upd F 2 (nI sz)) 9 (nI at156)) 10 (nI dp)) 11 (nI sg157)) R Z (updA B 10 f158) J K154 w := hO.to rfl
      refine W.widen (k := (((2 * (at2 - at9) - 4) + (2 * (at104 - (at2 + 1)) - 0)) + (2 * (at156 - (at104 + 1)) - 1))) (n := (((11 * (2 * (at2 - at9) - 4)) + (11 * (2 * (at104 - (at2 + 1)) - 0))) + (11 * (2 * (at156 - (at104 + 1)) - 1)))) (by show ((2 * (at2 - at9) - 4) + (2 * (at104 - (at2 + 1)) - 0)) + (2 * (at156 - (at104 + 1)) - 1) ≤ (((2 * (at2 - at9) - 4) + (2 * (at104 - (at2 + 1)) - 0)) + (2 * (at156 - (at104 + 1)) - 1)); omega) (by show ((11 * (2 * (at2 - at9) - 4)) + (11 * (2 * (at104 - (at2 + 1)) - 0))) + (11 * (2 * (at156 - (at104 + 1)) - 1)) ≤ (((11 * (2 * (at2 - at9) - 4)) + (11 * (2 * (at104 - (at2 + 1)) - 0))) + (11 * (2 * (at156 - (at104 + 1)) - 1))); omega) ?_
      refine W.eq (g2 := F0 m 130 ls [.ref r153, .ref q2]) rfl ?_
      have hns172 : NwS K K154 g g155 := NwS.call hns138 h160 (fun o9 h9 => absurd h9 (by omega))
      have hf173 : K154.1 r153 = 1 := h160.2.2.1.2.1
      have hg174 : g155 0 q2 = 0 := (h160.2.1.2 q2 (by rw [hf130]; decide) 0).trans hg121
      have hno175 : NoO K154 g155 q2 := NoO.call hno139 h160 hf130 (by omega)
      have hgz176 : g155 0 r101 = g103 0 r101 := h160.2.1.2 r101 (by rw [hf136]; decide) 0
      have hrk177 : g155 2 r101 = k107 := (h160.2.1.2 r101 (by rw [hf136]; decide) 2).trans hrk123
      have hrk178 : g155 2 r153 = k159 := h160.2.2.1.2.2.2.2.2.1
      have hgy179 := h160.2.2.1
      have hgy179a := hgy179.2.2.1
      have hgy179b := hgy179.2.2.2.1
      have hka180 := KdO.ext hka140 h160.2.1
      have hkb181 := KdO.ext hkb141 h160.2.1
      have hki182 := KdI.ext hki127 hka140 h160.2.1
      refine p_put (v := .ref r153) (ty := (.object "JinjaTongue$Node")) (C := RX7) (Tc := TX7) (N := 11) (ci := 13) (K' := (kC K154 3 q2 (some r153))) hx hb hq pin_wsX70 tyX7 tyX7_ok nmX7 hown hE hP hD hS hO (by rw [hf164]; decide) (rep_1 hf164) rfl 9 (by decide) (hq _ pw_1011) (fun _ h9 => h9) rfl (by decide +kernel) rfl rfl (Nat.le_of_ble_eq_true rfl) rfl (by rw [rep_1 (show (kC K154 3 q2 (some r153)).1 q2 = 1 from hf164), pc_3] <;> rfl) (fun p9 hp9 => rep_kC hp9) dX8_forStatement_130 (fun H locs w hP hD hS hO => ?_)
      obtain ⟨K183, hK184⟩ : ∃ z : PK, z = (kC K154 3 q2 (some r153)) := ⟨_, rfl⟩
      rw [← hK184] at hO
      have hf185 : K183.1 q2 = 1 := (by rw [hK184]; exact hf164)
      have hf186 : K183.2.1 0 q2 = 27 := (by rw [hK184]; exact hf165)
      have hf187 : K183.2.2.1 4 q2 = none := (by rw [hK184]; exact (kC_of (by decide)).trans hf167)
      have hf188 : K183.2.2.1 0 q2 = oa := (by rw [hK184]; exact (kC_of (by decide)).trans hf168)
      have hf189 : K183.2.2.1 1 q2 = ob := (by rw [hK184]; exact (kC_of (by decide)).trans hf169)
      have hf190 : K183.1 r101 = 1 := (by rw [hK184]; exact hf170)
      have hf191 : K183.2.2.1 2 q2 = some r101 := (by rw [hK184]; exact (kC_of (by decide)).trans hf171)
      have hf192 : K183.1 r153 = 1 := (by rw [hK184]; exact hf173)
      have hf193 : K183.2.2.1 3 q2 = some r153 := by rw [hK184]; exact kC_eq
      have hns194 : NwS K K183 g g155 := by rw [hK184]; exact NwS.put hns172 hq20 hg174
      have hno195 : NoO K183 g155 q2 := by rw [hK184]; exact hno175
      have hka196 : KdO K183 g155 oa (173 + 3 * (20 - dp)) := by rw [hK184]; exact hka180
      have hkb197 : KdO K183 g155 ob (173 + 3 * (20 - dp)) := by rw [hK184]; exact hkb181
      refine lv_aload_n hx hb dX8_forStatement_133 rfl (lv_at hl 0 rfl) ?_
      refine W_size (fun hz1 hz2 => ?_)
      refine vx_ret ?_
      have hkid : ∀ f9 y9 : Nat, f9 ≤ 3 → K183.2.2.1 f9 q2 = some y9 → K183.1 y9 = 1 ∧ 1 ≤ g155 0 y9 ∧ g155 0 y9 < (173 + 3 * (20 - dp)) := by
        intro f9 y9 hf9 hy9
        rcases (show f9 = 0 ∨ f9 = 1 ∨ f9 = 2 ∨ f9 = 3 by omega) with rfl | rfl | rfl | rfl
        · rw [hf188] at hy9; exact hka196 y9 hy9
        · rw [hf189] at hy9; exact hkb197 y9 hy9
        · rw [hf191] at hy9; cases hy9; exact ⟨hf190, by omega, by omega⟩
        · rw [hf193] at hy9; cases hy9; exact ⟨hf192, by omega, by omega⟩
      obtain ⟨k9, hkI, hkS, hkE, hkM, hkN⟩ : ∃ z : Nat, Itv z ∧ rS z = at9 ∧ rE z = at156 ∧ rM z = at2 ∧ rN z = (rS k159) := ⟨rk at9 at156 at2 (rS k159), Itv.of (by omega), rS_rk (by omega), rE_rk (by omega), rM_rk (by omega), rN_rk (by omega)⟩
      have hkch9 : ∀ f9 y9 : Nat, f9 ≤ 3 → K183.2.2.1 f9 q2 = some y9 → Kch (K183.2.1 0 q2) f9 (K183.2.1 0 y9) k9 (g155 2 y9) := by
        intro f9 y9 hf9 hy9
        rw [hf186]
        rcases (show f9 = 0 ∨ f9 = 1 ∨ f9 = 2 ∨ f9 = 3 by omega) with rfl | rfl | rfl | rfl
        · rw [hf188] at hy9; have z9 := hki182 y9 hy9; exact Kch.k26 (by decide) (fun _ => (by omega)) (fun z => absurd z (by decide)) (fun z => absurd z (by decide))
        · exact Kch.k26 (by decide) (fun z => absurd z (by decide)) (fun z => absurd z (by decide)) (fun z => absurd z (by decide))
        · rw [hf191] at hy9; cases hy9; rw [hrk177]; exact Kch.k26 (by decide) (fun z => absurd z (by decide)) (fun _ => (by omega)) (fun z => absurd z (by decide))
        · rw [hf193] at hy9; cases hy9; rw [hrk178]; exact Kch.k26 (by decide) (fun z => absurd z (by decide)) (fun z => absurd z (by decide)) (fun _ => (by omega))
      have hdn := NwS.done1I (q := q2) (L := (173 + 3 * (20 - dp))) (O := O) (k := k9) hns194 hq20 hf185 hg174 (by omega) hkI (by rw [hf186]; exact ⟨(fun z => absurd z (by decide)), (fun z => absurd z (by decide)), (fun z => absurd z (by decide)), (fun z => absurd z (by decide)), fun _ => (by show ¬ K183.2.2.1 3 q2 = none; rw [hf193]; intro z; cases z)⟩) (fun f9 z => by rw [hf186] at z; rcases z with ⟨z, _⟩ | ⟨z | z | z, _⟩ <;> exact absurd z (by decide)) hkid hf187 hno195 hkch9 how
      have hz198 : NwR K K183 g (gset g155 q2 (173 + 3 * (20 - dp)) O k9) q2 O k9 ((173 + 3 * (20 - dp))) := hdn
      have hz199 : at9 + 6 ≤ at156 ∧ at156 ≤ sz := (by omega)
      have hz200 : sg ≤ sg157 ∧ sg157 ≤ 60 := (by omega)
      have hz201 : rS k9 = at9 ∧ rE k9 ≤ at156 ∧ rS k9 ≤ rE k9 := (by omega)
      have hO : OKP G h0 a (upd (upd (upd (upd F 2 (nI sz)) 9 (nI at156)) 10 (nI dp)) 11 (nI sg157)) R Z (updA B 10 f158) J K183 w := hO.to rfl
      refine W.widen (k := (2 * (sz - at9) + 20)) (n := (11 * (2 * (sz - at9) + 20))) (by omega) (by omega) ?_
      have hzz1 : H.size ≤ s.heap.size + ((2 * (at156 - at9) - 6)) := (by have z : (((2 * (at2 - at9) - 4) + (2 * (at104 - (at2 + 1)) - 0)) + (2 * (at156 - (at104 + 1)) - 1)) ≤ (2 * (at156 - at9) - 6) := (by omega); omega)
      have hzz2 : hSl H ≤ hSl s.heap + ((11 * (2 * (at156 - at9) - 6))) := (by have z : (((11 * (2 * (at2 - at9) - 4)) + (11 * (2 * (at104 - (at2 + 1)) - 0))) + (11 * (2 * (at156 - (at104 + 1)) - 1))) ≤ (11 * (2 * (at156 - at9) - 6)) := (by omega); omega)
      exact W.aret (v := .ref q2) hx hb hr (Or.inl ⟨_, rfl⟩) (Or.inr ⟨_, rfl⟩) (fun t99 ht99 hW99 => ⟨⟨_, (w, (q2, K183, (gset g155 q2 (173 + 3 * (20 - dp)) O k9), at156, sg157, f158, k9)), rfl, ⟨rfl, hz198, hz199, hz200, hz201, hO⟩, by rw [ht99]; exact hP, hD, by rw [ht99]; exact hzz1, by rw [ht99]; exact hzz2⟩, hS.F ht99⟩) hS.2.2 dX8_forStatement_134
  refine lv_aload_n hx hb dX8_forStatement_18 rfl (lv_at hl 1 rfl) ?_
  refine lv_dup hx hb dX8_forStatement_19 rfl ?_
  refine c_get (v := .int (nI at9)) (C := RX8) (Tc := TX8) (N := 5) (ci := 5) hx hb hq pin_wsX80 hown hE hP hO 23 (sg_23 G h0 a _ _ _ _ _) rfl 2 (by decide) (hq _ pw_776) (fun _ h9 => h9) rfl dX8_forStatement_20 ?_
  refine lv_iconst (v := 1) hx hb dX8_forStatement_23 (by decide) ?_
  refine lv_iadd hx hb dX8_forStatement_24 ?_
  refine lv_topi (fun x202 e203 => ?_)
  obtain rfl : x202 = nI (at9 + 1) := e203.trans (nI_add (at9) (1))
  refine c_put (v := .int (nI (at9 + 1))) (ty := .int) (C := RX8) (Tc := TX8) (N := 5) (ci := 5) hx hb hq pin_wsX80 tyX8 tyX8_ok nmX8 hown hE hP hD hS hO 23 (sg_23 G h0 a _ _ _ _ _) rfl 2 (by decide) (hq _ pw_776) (fun _ h9 => h9) rfl (by decide +kernel) rfl rfl (Nat.le_of_ble_eq_true rfl) (sf_9 G h0 a _ _ _ _ _ (nI (at9 + 1))) dX8_forStatement_25 (fun H locs w hP hD hS hO => ?_)
  refine lv_aload_n hx hb dX8_forStatement_28 rfl (lv_at hl 1 rfl) ?_
  refine lv_bipush (v := 34) hx hb dX8_forStatement_29 (by decide) ?_
  have hO : OKW G h0 a (upd (upd (upd (upd (upd (upd (upd F 2 (nI sz)) 9 (nI at9)) 10 (nI dp)) 11 (nI sg)) 9 (nI (at9 + 1))) 2 (nI sz)) 9 (nI (at9 + 1))) R Z B J K10.1 (fun q99 x99 => x99 = rep G a K10 q99) w := hO.to rfl
  obtain ⟨_, qr207, hqr208⟩ := hO.2.1 23 _ (sg_23 G h0 a _ _ _ _ _)
  refine pn_V0 (G := G) (As := [.int 34]) (rest := []) hx hb hml hown hq hE hX pX0_al hP hD hS hA hl.1 (P_take l G h0 a (upd (upd (upd (upd (upd F 2 (nI sz)) 9 (nI at9)) 10 (nI dp)) 11 (nI sg)) 9 (nI (at9 + 1))) R Z B J K10.1 (fun q99 x99 => x99 = rep G a K10 q99) w 34 (at9 + 1) sz (by omega) (by omega) (by decide) hO hl0) (gV pw_793 pw_794 pw_795 pw_796 pw_781) hV_X8_take qr207 5 hqr208 rfl rfl rfl (Nat.le_of_ble_eq_true rfl) dX8_forStatement_31 ⟨(by show 1 + 1 ≤ (2 * (sz - at9) + 20); omega), (by show 11 + 6 ≤ (11 * (2 * (sz - at9) + 20)); omega)⟩ ⟨(by show 7 + 1 ≤ (50 * n + 58); omega), (by show 8 + (2 + 11) + 122 ≤ (1500 * n + 1650); omega)⟩ (fun v206 u204 H locs hw205 hP hD hS => ?_) (fun ux ce9 q9 H9 locs9 hux hP9 hD9 hS9 hce hcv hcl => pb_out ux (ThQ.up (Thx.same (Thx.same (Thx.f Thx.rfl (by omega)) rfl) rfl) RhX.rfl hux) hnt hlocks hce hcv hcl hP9 hD9 hS9 (by show 1 + 1 ≤ (2 * (sz - at9) + 20); omega) (by show 11 + 6 ≤ (11 * (2 * (sz - at9) + 20)); omega))
  obtain ⟨w, _⟩ := u204
  obtain ⟨hw205, h209, hO⟩ := hw205
  have h209 : (at9 + 1) + 1 ≤ sz := h209
  obtain rfl : v206 = some (.int (nI (at9 + 1))) := hw205
  have hO : OKP G h0 a (upd (upd (upd (upd F 2 (nI sz)) 9 (nI ((at9 + 1) + 1))) 10 (nI dp)) 11 (nI sg)) R Z B J K10 w := hO.to rfl
  refine W.widen (k := 1) (n := 11) (by show 1 + 0 ≤ 1; omega) (by show 11 + 0 ≤ 11; omega) ?_
  refine W.eq (g2 := F0 m 34 ls [.int (nI (at9 + 1))]) rfl ?_
  refine lv_pop hx hb dX8_forStatement_34 rfl ?_
  refine lv_aload_n hx hb dX8_forStatement_35 rfl (lv_at hl 1 rfl) ?_
  refine lv_bipush (v := 38) hx hb dX8_forStatement_36 (by decide) ?_
  have hO : OKW G h0 a (upd (upd (upd (upd (upd (upd F 2 (nI sz)) 9 (nI ((at9 + 1) + 1))) 10 (nI dp)) 11 (nI sg)) 2 (nI sz)) 9 (nI ((at9 + 1) + 1))) R Z B J K10.1 (fun q99 x99 => x99 = rep G a K10 q99) w := hO.to rfl
  obtain ⟨_, qr213, hqr214⟩ := hO.2.1 23 _ (sg_23 G h0 a _ _ _ _ _)
  refine pc_V0 (G := G) (As := [.int 38]) (rest := []) hx hb hml hown hq hE hX pX0_al hP hD hS hA hl.1 (P_sees l G h0 a (upd (upd (upd (upd F 2 (nI sz)) 9 (nI ((at9 + 1) + 1))) 10 (nI dp)) 11 (nI sg)) R Z B J K10.1 (fun q99 x99 => x99 = rep G a K10 q99) w 38 ((at9 + 1) + 1) sz (by omega) (by omega) hO) (gV pw_803 pw_804 pw_805 pw_796 pw_775) hV_X8_sees qr213 5 hqr214 rfl rfl rfl (Nat.le_of_ble_eq_true rfl) dX8_forStatement_38 ⟨(by show 1 + 0 ≤ (2 * (sz - at9) + 20); omega), (by show 11 + 0 ≤ (11 * (2 * (sz - at9) + 20)); omega)⟩ ⟨(by show 3 + 1 ≤ (50 * n + 58); omega), (by show 8 + (2 + 11) + 81 ≤ (1500 * n + 1650); omega)⟩ (fun v212 u210 H locs hw211 hP hD hS => ?_)
  obtain ⟨w, r215⟩ := u210
  obtain ⟨hw211, h216, hO⟩ := hw211
  have h216 : r215 ≤ 1 := h216
  obtain rfl : v212 = some (.int (nI r215)) := hw211
  have hO : OKP G h0 a (upd (upd (upd (upd F 2 (nI sz)) 9 (nI ((at9 + 1) + 1))) 10 (nI dp)) 11 (nI sg)) R Z B J K10 w := hO.to rfl
  refine W.widen (k := 1) (n := 11) (by show 1 + 0 ≤ 1; omega) (by show 11 + 0 ≤ 11; omega) ?_
  refine W.eq (g2 := F0 m 41 ls [.int (nI r215)]) rfl ?_
  refine lv_if_ne (tgt := 68) hx hb dX8_forStatement_41 (by decide) (fun c217 => ?_) (fun c217 => ?_)
  · have n218 : ¬ (r215 = 0) := fun h9 => c217 ((nI_eq (a := r215) (b := 0) (by omega) (by omega)).mpr h9)
    refine lv_aload_n hx hb dX8_forStatement_68 rfl (lv_at hl 1 rfl) ?_
    refine lv_bipush (v := 38) hx hb dX8_forStatement_69 (by decide) ?_
    have hO : OKW G h0 a (upd (upd (upd (upd (upd (upd (upd F 2 (nI sz)) 9 (nI at9)) 10 (nI dp)) 11 (nI sg)) 9 (nI ((at9 + 1) + 1))) 2 (nI sz)) 9 (nI ((at9 + 1) + 1))) R Z B J K10.1 (fun q99 x99 => x99 = rep G a K10 q99) w := hO.to rfl
    obtain ⟨_, qr222, hqr223⟩ := hO.2.1 23 _ (sg_23 G h0 a _ _ _ _ _)
    refine pn_V0 (G := G) (As := [.int 38]) (rest := []) hx hb hml hown hq hE hX pX0_al hP hD hS hA hl.1 (P_take l G h0 a (upd (upd (upd (upd (upd F 2 (nI sz)) 9 (nI at9)) 10 (nI dp)) 11 (nI sg)) 9 (nI ((at9 + 1) + 1))) R Z B J K10.1 (fun q99 x99 => x99 = rep G a K10 q99) w 38 ((at9 + 1) + 1) sz (by omega) (by omega) (by decide) hO hl0) (gV pw_793 pw_794 pw_795 pw_796 pw_781) hV_X8_take qr222 5 hqr223 rfl rfl rfl (Nat.le_of_ble_eq_true rfl) dX8_forStatement_71 ⟨(by show 1 + 1 ≤ (2 * (sz - at9) + 20); omega), (by show 11 + 6 ≤ (11 * (2 * (sz - at9) + 20)); omega)⟩ ⟨(by show 7 + 1 ≤ (50 * n + 58); omega), (by show 8 + (2 + 11) + 122 ≤ (1500 * n + 1650); omega)⟩ (fun v221 u219 H locs hw220 hP hD hS => ?_) (fun ux ce9 q9 H9 locs9 hux hP9 hD9 hS9 hce hcv hcl => pb_out ux (ThQ.up (Thx.same (Thx.same (Thx.f Thx.rfl (by omega)) rfl) rfl) RhX.rfl hux) hnt hlocks hce hcv hcl hP9 hD9 hS9 (by show 1 + 1 ≤ (2 * (sz - at9) + 20); omega) (by show 11 + 6 ≤ (11 * (2 * (sz - at9) + 20)); omega))
    obtain ⟨w, _⟩ := u219
    obtain ⟨hw220, h224, hO⟩ := hw220
    have h224 : ((at9 + 1) + 1) + 1 ≤ sz := h224
    obtain rfl : v221 = some (.int (nI ((at9 + 1) + 1))) := hw220
    have hO : OKP G h0 a (upd (upd (upd (upd F 2 (nI sz)) 9 (nI (((at9 + 1) + 1) + 1))) 10 (nI dp)) 11 (nI sg)) R Z B J K10 w := hO.to rfl
    refine W.widen (k := 1) (n := 11) (by show 1 + 0 ≤ 1; omega) (by show 11 + 0 ≤ 11; omega) ?_
    refine W.eq (g2 := F0 m 74 ls [.int (nI ((at9 + 1) + 1))]) rfl ?_
    refine lv_pop hx hb dX8_forStatement_74 rfl ?_
    refine lv_aload_n hx hb dX8_forStatement_75 rfl (lv_at hl 1 rfl) ?_
    refine lv_bipush (v := 38) hx hb dX8_forStatement_76 (by decide) ?_
    have hO : OKW G h0 a (upd (upd (upd (upd (upd (upd F 2 (nI sz)) 9 (nI (((at9 + 1) + 1) + 1))) 10 (nI dp)) 11 (nI sg)) 2 (nI sz)) 9 (nI (((at9 + 1) + 1) + 1))) R Z B J K10.1 (fun q99 x99 => x99 = rep G a K10 q99) w := hO.to rfl
    obtain ⟨_, qr228, hqr229⟩ := hO.2.1 23 _ (sg_23 G h0 a _ _ _ _ _)
    refine pc_V0 (G := G) (As := [.int 38]) (rest := []) hx hb hml hown hq hE hX pX0_al hP hD hS hA hl.1 (P_sees l G h0 a (upd (upd (upd (upd F 2 (nI sz)) 9 (nI (((at9 + 1) + 1) + 1))) 10 (nI dp)) 11 (nI sg)) R Z B J K10.1 (fun q99 x99 => x99 = rep G a K10 q99) w 38 (((at9 + 1) + 1) + 1) sz (by omega) (by omega) hO) (gV pw_803 pw_804 pw_805 pw_796 pw_775) hV_X8_sees qr228 5 hqr229 rfl rfl rfl (Nat.le_of_ble_eq_true rfl) dX8_forStatement_78 ⟨(by show 1 + 0 ≤ (2 * (sz - at9) + 20); omega), (by show 11 + 0 ≤ (11 * (2 * (sz - at9) + 20)); omega)⟩ ⟨(by show 3 + 1 ≤ (50 * n + 58); omega), (by show 8 + (2 + 11) + 81 ≤ (1500 * n + 1650); omega)⟩ (fun v227 u225 H locs hw226 hP hD hS => ?_)
    obtain ⟨w, r230⟩ := u225
    obtain ⟨hw226, h231, hO⟩ := hw226
    have h231 : r230 ≤ 1 := h231
    obtain rfl : v227 = some (.int (nI r230)) := hw226
    have hO : OKP G h0 a (upd (upd (upd (upd F 2 (nI sz)) 9 (nI (((at9 + 1) + 1) + 1))) 10 (nI dp)) 11 (nI sg)) R Z B J K10 w := hO.to rfl
    refine W.widen (k := 1) (n := 11) (by show 1 + 0 ≤ 1; omega) (by show 11 + 0 ≤ 11; omega) ?_
    refine W.eq (g2 := F0 m 81 ls [.int (nI r230)]) rfl ?_
    refine lv_if_ne (tgt := 92) hx hb dX8_forStatement_81 (by decide) (fun c232 => ?_) (fun c232 => ?_)
    · have n233 : ¬ (r230 = 0) := fun h9 => c232 ((nI_eq (a := r230) (b := 0) (by omega) (by omega)).mpr h9)
      refine W.widen (k := (2 * ((((at9 + 1) + 1) + 1) - at9) - 4)) (n := (11 * (2 * ((((at9 + 1) + 1) + 1) - at9) - 4))) (by show 1 ≤ _; omega) (by show 11 ≤ _; omega) ?_
      have hO : OKP G h0 a (upd (upd (upd (upd F 2 (nI sz)) 9 (nI (((at9 + 1) + 1) + 1))) 10 (nI dp)) 11 (nI sg)) R Z (updA B 10 (B 10)) J K10 w := hO.to rfl
      exact cut_j (((at9 + 1) + 1) + 1) sg (B 10) K10 (gset g q1 0 0 0) q1 none none _ _ _ _ (by omega) (by omega) hns20 hq21 hf12 hg22 hno23 hf13 hf15 hf16 hf17 hf18 hf19 KdO.no KdO.no KdI.no hP hD hS hO (lv_sub hl [0, 1] rfl)
    · have n234 : r230 = 0 := (nI_eq (a := r230) (b := 0) (by omega) (by omega)).mp c232
      refine lv_aload_n hx hb dX8_forStatement_84 rfl (lv_at hl 0 rfl) ?_
      refine lv_aload_n hx hb dX8_forStatement_85 rfl (lv_at hl 1 rfl) ?_
      have hO : OKP G h0 a (upd (upd (upd (upd (upd (upd (upd (upd (upd F 2 (nI sz)) 9 (nI at9)) 10 (nI dp)) 11 (nI sg)) 9 (nI (((at9 + 1) + 1) + 1))) 2 (nI sz)) 9 (nI (((at9 + 1) + 1) + 1))) 10 (nI dp)) 11 (nI sg)) R Z B J K10 w := hO.to rfl
      obtain ⟨_, qr238, hqr239⟩ := hO.2.1 23 _ (sg_23 G h0 a _ _ _ _ _)
      refine pn_V0 (G := G) (As := []) (rest := [.ref q1]) hx hb hml hown hq hE hX pX0_al hP hD hS hA hl.1 (((PE_all l G n).1) h0 a (upd (upd (upd (upd (upd F 2 (nI sz)) 9 (nI at9)) 10 (nI dp)) 11 (nI sg)) 9 (nI (((at9 + 1) + 1) + 1))) R Z B J K10 w (((at9 + 1) + 1) + 1) sz dp sg 0 (gset g q1 0 0 0) (by omega) (by omega) hdp (by omega) hns20.1 (fun o9 h9 => absurd h9 (by omega)) hO hl0) (gV pw_916 pw_917 pw_918 pw_796 pw_942) hV_X8_expression qr238 5 hqr239 rfl rfl rfl (Nat.le_of_ble_eq_true rfl) dX8_forStatement_86 ⟨(by show 1 + (2 * (sz - (((at9 + 1) + 1) + 1)) + 20) ≤ (2 * (sz - at9) + 20); omega), (by show 11 + (11 * (2 * (sz - (((at9 + 1) + 1) + 1)) + 20)) ≤ (11 * (2 * (sz - at9) + 20)); omega)⟩ ⟨(by show (40 * n + 40) + 1 ≤ (50 * n + 58); omega), (by show 8 + (3 + 11) + (1300 * n + 1300) ≤ (1500 * n + 1650); omega)⟩ (fun v237 u235 H locs hw236 hP hD hS => ?_) (fun ux ce9 q9 H9 locs9 hux hP9 hD9 hS9 hce hcv hcl => pb_out ux (ThQ.up (Thx.same (Thx.same (Thx.same (Thx.same (Thx.f Thx.rfl (by omega)) rfl) rfl) rfl) rfl) RhX.rfl hux) hnt hlocks hce hcv hcl hP9 hD9 hS9 (by show 1 + (2 * (sz - (((at9 + 1) + 1) + 1)) + 20) ≤ (2 * (sz - at9) + 20); omega) (by show 11 + (11 * (2 * (sz - (((at9 + 1) + 1) + 1)) + 20)) ≤ (11 * (2 * (sz - at9) + 20)); omega))
      obtain ⟨w, r240, K241, g242, at243, sg244, f245⟩ := u235
      obtain ⟨hw236, h246, h247, h248, hO⟩ := hw236
      have h246 : NwR K10 K241 (gset g q1 0 0 0) g242 r240 0 (((at9 + 1) + 1) + 1) (5 * (20 - dp) + 6 + (sg244 - sg)) := h246
      have h247 : (((at9 + 1) + 1) + 1) + 1 ≤ at243 ∧ at243 ≤ sz := h247
      have h248 : sg ≤ sg244 ∧ sg244 ≤ 60 := h248
      obtain rfl : v237 = some (.ref r240) := hw236
      have hf249 : K241.1 q1 = 1 := (((h246).2.1.1 q1 (by rw [hf12]; decide)).1).trans hf12
      have hf250 : K241.2.1 0 q1 = 27 := (((h246).2.1.1 q1 (by rw [hf12]; decide)).2.1 0).trans hf13
      have hf251 : K241.2.1 2 q1 = (nI at9) := (((h246).2.1.1 q1 (by rw [hf12]; decide)).2.1 2).trans hf14
      have hf252 : K241.2.2.1 0 q1 = none := (((h246).2.1.1 q1 (by rw [hf12]; decide)).2.2.1 0).trans hf15
      have hf253 : K241.2.2.1 1 q1 = none := (((h246).2.1.1 q1 (by rw [hf12]; decide)).2.2.1 1).trans hf16
      have hf254 : K241.2.2.1 2 q1 = none := (((h246).2.1.1 q1 (by rw [hf12]; decide)).2.2.1 2).trans hf17
      have hf255 : K241.2.2.1 3 q1 = none := (((h246).2.1.1 q1 (by rw [hf12]; decide)).2.2.1 3).trans hf18
      have hf256 : K241.2.2.1 4 q1 = none := (((h246).2.1.1 q1 (by rw [hf12]; decide)).2.2.1 4).trans hf19
      have hO : OKP G h0 a (upd (upd (upd (upd F 2 (nI sz)) 9 (nI at243)) 10 (nI dp)) 11 (nI sg244)) R Z (updA B 10 f245) J K241 w := hO.to rfl
      refine W.widen (k := (1 + (2 * (at243 - (((at9 + 1) + 1) + 1)) - 1))) (n := (11 + (11 * (2 * (at243 - (((at9 + 1) + 1) + 1)) - 1)))) (by show 1 + (2 * (at243 - (((at9 + 1) + 1) + 1)) - 1) ≤ (1 + (2 * (at243 - (((at9 + 1) + 1) + 1)) - 1)); omega) (by show 11 + (11 * (2 * (at243 - (((at9 + 1) + 1) + 1)) - 1)) ≤ (11 + (11 * (2 * (at243 - (((at9 + 1) + 1) + 1)) - 1))); omega) ?_
      refine W.eq (g2 := F0 m 89 ls [.ref r240, .ref q1]) rfl ?_
      have hns257 : NwS K K241 g g242 := NwS.call hns20 h246 (fun o9 h9 => absurd h9 (by omega))
      have hf258 : K241.1 r240 = 1 := h246.2.2.1.2.1
      have hg259 : g242 0 q1 = 0 := (h246.2.1.2 q1 (by rw [hf12]; decide) 0).trans hg22
      have hno260 : NoO K241 g242 q1 := NoO.call hno23 h246 hf12 (by omega)
      have hgy261 := h246.2.2.1
      have hgy261a := hgy261.2.2.1
      have hgy261b := hgy261.2.2.2.1
      refine p_put (v := .ref r240) (ty := (.object "JinjaTongue$Node")) (C := RX7) (Tc := TX7) (N := 11) (ci := 13) (K' := (kC K241 1 q1 (some r240))) hx hb hq pin_wsX70 tyX7 tyX7_ok nmX7 hown hE hP hD hS hO (by rw [hf249]; decide) (rep_1 hf249) rfl 7 (by decide) (hq _ pw_910) (fun _ h9 => h9) rfl (by decide +kernel) rfl rfl (Nat.le_of_ble_eq_true rfl) rfl (by rw [rep_1 (show (kC K241 1 q1 (some r240)).1 q1 = 1 from hf249), pc_1] <;> rfl) (fun p9 hp9 => rep_kC hp9) dX8_forStatement_89 (fun H locs w hP hD hS hO => ?_)
      obtain ⟨K262, hK263⟩ : ∃ z : PK, z = (kC K241 1 q1 (some r240)) := ⟨_, rfl⟩
      rw [← hK263] at hO
      have hf264 : K262.1 q1 = 1 := (by rw [hK263]; exact hf249)
      have hf265 : K262.2.1 0 q1 = 27 := (by rw [hK263]; exact hf250)
      have hf266 : K262.2.1 2 q1 = (nI at9) := (by rw [hK263]; exact hf251)
      have hf267 : K262.2.2.1 0 q1 = none := (by rw [hK263]; exact (kC_of (by decide)).trans hf252)
      have hf268 : K262.2.2.1 2 q1 = none := (by rw [hK263]; exact (kC_of (by decide)).trans hf254)
      have hf269 : K262.2.2.1 3 q1 = none := (by rw [hK263]; exact (kC_of (by decide)).trans hf255)
      have hf270 : K262.2.2.1 4 q1 = none := (by rw [hK263]; exact (kC_of (by decide)).trans hf256)
      have hf271 : K262.1 r240 = 1 := (by rw [hK263]; exact hf258)
      have hf272 : K262.2.2.1 1 q1 = some r240 := by rw [hK263]; exact kC_eq
      have hns273 : NwS K K262 g g242 := by rw [hK263]; exact NwS.put hns257 hq21 hg259
      have hno274 : NoO K262 g242 q1 := by rw [hK263]; exact hno260
      refine W.widen (k := (2 * (at243 - at9) - 4)) (n := (11 * (2 * (at243 - at9) - 4))) (by show (1 + (2 * (at243 - (((at9 + 1) + 1) + 1)) - 1)) ≤ _; omega) (by show (11 + (11 * (2 * (at243 - (((at9 + 1) + 1) + 1)) - 1))) ≤ _; omega) ?_
      have hO : OKP G h0 a (upd (upd (upd (upd F 2 (nI sz)) 9 (nI at243)) 10 (nI dp)) 11 (nI sg244)) R Z (updA B 10 f245) J K262 w := hO.to rfl
      exact cut_j at243 sg244 f245 K262 g242 q1 none (some r240) _ _ _ _ (by omega) (by omega) hns273 hq21 hf264 hg259 hno274 hf265 hf267 hf272 hf268 hf269 hf270 KdO.no (KdO.one hf271 (by omega) (by omega)) KdI.no hP hD hS hO (lv_sub hl [0, 1] rfl)
  · have n275 : r215 = 0 := (nI_eq (a := r215) (b := 0) (by omega) (by omega)).mp c217
    refine lv_aload_n hx hb dX8_forStatement_44 rfl (lv_at hl 0 rfl) ?_
    refine lv_aload_n hx hb dX8_forStatement_45 rfl (lv_at hl 1 rfl) ?_
    have hO : OKW G h0 a (upd (upd (upd (upd (upd (upd F 2 (nI sz)) 9 (nI ((at9 + 1) + 1))) 10 (nI dp)) 11 (nI sg)) 2 (nI sz)) 9 (nI ((at9 + 1) + 1))) R Z B J K10.1 (fun q99 x99 => x99 = rep G a K10 q99) w := hO.to rfl
    obtain ⟨_, qr279, hqr280⟩ := hO.2.1 23 _ (sg_23 G h0 a _ _ _ _ _)
    refine pc_V0 (G := G) (As := []) (rest := [.ref q1]) hx hb hml hown hq hE hX pX0_al hP hD hS hA hl.1 (P_beginsLocal l G h0 a (upd (upd (upd (upd F 2 (nI sz)) 9 (nI ((at9 + 1) + 1))) 10 (nI dp)) 11 (nI sg)) R Z B J K10.1 (fun q99 x99 => x99 = rep G a K10 q99) w ((at9 + 1) + 1) sz (by omega) (by omega) hO) (gV pw_1012 pw_1013 pw_1014 pw_796 pw_899) hV_X8_beginsLocal qr279 5 hqr280 rfl rfl rfl (Nat.le_of_ble_eq_true rfl) dX8_forStatement_46 ⟨(by show 1 + 0 ≤ (2 * (sz - at9) + 20); omega), (by show 11 + 0 ≤ (11 * (2 * (sz - at9) + 20)); omega)⟩ ⟨(by show 4 + 1 ≤ (50 * n + 58); omega), (by show 8 + (2 + 11) + 102 ≤ (1500 * n + 1650); omega)⟩ (fun v278 u276 H locs hw277 hP hD hS => ?_)
    obtain ⟨w, r281⟩ := u276
    obtain ⟨hw277, h282, hO⟩ := hw277
    have h282 : r281 ≤ 1 := h282
    obtain rfl : v278 = some (.int (nI r281)) := hw277
    have hO : OKP G h0 a (upd (upd (upd (upd F 2 (nI sz)) 9 (nI ((at9 + 1) + 1))) 10 (nI dp)) 11 (nI sg)) R Z B J K10 w := hO.to rfl
    refine W.widen (k := 1) (n := 11) (by show 1 + 0 ≤ 1; omega) (by show 11 + 0 ≤ 11; omega) ?_
    refine W.eq (g2 := F0 m 49 ls [.int (nI r281), .ref q1]) rfl ?_
    refine lv_if_eq (tgt := 60) hx hb dX8_forStatement_49 (by decide) (fun c283 => ?_) (fun c283 => ?_)
    · have n284 : r281 = 0 := (nI_eq (a := r281) (b := 0) (by omega) (by omega)).mp c283
      refine lv_aload_n hx hb dX8_forStatement_60 rfl (lv_at hl 1 rfl) ?_
      refine lv_iconst (v := 0) hx hb dX8_forStatement_61 (by decide) ?_
      have hO : OKP G h0 a (upd (upd (upd (upd (upd (upd (upd (upd (upd F 2 (nI sz)) 9 (nI at9)) 10 (nI dp)) 11 (nI sg)) 9 (nI ((at9 + 1) + 1))) 2 (nI sz)) 9 (nI ((at9 + 1) + 1))) 10 (nI dp)) 11 (nI sg)) R Z B J K10 w := hO.to rfl
      obtain ⟨_, qr288, hqr289⟩ := hO.2.1 23 _ (sg_23 G h0 a _ _ _ _ _)
      refine pn_V0 (G := G) (As := [.int (nI 0)]) (rest := [.ref q1]) hx hb hml hown hq hE hX pX0_al hP hD hS hA hl.1 (P_simple l G h0 a (upd (upd (upd (upd (upd F 2 (nI sz)) 9 (nI at9)) 10 (nI dp)) 11 (nI sg)) 9 (nI ((at9 + 1) + 1))) R Z B J K10 w 0 n ((at9 + 1) + 1) sz dp sg 0 (gset g q1 0 0 0) (by omega) (by omega) hdp (by omega) hns20.1 (fun o9 h9 => absurd h9 (by omega)) (by omega) hO hl0) (gV pw_1018 pw_1019 pw_1020 pw_796 pw_994) hV_X8_simple qr288 5 hqr289 rfl rfl rfl (Nat.le_of_ble_eq_true rfl) dX8_forStatement_62 ⟨(by show 1 + (2 * (sz - ((at9 + 1) + 1)) + 20) ≤ (2 * (sz - at9) + 20); omega), (by show 11 + (11 * (2 * (sz - ((at9 + 1) + 1)) + 20)) ≤ (11 * (2 * (sz - at9) + 20)); omega)⟩ ⟨(by show (40 * n + 44) + 1 ≤ (50 * n + 58); omega), (by show 8 + (5 + 11) + (1300 * n + 1400) ≤ (1500 * n + 1650); omega)⟩ (fun v287 u285 H locs hw286 hP hD hS => ?_) (fun ux ce9 q9 H9 locs9 hux hP9 hD9 hS9 hce hcv hcl => pb_out ux (ThQ.up (Thx.same (Thx.same (Thx.same (Thx.same (Thx.f Thx.rfl (by omega)) rfl) rfl) rfl) rfl) RhX.rfl hux) hnt hlocks hce hcv hcl hP9 hD9 hS9 (by show 1 + (2 * (sz - ((at9 + 1) + 1)) + 20) ≤ (2 * (sz - at9) + 20); omega) (by show 11 + (11 * (2 * (sz - ((at9 + 1) + 1)) + 20)) ≤ (11 * (2 * (sz - at9) + 20)); omega))
      obtain ⟨w, r290, K291, g292, at293, sg294, f295, k296⟩ := u285
      obtain ⟨hw286, h297, h298, h299, h300, hO⟩ := hw286
      have h297 : NwR K10 K291 (gset g q1 0 0 0) g292 r290 0 k296 (168) := h297
      have h298 : ((at9 + 1) + 1) + 1 ≤ at293 ∧ at293 ≤ sz := h298
      have h299 : sg ≤ sg294 ∧ sg294 ≤ 60 := h299
      have h300 : rS k296 = ((at9 + 1) + 1) ∧ rE k296 ≤ at293 ∧ rS k296 ≤ rE k296 := h300
      obtain rfl : v287 = some (.ref r290) := hw286
      have hf301 : K291.1 q1 = 1 := (((h297).2.1.1 q1 (by rw [hf12]; decide)).1).trans hf12
      have hf302 : K291.2.1 0 q1 = 27 := (((h297).2.1.1 q1 (by rw [hf12]; decide)).2.1 0).trans hf13
      have hf303 : K291.2.1 2 q1 = (nI at9) := (((h297).2.1.1 q1 (by rw [hf12]; decide)).2.1 2).trans hf14
      have hf304 : K291.2.2.1 0 q1 = none := (((h297).2.1.1 q1 (by rw [hf12]; decide)).2.2.1 0).trans hf15
      have hf305 : K291.2.2.1 1 q1 = none := (((h297).2.1.1 q1 (by rw [hf12]; decide)).2.2.1 1).trans hf16
      have hf306 : K291.2.2.1 2 q1 = none := (((h297).2.1.1 q1 (by rw [hf12]; decide)).2.2.1 2).trans hf17
      have hf307 : K291.2.2.1 3 q1 = none := (((h297).2.1.1 q1 (by rw [hf12]; decide)).2.2.1 3).trans hf18
      have hf308 : K291.2.2.1 4 q1 = none := (((h297).2.1.1 q1 (by rw [hf12]; decide)).2.2.1 4).trans hf19
      have hO : OKP G h0 a (upd (upd (upd (upd F 2 (nI sz)) 9 (nI at293)) 10 (nI dp)) 11 (nI sg294)) R Z (updA B 10 f295) J K291 w := hO.to rfl
      refine W.widen (k := (1 + (2 * (at293 - ((at9 + 1) + 1)) - 0))) (n := (11 + (11 * (2 * (at293 - ((at9 + 1) + 1)) - 0)))) (by show 1 + (2 * (at293 - ((at9 + 1) + 1)) - 0) ≤ (1 + (2 * (at293 - ((at9 + 1) + 1)) - 0)); omega) (by show 11 + (11 * (2 * (at293 - ((at9 + 1) + 1)) - 0)) ≤ (11 + (11 * (2 * (at293 - ((at9 + 1) + 1)) - 0))); omega) ?_
      refine W.eq (g2 := F0 m 65 ls [.ref r290, .ref q1]) rfl ?_
      have hns309 : NwS K K291 g g292 := NwS.call hns20 h297 (fun o9 h9 => absurd h9 (by omega))
      have hf310 : K291.1 r290 = 1 := h297.2.2.1.2.1
      have hg311 : g292 0 q1 = 0 := (h297.2.1.2 q1 (by rw [hf12]; decide) 0).trans hg22
      have hno312 : NoO K291 g292 q1 := NoO.call hno23 h297 hf12 (by omega)
      have hrk313 : g292 2 r290 = k296 := h297.2.2.1.2.2.2.2.2.1
      have hgy314 := h297.2.2.1
      have hgy314a := hgy314.2.2.1
      have hgy314b := hgy314.2.2.2.1
      refine p_put (v := .ref r290) (ty := (.object "JinjaTongue$Node")) (C := RX7) (Tc := TX7) (N := 11) (ci := 13) (K' := (kC K291 0 q1 (some r290))) hx hb hq pin_wsX70 tyX7 tyX7_ok nmX7 hown hE hP hD hS hO (by rw [hf301]; decide) (rep_1 hf301) rfl 6 (by decide) (hq _ pw_938) (fun _ h9 => h9) rfl (by decide +kernel) rfl rfl (Nat.le_of_ble_eq_true rfl) rfl (by rw [rep_1 (show (kC K291 0 q1 (some r290)).1 q1 = 1 from hf301), pc_0] <;> rfl) (fun p9 hp9 => rep_kC hp9) dX8_forStatement_65 (fun H locs w hP hD hS hO => ?_)
      obtain ⟨K315, hK316⟩ : ∃ z : PK, z = (kC K291 0 q1 (some r290)) := ⟨_, rfl⟩
      rw [← hK316] at hO
      have hf317 : K315.1 q1 = 1 := (by rw [hK316]; exact hf301)
      have hf318 : K315.2.1 0 q1 = 27 := (by rw [hK316]; exact hf302)
      have hf319 : K315.2.1 2 q1 = (nI at9) := (by rw [hK316]; exact hf303)
      have hf320 : K315.2.2.1 1 q1 = none := (by rw [hK316]; exact (kC_of (by decide)).trans hf305)
      have hf321 : K315.2.2.1 2 q1 = none := (by rw [hK316]; exact (kC_of (by decide)).trans hf306)
      have hf322 : K315.2.2.1 3 q1 = none := (by rw [hK316]; exact (kC_of (by decide)).trans hf307)
      have hf323 : K315.2.2.1 4 q1 = none := (by rw [hK316]; exact (kC_of (by decide)).trans hf308)
      have hf324 : K315.1 r290 = 1 := (by rw [hK316]; exact hf310)
      have hf325 : K315.2.2.1 0 q1 = some r290 := by rw [hK316]; exact kC_eq
      have hns326 : NwS K K315 g g292 := by rw [hK316]; exact NwS.put hns309 hq21 hg311
      have hno327 : NoO K315 g292 q1 := by rw [hK316]; exact hno312
      refine lv_aload_n hx hb dX8_forStatement_68 rfl (lv_at hl 1 rfl) ?_
      refine lv_bipush (v := 38) hx hb dX8_forStatement_69 (by decide) ?_
      have hO : OKW G h0 a (upd (upd (upd (upd (upd (upd (upd (upd F 2 (nI sz)) 9 (nI at9)) 10 (nI dp)) 11 (nI sg)) 9 (nI at293)) 11 (nI sg294)) 2 (nI sz)) 9 (nI at293)) R Z (updA B 10 f295) J K315.1 (fun q99 x99 => x99 = rep G a K315 q99) w := hO.to rfl
      obtain ⟨_, qr331, hqr332⟩ := hO.2.1 23 _ (sg_23 G h0 a _ _ _ _ _)
      refine pn_V0 (G := G) (As := [.int 38]) (rest := []) hx hb hml hown hq hE hX pX0_al hP hD hS hA hl.1 (P_take l G h0 a (upd (upd (upd (upd (upd (upd F 2 (nI sz)) 9 (nI at9)) 10 (nI dp)) 11 (nI sg)) 9 (nI at293)) 11 (nI sg294)) R Z (updA B 10 f295) J K315.1 (fun q99 x99 => x99 = rep G a K315 q99) w 38 at293 sz (by omega) (by omega) (by decide) hO hl0) (gV pw_793 pw_794 pw_795 pw_796 pw_781) hV_X8_take qr331 5 hqr332 rfl rfl rfl (Nat.le_of_ble_eq_true rfl) dX8_forStatement_71 ⟨(by show (1 + (2 * (at293 - ((at9 + 1) + 1)) - 0)) + 1 ≤ (2 * (sz - at9) + 20); omega), (by show (11 + (11 * (2 * (at293 - ((at9 + 1) + 1)) - 0))) + 6 ≤ (11 * (2 * (sz - at9) + 20)); omega)⟩ ⟨(by show 7 + 1 ≤ (50 * n + 58); omega), (by show 8 + (2 + 11) + 122 ≤ (1500 * n + 1650); omega)⟩ (fun v330 u328 H locs hw329 hP hD hS => ?_) (fun ux ce9 q9 H9 locs9 hux hP9 hD9 hS9 hce hcv hcl => pb_out ux (ThQ.up (Thx.same (Thx.same (Thx.b (Thx.f (Thx.f Thx.rfl (by omega)) (by omega)) (by omega) (by decide)) rfl) rfl) RhX.rfl hux) hnt hlocks hce hcv hcl hP9 hD9 hS9 (by show (1 + (2 * (at293 - ((at9 + 1) + 1)) - 0)) + 1 ≤ (2 * (sz - at9) + 20); omega) (by show (11 + (11 * (2 * (at293 - ((at9 + 1) + 1)) - 0))) + 6 ≤ (11 * (2 * (sz - at9) + 20)); omega))
      obtain ⟨w, _⟩ := u328
      obtain ⟨hw329, h333, hO⟩ := hw329
      have h333 : at293 + 1 ≤ sz := h333
      obtain rfl : v330 = some (.int (nI at293)) := hw329
      have hO : OKP G h0 a (upd (upd (upd (upd F 2 (nI sz)) 9 (nI (at293 + 1))) 10 (nI dp)) 11 (nI sg294)) R Z (updA B 10 f295) J K315 w := hO.to rfl
      refine W.widen (k := (1 + (2 * (at293 - ((at9 + 1) + 1)) - 0))) (n := (11 + (11 * (2 * (at293 - ((at9 + 1) + 1)) - 0)))) (by show (1 + (2 * (at293 - ((at9 + 1) + 1)) - 0)) + 0 ≤ (1 + (2 * (at293 - ((at9 + 1) + 1)) - 0)); omega) (by show (11 + (11 * (2 * (at293 - ((at9 + 1) + 1)) - 0))) + 0 ≤ (11 + (11 * (2 * (at293 - ((at9 + 1) + 1)) - 0))); omega) ?_
      refine W.eq (g2 := F0 m 74 ls [.int (nI at293)]) rfl ?_
      refine lv_pop hx hb dX8_forStatement_74 rfl ?_
      refine lv_aload_n hx hb dX8_forStatement_75 rfl (lv_at hl 1 rfl) ?_
      refine lv_bipush (v := 38) hx hb dX8_forStatement_76 (by decide) ?_
      have hO : OKW G h0 a (upd (upd (upd (upd (upd (upd F 2 (nI sz)) 9 (nI (at293 + 1))) 10 (nI dp)) 11 (nI sg294)) 2 (nI sz)) 9 (nI (at293 + 1))) R Z (updA B 10 f295) J K315.1 (fun q99 x99 => x99 = rep G a K315 q99) w := hO.to rfl
      obtain ⟨_, qr337, hqr338⟩ := hO.2.1 23 _ (sg_23 G h0 a _ _ _ _ _)
      refine pc_V0 (G := G) (As := [.int 38]) (rest := []) hx hb hml hown hq hE hX pX0_al hP hD hS hA hl.1 (P_sees l G h0 a (upd (upd (upd (upd F 2 (nI sz)) 9 (nI (at293 + 1))) 10 (nI dp)) 11 (nI sg294)) R Z (updA B 10 f295) J K315.1 (fun q99 x99 => x99 = rep G a K315 q99) w 38 (at293 + 1) sz (by omega) (by omega) hO) (gV pw_803 pw_804 pw_805 pw_796 pw_775) hV_X8_sees qr337 5 hqr338 rfl rfl rfl (Nat.le_of_ble_eq_true rfl) dX8_forStatement_78 ⟨(by show (1 + (2 * (at293 - ((at9 + 1) + 1)) - 0)) + 0 ≤ (2 * (sz - at9) + 20); omega), (by show (11 + (11 * (2 * (at293 - ((at9 + 1) + 1)) - 0))) + 0 ≤ (11 * (2 * (sz - at9) + 20)); omega)⟩ ⟨(by show 3 + 1 ≤ (50 * n + 58); omega), (by show 8 + (2 + 11) + 81 ≤ (1500 * n + 1650); omega)⟩ (fun v336 u334 H locs hw335 hP hD hS => ?_)
      obtain ⟨w, r339⟩ := u334
      obtain ⟨hw335, h340, hO⟩ := hw335
      have h340 : r339 ≤ 1 := h340
      obtain rfl : v336 = some (.int (nI r339)) := hw335
      have hO : OKP G h0 a (upd (upd (upd (upd F 2 (nI sz)) 9 (nI (at293 + 1))) 10 (nI dp)) 11 (nI sg294)) R Z (updA B 10 f295) J K315 w := hO.to rfl
      refine W.widen (k := (1 + (2 * (at293 - ((at9 + 1) + 1)) - 0))) (n := (11 + (11 * (2 * (at293 - ((at9 + 1) + 1)) - 0)))) (by show (1 + (2 * (at293 - ((at9 + 1) + 1)) - 0)) + 0 ≤ (1 + (2 * (at293 - ((at9 + 1) + 1)) - 0)); omega) (by show (11 + (11 * (2 * (at293 - ((at9 + 1) + 1)) - 0))) + 0 ≤ (11 + (11 * (2 * (at293 - ((at9 + 1) + 1)) - 0))); omega) ?_
      refine W.eq (g2 := F0 m 81 ls [.int (nI r339)]) rfl ?_
      refine lv_if_ne (tgt := 92) hx hb dX8_forStatement_81 (by decide) (fun c341 => ?_) (fun c341 => ?_)
      · have n342 : ¬ (r339 = 0) := fun h9 => c341 ((nI_eq (a := r339) (b := 0) (by omega) (by omega)).mpr h9)
        refine W.widen (k := (2 * ((at293 + 1) - at9) - 4)) (n := (11 * (2 * ((at293 + 1) - at9) - 4))) (by show (1 + (2 * (at293 - ((at9 + 1) + 1)) - 0)) ≤ _; omega) (by show (11 + (11 * (2 * (at293 - ((at9 + 1) + 1)) - 0))) ≤ _; omega) ?_
        have hO : OKP G h0 a (upd (upd (upd (upd F 2 (nI sz)) 9 (nI (at293 + 1))) 10 (nI dp)) 11 (nI sg294)) R Z (updA B 10 f295) J K315 w := hO.to rfl
        exact cut_j (at293 + 1) sg294 f295 K315 g292 q1 (some r290) none _ _ _ _ (by omega) (by omega) hns326 hq21 hf317 hg311 hno327 hf318 hf325 hf320 hf321 hf322 hf323 (KdO.one hf324 (by omega) (by omega)) KdO.no (KdI.one hrk313 (by omega)) hP hD hS hO (lv_sub hl [0, 1] rfl)
      · have n343 : r339 = 0 := (nI_eq (a := r339) (b := 0) (by omega) (by omega)).mp c341
        refine lv_aload_n hx hb dX8_forStatement_84 rfl (lv_at hl 0 rfl) ?_
        refine lv_aload_n hx hb dX8_forStatement_85 rfl (lv_at hl 1 rfl) ?_
        have hO : OKP G h0 a (upd (upd (upd (upd (upd (upd (upd (upd (upd (upd F 2 (nI sz)) 9 (nI at9)) 10 (nI dp)) 11 (nI sg)) 9 (nI (at293 + 1))) 11 (nI sg294)) 2 (nI sz)) 9 (nI (at293 + 1))) 10 (nI dp)) 11 (nI sg294)) R Z (updA B 10 f295) J K315 w := hO.to rfl
        obtain ⟨_, qr347, hqr348⟩ := hO.2.1 23 _ (sg_23 G h0 a _ _ _ _ _)
        refine pn_V0 (G := G) (As := []) (rest := [.ref q1]) hx hb hml hown hq hE hX pX0_al hP hD hS hA hl.1 (((PE_all l G n).1) h0 a (upd (upd (upd (upd (upd (upd F 2 (nI sz)) 9 (nI at9)) 10 (nI dp)) 11 (nI sg)) 9 (nI (at293 + 1))) 11 (nI sg294)) R Z (updA B 10 f295) J K315 w (at293 + 1) sz dp sg294 0 g292 (by omega) (by omega) hdp (by omega) hns326.1 (fun o9 h9 => absurd h9 (by omega)) hO hl0) (gV pw_916 pw_917 pw_918 pw_796 pw_942) hV_X8_expression qr347 5 hqr348 rfl rfl rfl (Nat.le_of_ble_eq_true rfl) dX8_forStatement_86 ⟨(by show (1 + (2 * (at293 - ((at9 + 1) + 1)) - 0)) + (2 * (sz - (at293 + 1)) + 20) ≤ (2 * (sz - at9) + 20); omega), (by show (11 + (11 * (2 * (at293 - ((at9 + 1) + 1)) - 0))) + (11 * (2 * (sz - (at293 + 1)) + 20)) ≤ (11 * (2 * (sz - at9) + 20)); omega)⟩ ⟨(by show (40 * n + 40) + 1 ≤ (50 * n + 58); omega), (by show 8 + (3 + 11) + (1300 * n + 1300) ≤ (1500 * n + 1650); omega)⟩ (fun v346 u344 H locs hw345 hP hD hS => ?_) (fun ux ce9 q9 H9 locs9 hux hP9 hD9 hS9 hce hcv hcl => pb_out ux (ThQ.up (Thx.same (Thx.same (Thx.same (Thx.same (Thx.b (Thx.f (Thx.f Thx.rfl (by omega)) (by omega)) (by omega) (by decide)) rfl) rfl) rfl) rfl) RhX.rfl hux) hnt hlocks hce hcv hcl hP9 hD9 hS9 (by show (1 + (2 * (at293 - ((at9 + 1) + 1)) - 0)) + (2 * (sz - (at293 + 1)) + 20) ≤ (2 * (sz - at9) + 20); omega) (by show (11 + (11 * (2 * (at293 - ((at9 + 1) + 1)) - 0))) + (11 * (2 * (sz - (at293 + 1)) + 20)) ≤ (11 * (2 * (sz - at9) + 20)); omega))
        obtain ⟨w, r349, K350, g351, at352, sg353, f354⟩ := u344
        obtain ⟨hw345, h355, h356, h357, hO⟩ := hw345
        have h355 : NwR K315 K350 g292 g351 r349 0 (at293 + 1) (5 * (20 - dp) + 6 + (sg353 - sg294)) := h355
        have h356 : (at293 + 1) + 1 ≤ at352 ∧ at352 ≤ sz := h356
        have h357 : sg294 ≤ sg353 ∧ sg353 ≤ 60 := h357
        obtain rfl : v346 = some (.ref r349) := hw345
        have hf358 : K350.1 q1 = 1 := (((h355).2.1.1 q1 (by rw [hf317]; decide)).1).trans hf317
        have hf359 : K350.2.1 0 q1 = 27 := (((h355).2.1.1 q1 (by rw [hf317]; decide)).2.1 0).trans hf318
        have hf360 : K350.2.1 2 q1 = (nI at9) := (((h355).2.1.1 q1 (by rw [hf317]; decide)).2.1 2).trans hf319
        have hf361 : K350.2.2.1 1 q1 = none := (((h355).2.1.1 q1 (by rw [hf317]; decide)).2.2.1 1).trans hf320
        have hf362 : K350.2.2.1 2 q1 = none := (((h355).2.1.1 q1 (by rw [hf317]; decide)).2.2.1 2).trans hf321
        have hf363 : K350.2.2.1 3 q1 = none := (((h355).2.1.1 q1 (by rw [hf317]; decide)).2.2.1 3).trans hf322
        have hf364 : K350.2.2.1 4 q1 = none := (((h355).2.1.1 q1 (by rw [hf317]; decide)).2.2.1 4).trans hf323
        have hf365 : K350.1 r290 = 1 := (((h355).2.1.1 r290 (by rw [hf324]; decide)).1).trans hf324
        have hf366 : K350.2.2.1 0 q1 = some r290 := (((h355).2.1.1 q1 (by rw [hf317]; decide)).2.2.1 0).trans hf325
        have hO : OKP G h0 a (upd (upd (upd (upd F 2 (nI sz)) 9 (nI at352)) 10 (nI dp)) 11 (nI sg353)) R Z (updA B 10 f354) J K350 w := hO.to rfl
        refine W.widen (k := ((1 + (2 * (at293 - ((at9 + 1) + 1)) - 0)) + (2 * (at352 - (at293 + 1)) - 1))) (n := ((11 + (11 * (2 * (at293 - ((at9 + 1) + 1)) - 0))) + (11 * (2 * (at352 - (at293 + 1)) - 1)))) (by show (1 + (2 * (at293 - ((at9 + 1) + 1)) - 0)) + (2 * (at352 - (at293 + 1)) - 1) ≤ ((1 + (2 * (at293 - ((at9 + 1) + 1)) - 0)) + (2 * (at352 - (at293 + 1)) - 1)); omega) (by show (11 + (11 * (2 * (at293 - ((at9 + 1) + 1)) - 0))) + (11 * (2 * (at352 - (at293 + 1)) - 1)) ≤ ((11 + (11 * (2 * (at293 - ((at9 + 1) + 1)) - 0))) + (11 * (2 * (at352 - (at293 + 1)) - 1))); omega) ?_
        refine W.eq (g2 := F0 m 89 ls [.ref r349, .ref q1]) rfl ?_
        have hns367 : NwS K K350 g g351 := NwS.call hns326 h355 (fun o9 h9 => absurd h9 (by omega))
        have hf368 : K350.1 r349 = 1 := h355.2.2.1.2.1
        have hg369 : g351 0 q1 = 0 := (h355.2.1.2 q1 (by rw [hf317]; decide) 0).trans hg311
        have hno370 : NoO K350 g351 q1 := NoO.call hno327 h355 hf317 (by omega)
        have hgz371 : g351 0 r290 = g292 0 r290 := h355.2.1.2 r290 (by rw [hf324]; decide) 0
        have hrk372 : g351 2 r290 = k296 := (h355.2.1.2 r290 (by rw [hf324]; decide) 2).trans hrk313
        have hgy373 := h355.2.2.1
        have hgy373a := hgy373.2.2.1
        have hgy373b := hgy373.2.2.2.1
        refine p_put (v := .ref r349) (ty := (.object "JinjaTongue$Node")) (C := RX7) (Tc := TX7) (N := 11) (ci := 13) (K' := (kC K350 1 q1 (some r349))) hx hb hq pin_wsX70 tyX7 tyX7_ok nmX7 hown hE hP hD hS hO (by rw [hf358]; decide) (rep_1 hf358) rfl 7 (by decide) (hq _ pw_910) (fun _ h9 => h9) rfl (by decide +kernel) rfl rfl (Nat.le_of_ble_eq_true rfl) rfl (by rw [rep_1 (show (kC K350 1 q1 (some r349)).1 q1 = 1 from hf358), pc_1] <;> rfl) (fun p9 hp9 => rep_kC hp9) dX8_forStatement_89 (fun H locs w hP hD hS hO => ?_)
        obtain ⟨K374, hK375⟩ : ∃ z : PK, z = (kC K350 1 q1 (some r349)) := ⟨_, rfl⟩
        rw [← hK375] at hO
        have hf376 : K374.1 q1 = 1 := (by rw [hK375]; exact hf358)
        have hf377 : K374.2.1 0 q1 = 27 := (by rw [hK375]; exact hf359)
        have hf378 : K374.2.1 2 q1 = (nI at9) := (by rw [hK375]; exact hf360)
        have hf379 : K374.2.2.1 2 q1 = none := (by rw [hK375]; exact (kC_of (by decide)).trans hf362)
        have hf380 : K374.2.2.1 3 q1 = none := (by rw [hK375]; exact (kC_of (by decide)).trans hf363)
        have hf381 : K374.2.2.1 4 q1 = none := (by rw [hK375]; exact (kC_of (by decide)).trans hf364)
        have hf382 : K374.1 r290 = 1 := (by rw [hK375]; exact hf365)
        have hf383 : K374.2.2.1 0 q1 = some r290 := (by rw [hK375]; exact (kC_of (by decide)).trans hf366)
        have hf384 : K374.1 r349 = 1 := (by rw [hK375]; exact hf368)
        have hf385 : K374.2.2.1 1 q1 = some r349 := by rw [hK375]; exact kC_eq
        have hns386 : NwS K K374 g g351 := by rw [hK375]; exact NwS.put hns367 hq21 hg369
        have hno387 : NoO K374 g351 q1 := by rw [hK375]; exact hno370
        refine W.widen (k := (2 * (at352 - at9) - 4)) (n := (11 * (2 * (at352 - at9) - 4))) (by show ((1 + (2 * (at293 - ((at9 + 1) + 1)) - 0)) + (2 * (at352 - (at293 + 1)) - 1)) ≤ _; omega) (by show ((11 + (11 * (2 * (at293 - ((at9 + 1) + 1)) - 0))) + (11 * (2 * (at352 - (at293 + 1)) - 1))) ≤ _; omega) ?_
        have hO : OKP G h0 a (upd (upd (upd (upd F 2 (nI sz)) 9 (nI at352)) 10 (nI dp)) 11 (nI sg353)) R Z (updA B 10 f354) J K374 w := hO.to rfl
        exact cut_j at352 sg353 f354 K374 g351 q1 (some r290) (some r349) _ _ _ _ (by omega) (by omega) hns386 hq21 hf376 hg369 hno387 hf377 hf383 hf385 hf379 hf380 hf381 (KdO.one hf382 (by omega) (by omega)) (KdO.one hf384 (by omega) (by omega)) (KdI.one hrk372 (by omega)) hP hD hS hO (lv_sub hl [0, 1] rfl)
    · have n388 : ¬ (r281 = 0) := fun h9 => c283 ((nI_eq (a := r281) (b := 0) (by omega) (by omega)).mpr h9)
      refine lv_aload_n hx hb dX8_forStatement_52 rfl (lv_at hl 1 rfl) ?_
      refine lv_iconst (v := 0) hx hb dX8_forStatement_53 (by decide) ?_
      have hO : OKP G h0 a (upd (upd (upd (upd (upd (upd (upd (upd (upd F 2 (nI sz)) 9 (nI at9)) 10 (nI dp)) 11 (nI sg)) 9 (nI ((at9 + 1) + 1))) 2 (nI sz)) 9 (nI ((at9 + 1) + 1))) 10 (nI dp)) 11 (nI sg)) R Z B J K10 w := hO.to rfl
      obtain ⟨_, qr392, hqr393⟩ := hO.2.1 23 _ (sg_23 G h0 a _ _ _ _ _)
      refine pn_V0 (G := G) (As := [.int (nI 0)]) (rest := [.ref q1]) hx hb hml hown hq hE hX pX0_al hP hD hS hA hl.1 (P_lokal l G h0 a (upd (upd (upd (upd (upd F 2 (nI sz)) 9 (nI at9)) 10 (nI dp)) 11 (nI sg)) 9 (nI ((at9 + 1) + 1))) R Z B J K10 w 0 n ((at9 + 1) + 1) sz dp sg 0 (gset g q1 0 0 0) (by omega) (by omega) hdp (by omega) hns20.1 (fun o9 h9 => absurd h9 (by omega)) (by omega) hO hl0) (gV pw_1015 pw_1016 pw_1017 pw_796 pw_987) hV_X8_local qr392 5 hqr393 rfl rfl rfl (Nat.le_of_ble_eq_true rfl) dX8_forStatement_54 ⟨(by show 1 + (2 * (sz - ((at9 + 1) + 1)) + 20) ≤ (2 * (sz - at9) + 20); omega), (by show 11 + (11 * (2 * (sz - ((at9 + 1) + 1)) + 20)) ≤ (11 * (2 * (sz - at9) + 20)); omega)⟩ ⟨(by show (40 * n + 44) + 1 ≤ (50 * n + 58); omega), (by show 8 + (4 + 11) + (1300 * n + 1400) ≤ (1500 * n + 1650); omega)⟩ (fun v391 u389 H locs hw390 hP hD hS => ?_) (fun ux ce9 q9 H9 locs9 hux hP9 hD9 hS9 hce hcv hcl => pb_out ux (ThQ.up (Thx.same (Thx.same (Thx.same (Thx.same (Thx.f Thx.rfl (by omega)) rfl) rfl) rfl) rfl) RhX.rfl hux) hnt hlocks hce hcv hcl hP9 hD9 hS9 (by show 1 + (2 * (sz - ((at9 + 1) + 1)) + 20) ≤ (2 * (sz - at9) + 20); omega) (by show 11 + (11 * (2 * (sz - ((at9 + 1) + 1)) + 20)) ≤ (11 * (2 * (sz - at9) + 20)); omega))
      obtain ⟨w, r394, K395, g396, at397, sg398, f399, k400⟩ := u389
      obtain ⟨hw390, h401, h402, h403, h404, hO⟩ := hw390
      have h401 : NwR K10 K395 (gset g q1 0 0 0) g396 r394 0 k400 (168) := h401
      have h402 : ((at9 + 1) + 1) + 2 ≤ at397 ∧ at397 ≤ sz := h402
      have h403 : sg ≤ sg398 ∧ sg398 ≤ 60 := h403
      have h404 : rS k400 = ((at9 + 1) + 1) ∧ rE k400 ≤ at397 ∧ rS k400 ≤ rE k400 := h404
      obtain rfl : v391 = some (.ref r394) := hw390
      have hf405 : K395.1 q1 = 1 := (((h401).2.1.1 q1 (by rw [hf12]; decide)).1).trans hf12
      have hf406 : K395.2.1 0 q1 = 27 := (((h401).2.1.1 q1 (by rw [hf12]; decide)).2.1 0).trans hf13
      have hf407 : K395.2.1 2 q1 = (nI at9) := (((h401).2.1.1 q1 (by rw [hf12]; decide)).2.1 2).trans hf14
      have hf408 : K395.2.2.1 0 q1 = none := (((h401).2.1.1 q1 (by rw [hf12]; decide)).2.2.1 0).trans hf15
      have hf409 : K395.2.2.1 1 q1 = none := (((h401).2.1.1 q1 (by rw [hf12]; decide)).2.2.1 1).trans hf16
      have hf410 : K395.2.2.1 2 q1 = none := (((h401).2.1.1 q1 (by rw [hf12]; decide)).2.2.1 2).trans hf17
      have hf411 : K395.2.2.1 3 q1 = none := (((h401).2.1.1 q1 (by rw [hf12]; decide)).2.2.1 3).trans hf18
      have hf412 : K395.2.2.1 4 q1 = none := (((h401).2.1.1 q1 (by rw [hf12]; decide)).2.2.1 4).trans hf19
      have hO : OKP G h0 a (upd (upd (upd (upd F 2 (nI sz)) 9 (nI at397)) 10 (nI dp)) 11 (nI sg398)) R Z (updA B 10 f399) J K395 w := hO.to rfl
      refine W.widen (k := (1 + (2 * (at397 - ((at9 + 1) + 1)) - 3))) (n := (11 + (11 * (2 * (at397 - ((at9 + 1) + 1)) - 3)))) (by show 1 + (2 * (at397 - ((at9 + 1) + 1)) - 3) ≤ (1 + (2 * (at397 - ((at9 + 1) + 1)) - 3)); omega) (by show 11 + (11 * (2 * (at397 - ((at9 + 1) + 1)) - 3)) ≤ (11 + (11 * (2 * (at397 - ((at9 + 1) + 1)) - 3))); omega) ?_
      refine W.eq (g2 := F0 m 57 ls [.ref r394, .ref q1]) rfl ?_
      have hns413 : NwS K K395 g g396 := NwS.call hns20 h401 (fun o9 h9 => absurd h9 (by omega))
      have hf414 : K395.1 r394 = 1 := h401.2.2.1.2.1
      have hg415 : g396 0 q1 = 0 := (h401.2.1.2 q1 (by rw [hf12]; decide) 0).trans hg22
      have hno416 : NoO K395 g396 q1 := NoO.call hno23 h401 hf12 (by omega)
      have hrk417 : g396 2 r394 = k400 := h401.2.2.1.2.2.2.2.2.1
      have hgy418 := h401.2.2.1
      have hgy418a := hgy418.2.2.1
      have hgy418b := hgy418.2.2.2.1
      refine lv_goto (tgt := 65) hx hb dX8_forStatement_57 (by decide) ?_
      refine p_put (v := .ref r394) (ty := (.object "JinjaTongue$Node")) (C := RX7) (Tc := TX7) (N := 11) (ci := 13) (K' := (kC K395 0 q1 (some r394))) hx hb hq pin_wsX70 tyX7 tyX7_ok nmX7 hown hE hP hD hS hO (by rw [hf405]; decide) (rep_1 hf405) rfl 6 (by decide) (hq _ pw_938) (fun _ h9 => h9) rfl (by decide +kernel) rfl rfl (Nat.le_of_ble_eq_true rfl) rfl (by rw [rep_1 (show (kC K395 0 q1 (some r394)).1 q1 = 1 from hf405), pc_0] <;> rfl) (fun p9 hp9 => rep_kC hp9) dX8_forStatement_65 (fun H locs w hP hD hS hO => ?_)
      obtain ⟨K419, hK420⟩ : ∃ z : PK, z = (kC K395 0 q1 (some r394)) := ⟨_, rfl⟩
      rw [← hK420] at hO
      have hf421 : K419.1 q1 = 1 := (by rw [hK420]; exact hf405)
      have hf422 : K419.2.1 0 q1 = 27 := (by rw [hK420]; exact hf406)
      have hf423 : K419.2.1 2 q1 = (nI at9) := (by rw [hK420]; exact hf407)
      have hf424 : K419.2.2.1 1 q1 = none := (by rw [hK420]; exact (kC_of (by decide)).trans hf409)
      have hf425 : K419.2.2.1 2 q1 = none := (by rw [hK420]; exact (kC_of (by decide)).trans hf410)
      have hf426 : K419.2.2.1 3 q1 = none := (by rw [hK420]; exact (kC_of (by decide)).trans hf411)
      have hf427 : K419.2.2.1 4 q1 = none := (by rw [hK420]; exact (kC_of (by decide)).trans hf412)
      have hf428 : K419.1 r394 = 1 := (by rw [hK420]; exact hf414)
      have hf429 : K419.2.2.1 0 q1 = some r394 := by rw [hK420]; exact kC_eq
      have hns430 : NwS K K419 g g396 := by rw [hK420]; exact NwS.put hns413 hq21 hg415
      have hno431 : NoO K419 g396 q1 := by rw [hK420]; exact hno416
      refine lv_aload_n hx hb dX8_forStatement_68 rfl (lv_at hl 1 rfl) ?_
      refine lv_bipush (v := 38) hx hb dX8_forStatement_69 (by decide) ?_
      have hO : OKW G h0 a (upd (upd (upd (upd (upd (upd (upd (upd F 2 (nI sz)) 9 (nI at9)) 10 (nI dp)) 11 (nI sg)) 9 (nI at397)) 11 (nI sg398)) 2 (nI sz)) 9 (nI at397)) R Z (updA B 10 f399) J K419.1 (fun q99 x99 => x99 = rep G a K419 q99) w := hO.to rfl
      obtain ⟨_, qr435, hqr436⟩ := hO.2.1 23 _ (sg_23 G h0 a _ _ _ _ _)
      refine pn_V0 (G := G) (As := [.int 38]) (rest := []) hx hb hml hown hq hE hX pX0_al hP hD hS hA hl.1 (P_take l G h0 a (upd (upd (upd (upd (upd (upd F 2 (nI sz)) 9 (nI at9)) 10 (nI dp)) 11 (nI sg)) 9 (nI at397)) 11 (nI sg398)) R Z (updA B 10 f399) J K419.1 (fun q99 x99 => x99 = rep G a K419 q99) w 38 at397 sz (by omega) (by omega) (by decide) hO hl0) (gV pw_793 pw_794 pw_795 pw_796 pw_781) hV_X8_take qr435 5 hqr436 rfl rfl rfl (Nat.le_of_ble_eq_true rfl) dX8_forStatement_71 ⟨(by show (1 + (2 * (at397 - ((at9 + 1) + 1)) - 3)) + 1 ≤ (2 * (sz - at9) + 20); omega), (by show (11 + (11 * (2 * (at397 - ((at9 + 1) + 1)) - 3))) + 6 ≤ (11 * (2 * (sz - at9) + 20)); omega)⟩ ⟨(by show 7 + 1 ≤ (50 * n + 58); omega), (by show 8 + (2 + 11) + 122 ≤ (1500 * n + 1650); omega)⟩ (fun v434 u432 H locs hw433 hP hD hS => ?_) (fun ux ce9 q9 H9 locs9 hux hP9 hD9 hS9 hce hcv hcl => pb_out ux (ThQ.up (Thx.same (Thx.same (Thx.b (Thx.f (Thx.f Thx.rfl (by omega)) (by omega)) (by omega) (by decide)) rfl) rfl) RhX.rfl hux) hnt hlocks hce hcv hcl hP9 hD9 hS9 (by show (1 + (2 * (at397 - ((at9 + 1) + 1)) - 3)) + 1 ≤ (2 * (sz - at9) + 20); omega) (by show (11 + (11 * (2 * (at397 - ((at9 + 1) + 1)) - 3))) + 6 ≤ (11 * (2 * (sz - at9) + 20)); omega))
      obtain ⟨w, _⟩ := u432
      obtain ⟨hw433, h437, hO⟩ := hw433
      have h437 : at397 + 1 ≤ sz := h437
      obtain rfl : v434 = some (.int (nI at397)) := hw433
      have hO : OKP G h0 a (upd (upd (upd (upd F 2 (nI sz)) 9 (nI (at397 + 1))) 10 (nI dp)) 11 (nI sg398)) R Z (updA B 10 f399) J K419 w := hO.to rfl
      refine W.widen (k := (1 + (2 * (at397 - ((at9 + 1) + 1)) - 3))) (n := (11 + (11 * (2 * (at397 - ((at9 + 1) + 1)) - 3)))) (by show (1 + (2 * (at397 - ((at9 + 1) + 1)) - 3)) + 0 ≤ (1 + (2 * (at397 - ((at9 + 1) + 1)) - 3)); omega) (by show (11 + (11 * (2 * (at397 - ((at9 + 1) + 1)) - 3))) + 0 ≤ (11 + (11 * (2 * (at397 - ((at9 + 1) + 1)) - 3))); omega) ?_
      refine W.eq (g2 := F0 m 74 ls [.int (nI at397)]) rfl ?_
      refine lv_pop hx hb dX8_forStatement_74 rfl ?_
      refine lv_aload_n hx hb dX8_forStatement_75 rfl (lv_at hl 1 rfl) ?_
      refine lv_bipush (v := 38) hx hb dX8_forStatement_76 (by decide) ?_
      have hO : OKW G h0 a (upd (upd (upd (upd (upd (upd F 2 (nI sz)) 9 (nI (at397 + 1))) 10 (nI dp)) 11 (nI sg398)) 2 (nI sz)) 9 (nI (at397 + 1))) R Z (updA B 10 f399) J K419.1 (fun q99 x99 => x99 = rep G a K419 q99) w := hO.to rfl
      obtain ⟨_, qr441, hqr442⟩ := hO.2.1 23 _ (sg_23 G h0 a _ _ _ _ _)
      refine pc_V0 (G := G) (As := [.int 38]) (rest := []) hx hb hml hown hq hE hX pX0_al hP hD hS hA hl.1 (P_sees l G h0 a (upd (upd (upd (upd F 2 (nI sz)) 9 (nI (at397 + 1))) 10 (nI dp)) 11 (nI sg398)) R Z (updA B 10 f399) J K419.1 (fun q99 x99 => x99 = rep G a K419 q99) w 38 (at397 + 1) sz (by omega) (by omega) hO) (gV pw_803 pw_804 pw_805 pw_796 pw_775) hV_X8_sees qr441 5 hqr442 rfl rfl rfl (Nat.le_of_ble_eq_true rfl) dX8_forStatement_78 ⟨(by show (1 + (2 * (at397 - ((at9 + 1) + 1)) - 3)) + 0 ≤ (2 * (sz - at9) + 20); omega), (by show (11 + (11 * (2 * (at397 - ((at9 + 1) + 1)) - 3))) + 0 ≤ (11 * (2 * (sz - at9) + 20)); omega)⟩ ⟨(by show 3 + 1 ≤ (50 * n + 58); omega), (by show 8 + (2 + 11) + 81 ≤ (1500 * n + 1650); omega)⟩ (fun v440 u438 H locs hw439 hP hD hS => ?_)
      obtain ⟨w, r443⟩ := u438
      obtain ⟨hw439, h444, hO⟩ := hw439
      have h444 : r443 ≤ 1 := h444
      obtain rfl : v440 = some (.int (nI r443)) := hw439
      have hO : OKP G h0 a (upd (upd (upd (upd F 2 (nI sz)) 9 (nI (at397 + 1))) 10 (nI dp)) 11 (nI sg398)) R Z (updA B 10 f399) J K419 w := hO.to rfl
      refine W.widen (k := (1 + (2 * (at397 - ((at9 + 1) + 1)) - 3))) (n := (11 + (11 * (2 * (at397 - ((at9 + 1) + 1)) - 3)))) (by show (1 + (2 * (at397 - ((at9 + 1) + 1)) - 3)) + 0 ≤ (1 + (2 * (at397 - ((at9 + 1) + 1)) - 3)); omega) (by show (11 + (11 * (2 * (at397 - ((at9 + 1) + 1)) - 3))) + 0 ≤ (11 + (11 * (2 * (at397 - ((at9 + 1) + 1)) - 3))); omega) ?_
      refine W.eq (g2 := F0 m 81 ls [.int (nI r443)]) rfl ?_
      refine lv_if_ne (tgt := 92) hx hb dX8_forStatement_81 (by decide) (fun c445 => ?_) (fun c445 => ?_)
      · have n446 : ¬ (r443 = 0) := fun h9 => c445 ((nI_eq (a := r443) (b := 0) (by omega) (by omega)).mpr h9)
        refine W.widen (k := (2 * ((at397 + 1) - at9) - 4)) (n := (11 * (2 * ((at397 + 1) - at9) - 4))) (by show (1 + (2 * (at397 - ((at9 + 1) + 1)) - 3)) ≤ _; omega) (by show (11 + (11 * (2 * (at397 - ((at9 + 1) + 1)) - 3))) ≤ _; omega) ?_
        have hO : OKP G h0 a (upd (upd (upd (upd F 2 (nI sz)) 9 (nI (at397 + 1))) 10 (nI dp)) 11 (nI sg398)) R Z (updA B 10 f399) J K419 w := hO.to rfl
        exact cut_j (at397 + 1) sg398 f399 K419 g396 q1 (some r394) none _ _ _ _ (by omega) (by omega) hns430 hq21 hf421 hg415 hno431 hf422 hf429 hf424 hf425 hf426 hf427 (KdO.one hf428 (by omega) (by omega)) KdO.no (KdI.one hrk417 (by omega)) hP hD hS hO (lv_sub hl [0, 1] rfl)
      · have n447 : r443 = 0 := (nI_eq (a := r443) (b := 0) (by omega) (by omega)).mp c445
        refine lv_aload_n hx hb dX8_forStatement_84 rfl (lv_at hl 0 rfl) ?_
        refine lv_aload_n hx hb dX8_forStatement_85 rfl (lv_at hl 1 rfl) ?_
        have hO : OKP G h0 a (upd (upd (upd (upd (upd (upd (upd (upd (upd (upd F 2 (nI sz)) 9 (nI at9)) 10 (nI dp)) 11 (nI sg)) 9 (nI (at397 + 1))) 11 (nI sg398)) 2 (nI sz)) 9 (nI (at397 + 1))) 10 (nI dp)) 11 (nI sg398)) R Z (updA B 10 f399) J K419 w := hO.to rfl
        obtain ⟨_, qr451, hqr452⟩ := hO.2.1 23 _ (sg_23 G h0 a _ _ _ _ _)
        refine pn_V0 (G := G) (As := []) (rest := [.ref q1]) hx hb hml hown hq hE hX pX0_al hP hD hS hA hl.1 (((PE_all l G n).1) h0 a (upd (upd (upd (upd (upd (upd F 2 (nI sz)) 9 (nI at9)) 10 (nI dp)) 11 (nI sg)) 9 (nI (at397 + 1))) 11 (nI sg398)) R Z (updA B 10 f399) J K419 w (at397 + 1) sz dp sg398 0 g396 (by omega) (by omega) hdp (by omega) hns430.1 (fun o9 h9 => absurd h9 (by omega)) hO hl0) (gV pw_916 pw_917 pw_918 pw_796 pw_942) hV_X8_expression qr451 5 hqr452 rfl rfl rfl (Nat.le_of_ble_eq_true rfl) dX8_forStatement_86 ⟨(by show (1 + (2 * (at397 - ((at9 + 1) + 1)) - 3)) + (2 * (sz - (at397 + 1)) + 20) ≤ (2 * (sz - at9) + 20); omega), (by show (11 + (11 * (2 * (at397 - ((at9 + 1) + 1)) - 3))) + (11 * (2 * (sz - (at397 + 1)) + 20)) ≤ (11 * (2 * (sz - at9) + 20)); omega)⟩ ⟨(by show (40 * n + 40) + 1 ≤ (50 * n + 58); omega), (by show 8 + (3 + 11) + (1300 * n + 1300) ≤ (1500 * n + 1650); omega)⟩ (fun v450 u448 H locs hw449 hP hD hS => ?_) (fun ux ce9 q9 H9 locs9 hux hP9 hD9 hS9 hce hcv hcl => pb_out ux (ThQ.up (Thx.same (Thx.same (Thx.same (Thx.same (Thx.b (Thx.f (Thx.f Thx.rfl (by omega)) (by omega)) (by omega) (by decide)) rfl) rfl) rfl) rfl) RhX.rfl hux) hnt hlocks hce hcv hcl hP9 hD9 hS9 (by show (1 + (2 * (at397 - ((at9 + 1) + 1)) - 3)) + (2 * (sz - (at397 + 1)) + 20) ≤ (2 * (sz - at9) + 20); omega) (by show (11 + (11 * (2 * (at397 - ((at9 + 1) + 1)) - 3))) + (11 * (2 * (sz - (at397 + 1)) + 20)) ≤ (11 * (2 * (sz - at9) + 20)); omega))
        obtain ⟨w, r453, K454, g455, at456, sg457, f458⟩ := u448
        obtain ⟨hw449, h459, h460, h461, hO⟩ := hw449
        have h459 : NwR K419 K454 g396 g455 r453 0 (at397 + 1) (5 * (20 - dp) + 6 + (sg457 - sg398)) := h459
        have h460 : (at397 + 1) + 1 ≤ at456 ∧ at456 ≤ sz := h460
        have h461 : sg398 ≤ sg457 ∧ sg457 ≤ 60 := h461
        obtain rfl : v450 = some (.ref r453) := hw449
        have hf462 : K454.1 q1 = 1 := (((h459).2.1.1 q1 (by rw [hf421]; decide)).1).trans hf421
        have hf463 : K454.2.1 0 q1 = 27 := (((h459).2.1.1 q1 (by rw [hf421]; decide)).2.1 0).trans hf422
        have hf464 : K454.2.1 2 q1 = (nI at9) := (((h459).2.1.1 q1 (by rw [hf421]; decide)).2.1 2).trans hf423
        have hf465 : K454.2.2.1 1 q1 = none := (((h459).2.1.1 q1 (by rw [hf421]; decide)).2.2.1 1).trans hf424
        have hf466 : K454.2.2.1 2 q1 = none := (((h459).2.1.1 q1 (by rw [hf421]; decide)).2.2.1 2).trans hf425
        have hf467 : K454.2.2.1 3 q1 = none := (((h459).2.1.1 q1 (by rw [hf421]; decide)).2.2.1 3).trans hf426
        have hf468 : K454.2.2.1 4 q1 = none := (((h459).2.1.1 q1 (by rw [hf421]; decide)).2.2.1 4).trans hf427
        have hf469 : K454.1 r394 = 1 := (((h459).2.1.1 r394 (by rw [hf428]; decide)).1).trans hf428
        have hf470 : K454.2.2.1 0 q1 = some r394 := (((h459).2.1.1 q1 (by rw [hf421]; decide)).2.2.1 0).trans hf429
        have hO : OKP G h0 a (upd (upd (upd (upd F 2 (nI sz)) 9 (nI at456)) 10 (nI dp)) 11 (nI sg457)) R Z (updA B 10 f458) J K454 w := hO.to rfl
        refine W.widen (k := ((1 + (2 * (at397 - ((at9 + 1) + 1)) - 3)) + (2 * (at456 - (at397 + 1)) - 1))) (n := ((11 + (11 * (2 * (at397 - ((at9 + 1) + 1)) - 3))) + (11 * (2 * (at456 - (at397 + 1)) - 1)))) (by show (1 + (2 * (at397 - ((at9 + 1) + 1)) - 3)) + (2 * (at456 - (at397 + 1)) - 1) ≤ ((1 + (2 * (at397 - ((at9 + 1) + 1)) - 3)) + (2 * (at456 - (at397 + 1)) - 1)); omega) (by show (11 + (11 * (2 * (at397 - ((at9 + 1) + 1)) - 3))) + (11 * (2 * (at456 - (at397 + 1)) - 1)) ≤ ((11 + (11 * (2 * (at397 - ((at9 + 1) + 1)) - 3))) + (11 * (2 * (at456 - (at397 + 1)) - 1))); omega) ?_
        refine W.eq (g2 := F0 m 89 ls [.ref r453, .ref q1]) rfl ?_
        have hns471 : NwS K K454 g g455 := NwS.call hns430 h459 (fun o9 h9 => absurd h9 (by omega))
        have hf472 : K454.1 r453 = 1 := h459.2.2.1.2.1
        have hg473 : g455 0 q1 = 0 := (h459.2.1.2 q1 (by rw [hf421]; decide) 0).trans hg415
        have hno474 : NoO K454 g455 q1 := NoO.call hno431 h459 hf421 (by omega)
        have hgz475 : g455 0 r394 = g396 0 r394 := h459.2.1.2 r394 (by rw [hf428]; decide) 0
        have hrk476 : g455 2 r394 = k400 := (h459.2.1.2 r394 (by rw [hf428]; decide) 2).trans hrk417
        have hgy477 := h459.2.2.1
        have hgy477a := hgy477.2.2.1
        have hgy477b := hgy477.2.2.2.1
        refine p_put (v := .ref r453) (ty := (.object "JinjaTongue$Node")) (C := RX7) (Tc := TX7) (N := 11) (ci := 13) (K' := (kC K454 1 q1 (some r453))) hx hb hq pin_wsX70 tyX7 tyX7_ok nmX7 hown hE hP hD hS hO (by rw [hf462]; decide) (rep_1 hf462) rfl 7 (by decide) (hq _ pw_910) (fun _ h9 => h9) rfl (by decide +kernel) rfl rfl (Nat.le_of_ble_eq_true rfl) rfl (by rw [rep_1 (show (kC K454 1 q1 (some r453)).1 q1 = 1 from hf462), pc_1] <;> rfl) (fun p9 hp9 => rep_kC hp9) dX8_forStatement_89 (fun H locs w hP hD hS hO => ?_)
        obtain ⟨K478, hK479⟩ : ∃ z : PK, z = (kC K454 1 q1 (some r453)) := ⟨_, rfl⟩
        rw [← hK479] at hO
        have hf480 : K478.1 q1 = 1 := (by rw [hK479]; exact hf462)
        have hf481 : K478.2.1 0 q1 = 27 := (by rw [hK479]; exact hf463)
        have hf482 : K478.2.1 2 q1 = (nI at9) := (by rw [hK479]; exact hf464)
        have hf483 : K478.2.2.1 2 q1 = none := (by rw [hK479]; exact (kC_of (by decide)).trans hf466)
        have hf484 : K478.2.2.1 3 q1 = none := (by rw [hK479]; exact (kC_of (by decide)).trans hf467)
        have hf485 : K478.2.2.1 4 q1 = none := (by rw [hK479]; exact (kC_of (by decide)).trans hf468)
        have hf486 : K478.1 r394 = 1 := (by rw [hK479]; exact hf469)
        have hf487 : K478.2.2.1 0 q1 = some r394 := (by rw [hK479]; exact (kC_of (by decide)).trans hf470)
        have hf488 : K478.1 r453 = 1 := (by rw [hK479]; exact hf472)
        have hf489 : K478.2.2.1 1 q1 = some r453 := by rw [hK479]; exact kC_eq
        have hns490 : NwS K K478 g g455 := by rw [hK479]; exact NwS.put hns471 hq21 hg473
        have hno491 : NoO K478 g455 q1 := by rw [hK479]; exact hno474
        refine W.widen (k := (2 * (at456 - at9) - 4)) (n := (11 * (2 * (at456 - at9) - 4))) (by show ((1 + (2 * (at397 - ((at9 + 1) + 1)) - 3)) + (2 * (at456 - (at397 + 1)) - 1)) ≤ _; omega) (by show ((11 + (11 * (2 * (at397 - ((at9 + 1) + 1)) - 3))) + (11 * (2 * (at456 - (at397 + 1)) - 1))) ≤ _; omega) ?_
        have hO : OKP G h0 a (upd (upd (upd (upd F 2 (nI sz)) 9 (nI at456)) 10 (nI dp)) 11 (nI sg457)) R Z (updA B 10 f458) J K478 w := hO.to rfl
        exact cut_j at456 sg457 f458 K478 g455 q1 (some r394) (some r453) _ _ _ _ (by omega) (by omega) hns490 hq21 hf480 hg473 hno491 hf481 hf487 hf489 hf483 hf484 hf485 (KdO.one hf486 (by omega) (by omega)) (KdO.one hf488 (by omega) (by omega)) (KdI.one hrk476 (by omega)) hP hD hS hO (lv_sub hl [0, 1] rfl)
