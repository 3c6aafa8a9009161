/-- a pool of nothing -/
def K00 : PK := (fun _ => 0, fun _ _ => 0, fun _ _ => none, fun _ => 0, fun _ _ => none, fun _ => 0)
/-- what every call finds -/
def BsC (a : Nat → Nat) (F : Nat → Int32) (R : Nat → Value) (B : Nat → Nat → Int32) (J : Nat → Nat → Int64) (tl ni : Nat) : Prop :=
  (F 0 = nI tl ∧ tl ≤ 5000) ∧ sb_Fit (B 0) ∧ Nng (B 18) ∧ (F 17 = nI ni ∧ ni ≤ 200) ∧ (∃ sp op : Nat, ((sp = 34 ∧ op = 35) ∨ (sp = 35 ∧ op = 34)) ∧ R 7 = .ref (a sp) ∧ R 8 = .ref (a op) ∧ LoE J sp op ∧ F 25 = 0) ∧ ∃ ht : Nat, F 26 = nI ht ∧ 8 ≤ ht ∧ ht ≤ 3008
/-- without a program -/
def PgN (G : pT) (h0 : Nat) (a : Nat → Nat) (F : Nat → Int32) (R : Nat → Value) (Z : Int64) (B : Nat → Nat → Int32) (J : Nat → Nat → Int64) (w : va_W) : Prop := R 0 = .null ∧ (R 5 = .null ∨ Z = 0) ∧ OKW G h0 a F R Z B J (fun _ => 0) (fun _ _ => True) w
/-- with one -/
def PgY (G : pT) (h0 : Nat) (a : Nat → Nat) (F : Nat → Int32) (R : Nat → Value) (Z : Int64) (B : Nat → Nat → Int32) (J : Nat → Nat → Int64) (w : va_W) : Prop := ∃ (K : PK) (g : Nat → Nat → Nat) (rk it : Nat → Nat) (pq dr ml nd nm cp s9 cs rg : Nat), R 0 = .ref pq ∧ (R 5 = .null ∨ Z = 0 ∨ R 5 = .ref pq) ∧ OKP G h0 a F R Z B J K w ∧ WPr G K g ∧ PgT G K g (a 1) pq dr ml nd nm cp it s9 ∧ RkO K rk ∧ (F 5 = nI cs ∧ cs ≤ 10000) ∧ (F 6 = nI rg ∧ rg ≤ 625) ∧ ∃ nz : Nat, F 3 = nI nz ∧ NmR nz (B 12) (B 13) (B 14) (B 15) ∧ ∃ (y9 : TY) (m9 k9 : Nat), PrY y9 K B dr nd nm it cs rg ∧ MnX y9 K dr nd m9 k9
/-- the landed code between two calls: tl bytes on the tape, ni numbers of input -/
def InC (G : pT) (h0 : Nat) (a : Nat → Nat) (tl ni : Nat) (w : va_W) : Prop := ∃ (F : Nat → Int32) (R : Nat → Value) (Z : Int64) (B : Nat → Nat → Int32) (J : Nat → Nat → Int64), BsC a F R B J tl ni ∧ (PgN G h0 a F R Z B J w ∨ PgY G h0 a F R Z B J w)
section IN
variable {G : pT} {h0 : Nat} {a : Nat → Nat} {F F1 : Nat → Int32} {R R1 : Nat → Value} {Z : Int64} {B B1 : Nat → Nat → Int32} {J : Nat → Nat → Int64} {T : Nat → Nat} {Pi : Nat → va_E → Prop} {w : va_W} {tl ni : Nat}
theorem OKW.k00 (hO : OKW G h0 a F R Z B J T Pi w) : OKP G h0 a F R Z B J K00 w := ⟨hO.1, fun k x hk => ⟨rfl, (hO.2.1 k x hk).2⟩, fun _ _ _ h => absurd rfl h, fun _ h => absurd rfl h⟩
theorem BsC.thr (h : BsC a F R B J tl ni) (ht : Thx F F1 B B1) (hr : RhX R R1) : BsC a F1 R1 B1 J tl ni := by
  obtain ⟨h1, h2, h3, h4, ⟨sp, op, h5, h6, h7, hle, hz9⟩, hp, h8, h9⟩ := h
  refine ⟨⟨(ht.1 0 (by omega)).trans h1.1, h1.2⟩, ?_, ht.2.2 h3, ⟨(ht.1 17 (by omega)).trans h4.1, h4.2⟩, ⟨sp, op, h5, (hr 7 (by omega)).trans h6, (hr 8 (by omega)).trans h7, hle, (ht.1 25 (by omega)).trans hz9⟩, hp, (ht.1 26 (by omega)).trans h8, h9⟩
  rw [ht.2.1 0 (by omega)]; exact h2
theorem BsC.bth (h : BsC a F R B J tl ni) (ht : Bth B B1) : BsC a F R B1 J tl ni := by
  obtain ⟨h1, h2, h3, h4, h5, h8⟩ := h
  refine ⟨h1, ?_, ht.2 h3, h4, h5, h8⟩
  rw [ht.1 0 (by omega)]; exact h2
theorem NmR.bth {nz : Nat} (h : NmR nz (B 12) (B 13) (B 14) (B 15)) (ht : Bth B B1) : NmR nz (B1 12) (B1 13) (B1 14) (B1 15) := by
  rw [ht.1 12 (by omega), ht.1 13 (by omega), ht.1 14 (by omega), ht.1 15 (by omega)]; exact h
end IN
theorem dX11_read_0 : decode cX11_read 0 = .ok (.aload_n 0, 1) := by decide +kernel
theorem dX11_read_1 : decode cX11_read 1 = .ok (.getfield 16, 3) := by decide +kernel
theorem dX11_read_4 : decode cX11_read 4 = .ok (.aload_n 0, 1) := by decide +kernel
theorem dX11_read_5 : decode cX11_read 5 = .ok (.getfield 9, 3) := by decide +kernel
theorem dX11_read_8 : decode cX11_read 8 = .ok (.aload_n 0, 1) := by decide +kernel
theorem dX11_read_9 : decode cX11_read 9 = .ok (.getfield 54, 3) := by decide +kernel
theorem dX11_read_12 : decode cX11_read 12 = .ok (.invokevirtual 62, 3) := by decide +kernel
theorem dX11_read_15 : decode cX11_read 15 = .ok (.aload_n 0, 1) := by decide +kernel
theorem dX11_read_16 : decode cX11_read 16 = .ok (.iconst 0, 1) := by decide +kernel
theorem dX11_read_17 : decode cX11_read 17 = .ok (.putfield 54, 3) := by decide +kernel
theorem dX11_read_20 : decode cX11_read 20 = .ok (.aload_n 0, 1) := by decide +kernel
theorem dX11_read_21 : decode cX11_read 21 = .ok (.getfield 50, 3) := by decide +kernel
theorem dX11_read_24 : decode cX11_read 24 = .ok (.invokevirtual 66, 3) := by decide +kernel
theorem dX11_read_27 : decode cX11_read 27 = .ok (.aload_n 0, 1) := by decide +kernel
theorem dX11_read_28 : decode cX11_read 28 = .ok (.aconst_null, 1) := by decide +kernel
theorem dX11_read_29 : decode cX11_read 29 = .ok (.putfield 69, 3) := by decide +kernel
theorem dX11_read_32 : decode cX11_read 32 = .ok (.new 73, 3) := by decide +kernel
theorem dX11_read_35 : decode cX11_read 35 = .ok (.dup, 1) := by decide +kernel
theorem dX11_read_36 : decode cX11_read 36 = .ok (.aload_n 0, 1) := by decide +kernel
theorem dX11_read_37 : decode cX11_read 37 = .ok (.getfield 16, 3) := by decide +kernel
theorem dX11_read_40 : decode cX11_read 40 = .ok (.invokespecial 75, 3) := by decide +kernel
theorem dX11_read_43 : decode cX11_read 43 = .ok (.astore_n 1, 1) := by decide +kernel
theorem dX11_read_44 : decode cX11_read 44 = .ok (.aload_n 0, 1) := by decide +kernel
theorem dX11_read_45 : decode cX11_read 45 = .ok (.getfield 32, 3) := by decide +kernel
theorem dX11_read_48 : decode cX11_read 48 = .ok (.aload_n 1, 1) := by decide +kernel
theorem dX11_read_67 : decode cX11_read 67 = .ok (.astore_n 2, 1) := by decide +kernel
theorem dX11_read_68 : decode cX11_read 68 = .ok (.aload_n 0, 1) := by decide +kernel
theorem dX11_read_69 : decode cX11_read 69 = .ok (.getfield 16, 3) := by decide +kernel
theorem dX11_read_72 : decode cX11_read 72 = .ok (.getfield 88, 3) := by decide +kernel
theorem dX11_read_75 : decode cX11_read 75 = .ok (.ireturn, 1) := by decide +kernel
theorem dX11_read_49 : decode cX11_read 49 = .ok (.invokevirtual 76, 3) := by decide +kernel
theorem dX11_read_52 : decode cX11_read 52 = .ok (.aload_n 1, 1) := by decide +kernel
theorem dX11_read_53 : decode cX11_read 53 = .ok (.invokevirtual 80, 3) := by decide +kernel
theorem dX11_read_56 : decode cX11_read 56 = .ok (.aload_n 0, 1) := by decide +kernel
theorem dX11_read_57 : decode cX11_read 57 = .ok (.getfield 41, 3) := by decide +kernel
theorem dX11_read_60 : decode cX11_read 60 = .ok (.aload_n 1, 1) := by decide +kernel
theorem dX11_read_61 : decode cX11_read 61 = .ok (.invokevirtual 83, 3) := by decide +kernel
theorem dX11_read_64 : decode cX11_read 64 = .ok (.goto 12, 3) := by decide +kernel
theorem dX11_read_76 : decode cX11_read 76 = .ok (.aload_n 0, 1) := by decide +kernel
theorem dX11_read_77 : decode cX11_read 77 = .ok (.aload_n 1, 1) := by decide +kernel
theorem dX11_read_78 : decode cX11_read 78 = .ok (.putfield 69, 3) := by decide +kernel
theorem dX11_read_81 : decode cX11_read 81 = .ok (.iconst 0, 1) := by decide +kernel
theorem dX11_read_82 : decode cX11_read 82 = .ok (.ireturn, 1) := by decide +kernel
theorem hV_X10_split : yX10_split.cls = RX10 ∧ yX10_split.cls ≠ "java/lang/invoke/MethodHandle" ∧ yX10_split.cls ≠ "java/lang/invoke/VarHandle" ∧ (parseMethodDescriptor yX10_split.desc).map (fun d => d.parameters.length) = some 2 := by decide +kernel
theorem hS_X9_init : yX9_init.cls ≠ "java/lang/invoke/MethodHandle" ∧ yX9_init.cls ≠ "java/lang/invoke/VarHandle" ∧ (parseMethodDescriptor yX9_init.desc).map (fun d => d.parameters.length) = some 1 := by decide +kernel
theorem hV_X8_parse : yX8_parse.cls = RX8 ∧ yX8_parse.cls ≠ "java/lang/invoke/MethodHandle" ∧ yX8_parse.cls ≠ "java/lang/invoke/VarHandle" ∧ (parseMethodDescriptor yX8_parse.desc).map (fun d => d.parameters.length) = some 1 := by decide +kernel
theorem hV_X9_judgeNames : yX9_judgeNames.cls = RX9 ∧ yX9_judgeNames.cls ≠ "java/lang/invoke/MethodHandle" ∧ yX9_judgeNames.cls ≠ "java/lang/invoke/VarHandle" ∧ (parseMethodDescriptor yX9_judgeNames.desc).map (fun d => d.parameters.length) = some 0 := by decide +kernel
theorem hV_X0_judge : yX0_judge.cls = RX0 ∧ yX0_judge.cls ≠ "java/lang/invoke/MethodHandle" ∧ yX0_judge.cls ≠ "java/lang/invoke/VarHandle" ∧ (parseMethodDescriptor yX0_judge.desc).map (fun d => d.parameters.length) = some 1 := by decide +kernel
set_option maxHeartbeats 40000000 in
set_option maxRecDepth 100000 in
theorem J_read (l : Launch) (G : pT) (h0 : Nat) (a : Nat → Nat) (F : Nat → Int32) (R : Nat → Value) (Z : Int64) (B : Nat → Nat → Int32) (J : Nat → Nat → Int64) (T : Nat → Nat) (Pi : Nat → va_E → Prop) (w : va_W) (tl : Nat) (ni : Nat) (hbs : BsC a F R B J tl ni) (hO : OKW G h0 a (upd F 0 (nI tl)) R Z B J T Pi w) (hl0 : l.stackTraces = false) : PMW l G pX0 yX11_read cX11_read 3 (some .int) [(44, 64, 67, 86)] ({ frames := (1230), cells := (42 * tl + 101), slots := (380 * tl + 6000), locals := (47700) }) [.ref h0] w (fun (v : Option Value) (u : va_W × (Int32)) => v = some (.int u.2) ∧ InC G h0 a 0 ni u.1) (fun u => u.1) := by
  intro sz
  refine va_MetW (cc := cX11_read) (maxL := 3) (ret := (some .int)) (hh := [(44, 64, 67, 86)]) (by decide) rfl ?_
  intro p e s m args below meth c s₁ B9 hml hv
  obtain ⟨rfl, hsz, hP, hD0, hE, hX⟩ := hv
  have hx := B9.exec
  have hb := B9.bytes
  have hr := B9.returns
  have hts := atoms_spec (ws := Cond.codeWith yX11_read cX11_read 3 (some .int) [(44, 64, 67, 86)] :: pw) B9.pre
  have htab := vx_table (x := yX11_read) B9 (hts _ List.mem_cons_self)
  have hq : ∀ w ∈ pw, w.before _ s = true := fun w h => hts w (List.mem_cons_of_mem _ h)
  have hown : s.vm.findClass RX11 = some m.cls := findClass_of_methodNamed B9.named
  have hlocks := B9.notSynchronized
  subst hsz
  have hD := hD0.self (sz := s.heap.size)
  have hA : ∀ q : Nat, s.heap.size ≤ q → va_A w s.heap.size q := fun q h => Or.inr h
  generalize va_A w s.heap.size = A at hD hE hA ⊢
  have hS : va_S A s.heap s.heap [] := va_S.rf
  have hl := lv_entry ([.ref h0]) (n := 3) (Nat.le_of_ble_eq_true rfl)
  rw [lg_entry_eq]
  generalize (lg_sl ([.ref h0]) ++ List.replicate (3 - (lg_sl ([.ref h0])).length) Slot.unset).toArray = ls at hl ⊢
  have hl : lv_has ls 3 [(0, .ref h0)] := hl
  obtain ⟨K, hK0⟩ : ∃ K : PK, K = K00 := ⟨_, rfl⟩
  have hO : OKP G h0 a (upd F 0 (nI tl)) R Z B J K w := by rw [hK0]; exact OKW.k00 hO
  have htl := hbs.1.2
  refine lv_aload_n hx hb dX11_read_0 rfl (lv_at hl 0 rfl) ?_
  refine c_get (v := .ref (a 1)) (C := RX11) (Tc := TX11) (N := 8) (ci := 8) hx hb hq pin_wsX110 hown hE hP hO 0 (sg_0 G h0 a _ _ _ _ _) rfl 2 (by decide) (hq _ pw_1309) (fun _ h9 => h9) rfl dX11_read_1 ?_
  refine lv_aload_n hx hb dX11_read_4 rfl (lv_at hl 0 rfl) ?_
  refine c_get (v := .ref (a 0)) (C := RX11) (Tc := TX11) (N := 8) (ci := 8) hx hb hq pin_wsX110 hown hE hP hO 0 (sg_0 G h0 a _ _ _ _ _) rfl 0 (by decide) (hq _ pw_1306) (fun _ h9 => h9) rfl dX11_read_5 ?_
  refine lv_aload_n hx hb dX11_read_8 rfl (lv_at hl 0 rfl) ?_
  refine c_get (v := .int (nI tl)) (C := RX11) (Tc := TX11) (N := 8) (ci := 8) hx hb hq pin_wsX110 hown hE hP hO 0 (sg_0 G h0 a _ _ _ _ _) rfl 1 (by decide) (hq _ pw_1334) (fun _ h9 => h9) rfl dX11_read_9 ?_
  have hO : OKW G h0 a (upd F 0 (nI tl)) R Z B J K.1 (fun q99 x99 => x99 = rep G a K q99) w := hO.to rfl
  obtain ⟨_, qr4, hqr5⟩ := hO.2.1 2 _ (sg_2 G h0 a _ _ _ _ _)
  refine pc_V0 (G := G) (As := [.ref (a 0), .int (nI tl)]) (rest := []) hx hb hml hown hq hE hX pX0_al hP hD hS hA hl.1 (K_split l G h0 a (upd F 0 (nI tl)) R Z B J K.1 (fun q99 x99 => x99 = rep G a K q99) w tl (by omega) hbs.2.1 hO) (gV pw_1346 pw_1347 pw_1348 pw_59 pw_1303) hV_X10_split qr4 7 hqr5 rfl rfl rfl (Nat.le_of_ble_eq_true rfl) dX11_read_12 ⟨(by show 0 + 0 ≤ (42 * tl + 101); omega), (by show 0 + 0 ≤ (380 * tl + 6000); omega)⟩ ⟨(by show 8 + 1 ≤ (1230); omega), (by show 8 + (6 + 11) + 192 ≤ (47700); omega)⟩ (fun v3 u1 H locs hw2 hP hD hS => ?_)
  obtain ⟨w, sz6, f7, f8, f9, f10, f11, nm12, ns13, nl14, nn15, bk16, by17⟩ := u1
  obtain ⟨hw2, h18, h19, hO⟩ := hw2
  have h18 : sz6 ≤ tl := h18
  have h19 : NmR nm12 ns13 nl14 nn15 bk16 := h19
  obtain rfl : v3 = none := hw2
  have hO : OKP G h0 a (upd (upd (upd (upd (upd F 0 (nI tl)) 1 (nI tl)) 2 (nI sz6)) 3 (nI nm12)) 4 0) R Z (updA (updA (updA (updA (updA (updA (updA (updA (updA (updA B 6 by17) 7 f7) 8 f8) 9 f9) 10 f10) 11 f11) 12 ns13) 13 nl14) 14 nn15) 15 bk16) J K w := hO.to rfl
  refine W.widen (k := 0) (n := 0) (Nat.le_of_ble_eq_true rfl) (Nat.le_of_ble_eq_true rfl) ?_
  refine W.eq (g2 := F0 m 15 ls []) rfl ?_
  refine lv_aload_n hx hb dX11_read_15 rfl (lv_at hl 0 rfl) ?_
  refine lv_iconst (v := 0) hx hb dX11_read_16 (by decide) ?_
  refine c_put (v := .int 0) (ty := .int) (C := RX11) (Tc := TX11) (N := 8) (ci := 8) hx hb hq pin_wsX110 tyX11 tyX11_ok nmX11 hown hE hP hD hS hO 0 (sg_0 G h0 a _ _ _ _ _) rfl 1 (by decide) (hq _ pw_1334) (fun _ h9 => h9) rfl (by decide +kernel) rfl rfl (Nat.le_of_ble_eq_true rfl) (sf_0 G h0 a _ _ _ _ _ 0) dX11_read_17 (fun H locs w hP hD hS hO => ?_)
  refine lv_aload_n hx hb dX11_read_20 rfl (lv_at hl 0 rfl) ?_
  refine c_get (v := .ref (a 5)) (C := RX11) (Tc := TX11) (N := 8) (ci := 8) hx hb hq pin_wsX110 hown hE hP hO 0 (sg_0 G h0 a _ _ _ _ _) rfl 6 (by decide) (hq _ pw_1321) (fun _ h9 => h9) rfl dX11_read_21 ?_
  have hO : OKW G h0 a (upd (upd (upd (upd (upd F 0 0) 1 (nI tl)) 2 (nI sz6)) 3 (nI nm12)) 4 0) R Z (updA (updA (updA (updA (updA (updA (updA (updA (updA (updA B 6 by17) 7 f7) 8 f8) 9 f9) 10 f10) 11 f11) 12 ns13) 13 nl14) 14 nn15) 15 bk16) J K.1 (fun q99 x99 => x99 = rep G a K q99) w := hO.to rfl
  obtain ⟨_, qr23, hqr24⟩ := hO.2.1 28 _ (sg_28 G h0 a _ _ _ _ _)
  refine pc_V0 (G := G) (As := []) (rest := []) hx hb hml hown hq hE hX pX0_al hP hD hS hA hl.1 (M_clear l G h0 a (upd (upd (upd (upd (upd F 0 0) 1 (nI tl)) 2 (nI sz6)) 3 (nI nm12)) 4 0) R Z (updA (updA (updA (updA (updA (updA (updA (updA (updA (updA B 6 by17) 7 f7) 8 f8) 9 f9) 10 f10) 11 f11) 12 ns13) 13 nl14) 14 nn15) 15 bk16) J K.1 (fun q99 x99 => x99 = rep G a K q99) w hO) (gV pw_1349 pw_579 pw_580 pw_539 pw_500) hV_X5_clear qr23 4 hqr24 rfl rfl rfl (Nat.le_of_ble_eq_true rfl) dX11_read_24 ⟨(by show 0 + 0 ≤ (42 * tl + 101); omega), (by show 0 + 0 ≤ (380 * tl + 6000); omega)⟩ ⟨(by show 3 + 1 ≤ (1230); omega), (by show 8 + (1 + 11) + 83 ≤ (47700); omega)⟩ (fun v22 u20 H locs hw21 hP hD hS => ?_)
  obtain ⟨w, f25⟩ := u20
  obtain ⟨hw21, hO⟩ := hw21
  obtain rfl : v22 = none := hw21
  have hO : OKP G h0 a (upd (upd (upd (upd (upd (upd (upd (upd (upd (upd F 0 0) 1 (nI tl)) 2 (nI sz6)) 3 (nI nm12)) 4 0) 18 0) 19 0) 20 0) 22 0) 24 0) (updR R 6 (.null)) 0 (updA (updA (updA (updA (updA (updA (updA (updA (updA (updA (updA B 6 by17) 7 f7) 8 f8) 9 f9) 10 f10) 11 f11) 12 ns13) 13 nl14) 14 nn15) 15 bk16) 33 f25) J K w := hO.to rfl
  refine W.widen (k := 0) (n := 0) (Nat.le_of_ble_eq_true rfl) (Nat.le_of_ble_eq_true rfl) ?_
  refine W.eq (g2 := F0 m 27 ls []) rfl ?_
  refine lv_aload_n hx hb dX11_read_27 rfl (lv_at hl 0 rfl) ?_
  refine lv_null hx hb dX11_read_28 ?_
  refine c_put (v := .null) (ty := (.object "JinjaTongue$Program")) (C := RX11) (Tc := TX11) (N := 8) (ci := 8) hx hb hq pin_wsX110 tyX11 tyX11_ok nmX11 hown hE hP hD hS hO 0 (sg_0 G h0 a _ _ _ _ _) rfl 7 (by decide) (hq _ pw_1342) (fun _ h9 => h9) rfl (by decide +kernel) rfl rfl (Nat.le_of_ble_eq_true rfl) (sr_0 G h0 a _ _ _ _ _ (.null)) dX11_read_29 (fun H locs w hP hD hS hO => ?_)
  refine p_new (s9 := 7) (C := RX9) (T := TX9) (N := 5) (ci := 6) (fs := [.null, .null, .int 0, .null, .int 0]) hx hb hq pin_wsX90 tyX9 tyX9_ok hown (hq _ pw_1343) (hq _ pw_1344) (hq _ pw_106) hE hP hD hS hA hO rfl nw_X9 (by decide) (fun q => by rw [rep_7 (show (kN K q 7 0).1 q = 7 from if_pos rfl)]; unfold fsProgram kN; simp only [if_true]; rfl) (by show 0 + 1 ≤ (42 * tl + 101); omega) (by show 0 + 5 ≤ (380 * tl + 6000); omega) dX11_read_32 (fun q26 H w hq27 hP hD hS hO => ?_)
  have hf28 : (kN K q26 7 0).1 q26 = 7 := if_pos rfl
  refine W.widen (k := 1) (n := 5) (by show 0 + 1 ≤ 1; omega) (by show 0 + 5 ≤ 5; omega) ?_
  refine lv_dup hx hb dX11_read_35 rfl ?_
  refine lv_aload_n hx hb dX11_read_36 rfl (lv_at hl 0 rfl) ?_
  refine c_get (v := .ref (a 1)) (C := RX11) (Tc := TX11) (N := 8) (ci := 8) hx hb hq pin_wsX110 hown hE hP hO 0 (sg_0 G h0 a _ _ _ _ _) rfl 2 (by decide) (hq _ pw_1309) (fun _ h9 => h9) rfl dX11_read_37 ?_
  have hO : OKP G h0 a (upd (upd (upd (upd (upd (upd (upd (upd (upd (upd F 0 0) 1 (nI tl)) 2 (nI sz6)) 3 (nI nm12)) 4 0) 18 0) 19 0) 20 0) 22 0) 24 0) (updR (updR R 0 (.null)) 6 (.null)) 0 (updA (updA (updA (updA (updA (updA (updA (updA (updA (updA (updA B 6 by17) 7 f7) 8 f8) 9 f9) 10 f10) 11 f11) 12 ns13) 13 nl14) 14 nn15) 15 bk16) 33 f25) J (kN K q26 7 0) w := hO.to rfl
  obtain ⟨qr32, hqr33⟩ := p_recv hO (by rw [hf28]; decide) (rep_7 hf28)
  refine pc_I0 (G := G) (As := [.ref (a 1)]) (rest := [.ref q26]) hx hb hml hown hq hE hX pX0_al hP hD hS hA hl.1 (G_init l G h0 a (upd (upd (upd (upd (upd (upd (upd (upd (upd (upd F 0 0) 1 (nI tl)) 2 (nI sz6)) 3 (nI nm12)) 4 0) 18 0) 19 0) 20 0) 22 0) 24 0) (updR (updR R 0 (.null)) 6 (.null)) 0 (updA (updA (updA (updA (updA (updA (updA (updA (updA (updA (updA B 6 by17) 7 f7) 8 f8) 9 f9) 10 f10) 11 f11) 12 ns13) 13 nl14) 14 nn15) 15 bk16) 33 f25) J (kN K q26 7 0) w q26 (fun _ _ => 0) hf28 (fun q8 hq8 => (if_neg hq8).trans (by rw [hK0]; rfl)) hO) pw_1350 pw_1351 pw_106 pw_1082 rfl hS_X9_init rfl (Nat.le_of_ble_eq_true rfl) dX11_read_40 ⟨(by show 1 + 40 ≤ (42 * tl + 101); omega), (by show 5 + 220 ≤ (380 * tl + 6000); omega)⟩ ⟨(by show 6 + 1 ≤ (1230); omega), (by show 8 + (3 + 11) + 144 ≤ (47700); omega)⟩ (fun v31 u29 H locs hw30 hP hD hS => ?_)
  obtain ⟨w, K34, g35, dr36, ml37⟩ := u29
  obtain ⟨hw30, h38, h39, h40, h41, hO⟩ := hw30
  have h38 : WPr G K34 g35 := h38
  have h39 : PgS G K34 g35 (a 1) q26 dr36 ml37 7 0 0 (fun _ => 0) 0 := h39
  have h40 : PzK G K34 g35 0 (fun _ => 0) none := h40
  have h41 : ∀ q : Nat, ¬ K34.1 q = 1 := h41
  obtain rfl : v31 = none := hw30
  have hO : OKP G h0 a (upd (upd (upd (upd (upd (upd (upd (upd (upd (upd F 0 0) 1 (nI tl)) 2 (nI sz6)) 3 (nI nm12)) 4 0) 18 0) 19 0) 20 0) 22 0) 24 0) (updR (updR R 0 (.null)) 6 (.null)) 0 (updA (updA (updA (updA (updA (updA (updA (updA (updA (updA (updA B 6 by17) 7 f7) 8 f8) 9 f9) 10 f10) 11 f11) 12 ns13) 13 nl14) 14 nn15) 15 bk16) 33 f25) J K34 w := hO.to rfl
  refine W.widen (k := 41) (n := (5 + 220)) (by show 1 + 40 ≤ 41; omega) (by show 5 + 220 ≤ (5 + 220); omega) ?_
  refine W.eq (g2 := F0 m 43 ls [.ref q26]) rfl ?_
  refine lv_astore_n (lv' := [(1, .ref q26), (0, .ref h0)]) hx hb dX11_read_43 rfl hl (by decide) rfl (fun ls hl => ?_)
  refine lv_aload_n hx hb dX11_read_44 rfl (lv_at hl 1 rfl) ?_
  refine c_get (v := .ref (a 3)) (C := RX11) (Tc := TX11) (N := 8) (ci := 8) hx hb hq pin_wsX110 hown hE hP hO 0 (sg_0 G h0 a _ _ _ _ _) rfl 4 (by decide) (hq _ pw_1315) (fun _ h9 => h9) rfl dX11_read_45 ?_
  refine lv_aload_n hx hb dX11_read_48 rfl (lv_at hl 0 rfl) ?_
  have hO : OKP G h0 a (upd (upd (upd (upd (upd (upd (upd (upd (upd (upd (upd (upd F 0 (nI tl)) 0 0) 1 (nI tl)) 2 (nI sz6)) 3 (nI nm12)) 4 0) 18 0) 19 0) 20 0) 22 0) 24 0) 2 (nI sz6)) (updR (updR R 0 (.null)) 6 (.null)) 0 (updA (updA (updA (updA (updA (updA (updA (updA (updA (updA (updA B 6 by17) 7 f7) 8 f8) 9 f9) 10 f10) 11 f11) 12 ns13) 13 nl14) 14 nn15) 15 bk16) 33 f25) J K34 w := hO.to rfl
  obtain ⟨_, qr45, hqr46⟩ := hO.2.1 23 _ (sg_23 G h0 a _ _ _ _ _)
  have hbs47 : BsC a (upd (upd (upd (upd (upd (upd (upd (upd (upd (upd (upd (upd F 0 (nI tl)) 0 0) 1 (nI tl)) 2 (nI sz6)) 3 (nI nm12)) 4 0) 18 0) 19 0) 20 0) 22 0) 24 0) 2 (nI sz6)) (updR (updR R 0 (.null)) 6 (.null)) (updA (updA (updA (updA (updA (updA (updA (updA (updA (updA (updA B 6 by17) 7 f7) 8 f8) 9 f9) 10 f10) 11 f11) 12 ns13) 13 nl14) 14 nn15) 15 bk16) 33 f25) J 0 ni := ⟨⟨rfl, Nat.zero_le _⟩, hbs.2.1, hbs.2.2.1, hbs.2.2.2.1, hbs.2.2.2.2.1, hbs.2.2.2.2.2⟩
  refine pn_V0 (G := G) (As := [.ref q26]) (rest := []) hx hb hml hown hq hE hX pX0_al hP hD hS hA hl.1 (P_parse l G h0 a (upd (upd (upd (upd (upd (upd (upd (upd (upd (upd (upd F 0 (nI tl)) 0 0) 1 (nI tl)) 2 (nI sz6)) 3 (nI nm12)) 4 0) 18 0) 19 0) 20 0) 22 0) 24 0) (updR (updR R 0 (.null)) 6 (.null)) 0 (updA (updA (updA (updA (updA (updA (updA (updA (updA (updA (updA B 6 by17) 7 f7) 8 f8) 9 f9) 10 f10) 11 f11) 12 ns13) 13 nl14) 14 nn15) 15 bk16) 33 f25) J K34 w q26 dr36 ml37 7 sz6 g35 (by omega) h38 h39 h40 hO hl0) (gV pw_1352 pw_1353 pw_1354 pw_796 pw_1076) hV_X8_parse qr45 5 hqr46 rfl rfl rfl (Nat.le_of_ble_eq_true rfl) dX11_read_49 ⟨(by show 41 + (4 * sz6 + 60) ≤ (42 * tl + 101); omega), (by show (5 + 220) + (62 * sz6 + 700) ≤ (380 * tl + 6000); omega)⟩ ⟨(by show (1070) + 1 ≤ (1230); omega), (by show 8 + (5 + 11) + (31800) ≤ (47700); omega)⟩ (fun v44 u42 H locs hw43 hP hD hS => ?_) (fun ux ce9 q9 H9 locs9 hux hP hD hS hce hcv hcl => by
      obtain ⟨w, F9, R9, B99⟩ := ux
      obtain ⟨hth, hrh, hO⟩ := hux
      have hO : OKW G h0 a F9 R9 0 B99 J (fun _ => 0) (fun _ _ => True) w := hO
      refine vx_catch (own := RX11) (name := eIS) (E := eIS) hown [] ⟨44, 64, 67, 86⟩ [] (htab.trans rfl) (fun z hz => nomatch hz) (by decide) (by decide) (hq _ pw_1341) hE.pc.1.use hce hcv hcl ?_
      refine W.widen (k := (42 * tl + 101)) (n := (380 * tl + 6000)) (by show 41 + (4 * sz6 + 60) ≤ (42 * tl + 101); omega) (by show (5 + 220) + (62 * sz6 + 700) ≤ (380 * tl + 6000); omega) ?_
      refine W.eq (g2 := F0 m 67 ls [.ref q9]) rfl ?_
      refine lv_astore_n (lv' := [(2, .ref q9), (1, .ref q26), (0, .ref h0)]) hx hb dX11_read_67 rfl hl (by decide) rfl (fun ls hl => ?_)
      refine lv_aload_n hx hb dX11_read_68 rfl (lv_at hl 2 rfl) ?_
      refine c_get (v := .ref (a 1)) (C := RX11) (Tc := TX11) (N := 8) (ci := 8) hx hb hq pin_wsX110 hown hE hP hO 0 (sg_0 G h0 a _ _ _ _ _) rfl 2 (by decide) (hq _ pw_1309) (fun _ h9 => h9) rfl dX11_read_69 ?_
      refine c_get (v := .int (F9 4)) (C := RX10) (Tc := TX10) (N := 15) (ci := 7) hx hb hq pin_wsX100 hown hE hP hO 2 (sg_2 G h0 a _ _ _ _ _) rfl 14 (by decide) (hq _ pw_1345) (fun _ h9 => h9) rfl dX11_read_72 ?_
      have hq9 : InC G h0 a 0 ni w := ⟨F9, R9, 0, B99, J, BsC.thr hbs47 hth hrh, Or.inl ⟨(hrh 0 (Or.inl rfl)).trans rfl, Or.inr rfl, hO⟩⟩
      exact W.iret (v := (F9 4)) hx hb hr (fun t99 ht99 hW99 => ⟨⟨_, (w, (F9 4)), rfl, ⟨rfl, hq9⟩, by rw [ht99]; exact hP, hD⟩, hS.F ht99⟩) hS.2.2 dX11_read_75)
  obtain ⟨w, K48, g49, nd50, nm51, cp52, it53, f54, at55, sg56⟩ := u42
  obtain ⟨hw43, h57, h58, h59, h60, h61, hO⟩ := hw43
  have h57 : WPr G K48 g49 := h57
  have h58 : PgS G K48 g49 (a 1) q26 dr36 ml37 nd50 nm51 cp52 it53 sz6 := h58
  have h59 : PzK G K48 g49 nm51 it53 none := h59
  have h60 : at55 ≤ sz6 := h60
  have h61 : NwT (f7) sz6 (f10) f54 K34 K48 0 at55 := h61
  obtain rfl : v44 = none := hw43
  have hO : OKP G h0 a (upd (upd (upd (upd (upd (upd (upd (upd (upd (upd (upd (upd (upd F 0 0) 1 (nI tl)) 2 (nI sz6)) 3 (nI nm12)) 4 0) 9 (nI at55)) 10 0) 11 (nI sg56)) 18 0) 19 0) 20 0) 22 0) 24 0) (updR (updR (updR R 0 (.null)) 1 (.ref q26)) 6 (.null)) 0 (updA (updA (updA (updA (updA (updA (updA (updA (updA (updA (updA B 6 by17) 7 f7) 8 f8) 9 f9) 10 f54) 11 f11) 12 ns13) 13 nl14) 14 nn15) 15 bk16) 33 f25) J K48 w := hO.to rfl
  refine W.widen (k := (41 + (4 * sz6))) (n := ((5 + 220) + (60 * sz6 + 4 * cp52))) (by show 41 + (4 * sz6) ≤ (41 + (4 * sz6)); omega) (by show (5 + 220) + (60 * sz6 + 4 * cp52) ≤ ((5 + 220) + (60 * sz6 + 4 * cp52)); omega) ?_
  refine W.eq (g2 := F0 m 52 ls []) rfl ?_
  have hT7 := h58.1.1
  have hcp7 := h58.2.2.2.2.2.2.1
  have hnm7 := h58.2.2.2.2.2.1
  refine lv_aload_n hx hb dX11_read_52 rfl (lv_at hl 0 rfl) ?_
  have hO : OKP G h0 a (upd (upd (upd (upd (upd (upd (upd (upd (upd (upd (upd (upd (upd (upd (upd F 0 (nI tl)) 0 0) 1 (nI tl)) 2 (nI sz6)) 3 (nI nm12)) 4 0) 9 (nI at55)) 10 0) 11 (nI sg56)) 18 0) 19 0) 20 0) 22 0) 24 0) 2 (nI sz6)) (updR (updR (updR R 0 (.null)) 1 (.ref q26)) 6 (.null)) 0 (updA (updA (updA (updA (updA (updA (updA (updA (updA (updA (updA B 6 by17) 7 f7) 8 f8) 9 f9) 10 f54) 11 f11) 12 ns13) 13 nl14) 14 nn15) 15 bk16) 33 f25) J K48 w := hO.to rfl
  obtain ⟨qr65, hqr66⟩ := p_recv hO (by rw [hT7]; decide) (rep_7 hT7)
  have hbs67 : BsC a (upd (upd (upd (upd (upd (upd (upd (upd (upd (upd (upd (upd (upd (upd (upd F 0 (nI tl)) 0 0) 1 (nI tl)) 2 (nI sz6)) 3 (nI nm12)) 4 0) 9 (nI at55)) 10 0) 11 (nI sg56)) 18 0) 19 0) 20 0) 22 0) 24 0) 2 (nI sz6)) (updR (updR (updR R 0 (.null)) 1 (.ref q26)) 6 (.null)) (updA (updA (updA (updA (updA (updA (updA (updA (updA (updA (updA B 6 by17) 7 f7) 8 f8) 9 f9) 10 f54) 11 f11) 12 ns13) 13 nl14) 14 nn15) 15 bk16) 33 f25) J 0 ni := ⟨⟨rfl, Nat.zero_le _⟩, hbs.2.1, hbs.2.2.1, hbs.2.2.2.1, hbs.2.2.2.2.1, hbs.2.2.2.2.2⟩
  refine pn_V0 (G := G) (As := []) (rest := []) hx hb hml hown hq hE hX pX0_al hP hD hS hA hl.1 (N_judgeNames l G h0 a (upd (upd (upd (upd (upd (upd (upd (upd (upd (upd (upd (upd (upd (upd F 0 (nI tl)) 0 0) 1 (nI tl)) 2 (nI sz6)) 3 (nI nm12)) 4 0) 9 (nI at55)) 10 0) 11 (nI sg56)) 18 0) 19 0) 20 0) 22 0) 24 0) (updR (updR (updR R 0 (.null)) 1 (.ref q26)) 6 (.null)) 0 (updA (updA (updA (updA (updA (updA (updA (updA (updA (updA (updA B 6 by17) 7 f7) 8 f8) 9 f9) 10 f54) 11 f11) 12 ns13) 13 nl14) 14 nn15) 15 bk16) 33 f25) J K48 w q26 dr36 ml37 nd50 nm51 cp52 it53 sz6 sz6 g49 (by omega) h57 h58 (by omega) h59.2.2.2.2 hO hl0) (gV pw_1355 pw_1356 pw_1357 pw_106 pw_1205) hV_X9_judgeNames qr65 6 hqr66 rfl rfl rfl (Nat.le_of_ble_eq_true rfl) dX11_read_53 ⟨(by show (41 + (4 * sz6)) + (37 * sz6 + 10) ≤ (42 * tl + 101); omega), (by show ((5 + 220) + (60 * sz6 + 4 * cp52)) + (37 * (80 + 8 * sz6) + 15 * sz6 + 2010) ≤ (380 * tl + 6000); omega)⟩ ⟨(by show 10 + 1 ≤ (1230); omega), (by show 8 + (2 + 11) + 237 ≤ (47700); omega)⟩ (fun v64 u62 H locs hw63 hP hD hS => ?_) (fun ux ce9 q9 H9 locs9 hux hP hD hS hce hcv hcl => by
      obtain ⟨w, F9, R9, B99⟩ := ux
      obtain ⟨hth, hrh, hO⟩ := hux
      have hO : OKW G h0 a F9 R9 0 B99 J (fun _ => 0) (fun _ _ => True) w := hO
      refine vx_catch (own := RX11) (name := eIS) (E := eIS) hown [] ⟨44, 64, 67, 86⟩ [] (htab.trans rfl) (fun z hz => nomatch hz) (by decide) (by decide) (hq _ pw_1341) hE.pc.1.use hce hcv hcl ?_
      refine W.widen (k := (42 * tl + 101)) (n := (380 * tl + 6000)) (by show (41 + (4 * sz6)) + (37 * sz6 + 10) ≤ (42 * tl + 101); omega) (by show ((5 + 220) + (60 * sz6 + 4 * cp52)) + (37 * (80 + 8 * sz6) + 15 * sz6 + 2010) ≤ (380 * tl + 6000); omega) ?_
      refine W.eq (g2 := F0 m 67 ls [.ref q9]) rfl ?_
      refine lv_astore_n (lv' := [(2, .ref q9), (1, .ref q26), (0, .ref h0)]) hx hb dX11_read_67 rfl hl (by decide) rfl (fun ls hl => ?_)
      refine lv_aload_n hx hb dX11_read_68 rfl (lv_at hl 2 rfl) ?_
      refine c_get (v := .ref (a 1)) (C := RX11) (Tc := TX11) (N := 8) (ci := 8) hx hb hq pin_wsX110 hown hE hP hO 0 (sg_0 G h0 a _ _ _ _ _) rfl 2 (by decide) (hq _ pw_1309) (fun _ h9 => h9) rfl dX11_read_69 ?_
      refine c_get (v := .int (F9 4)) (C := RX10) (Tc := TX10) (N := 15) (ci := 7) hx hb hq pin_wsX100 hown hE hP hO 2 (sg_2 G h0 a _ _ _ _ _) rfl 14 (by decide) (hq _ pw_1345) (fun _ h9 => h9) rfl dX11_read_72 ?_
      have hq9 : InC G h0 a 0 ni w := ⟨F9, R9, 0, B99, J, BsC.thr hbs67 hth hrh, Or.inl ⟨(hrh 0 (Or.inl rfl)).trans rfl, Or.inr rfl, hO⟩⟩
      exact W.iret (v := (F9 4)) hx hb hr (fun t99 ht99 hW99 => ⟨⟨_, (w, (F9 4)), rfl, ⟨rfl, hq9⟩, by rw [ht99]; exact hP, hD⟩, hS.F ht99⟩) hS.2.2 dX11_read_75)
  obtain ⟨w, K68, rk69, f70, K71, ab72⟩ := u62
  obtain ⟨hw63, h73, h74, h75, h76, h77, hO⟩ := hw63
  have h73 : WPr G K68 g49 := h73
  have h74 : PgT G K68 g49 (a 1) q26 dr36 ml37 nd50 nm51 cp52 it53 sz6 := h74
  have h75 : RkO K68 rk69 := h75
  have h76 : JnQ G K71 K68 g49 dr36 nd50 (f9) (f54) (f7) sz6 f70 ab72 := h76
  have h77 : JnX K48 K71 q26 := h77
  obtain rfl : v64 = none := hw63
  have hO : OKP G h0 a (upd (upd (upd (upd (upd (upd (upd (upd (upd (upd (upd (upd (upd F 0 0) 1 (nI tl)) 2 (nI sz6)) 3 (nI nm12)) 4 0) 9 (nI at55)) 10 0) 11 (nI sg56)) 18 0) 19 0) 20 0) 22 0) 24 0) (updR (updR (updR R 0 (.null)) 1 (.ref q26)) 6 (.null)) 0 (updA (updA (updA (updA (updA (updA (updA (updA (updA (updA (updA B 6 by17) 7 f7) 8 f8) 9 f9) 10 f54) 11 f70) 12 ns13) 13 nl14) 14 nn15) 15 bk16) 33 f25) J K68 w := hO.to rfl
  refine W.widen (k := ((41 + (4 * sz6)) + (37 * sz6))) (n := (((5 + 220) + (60 * sz6 + 4 * cp52)) + (37 * (80 + 8 * sz6)))) (by show (41 + (4 * sz6)) + (37 * sz6) ≤ ((41 + (4 * sz6)) + (37 * sz6)); omega) (by show ((5 + 220) + (60 * sz6 + 4 * cp52)) + (37 * (80 + 8 * sz6)) ≤ (((5 + 220) + (60 * sz6 + 4 * cp52)) + (37 * (80 + 8 * sz6))); omega) ?_
  refine W.eq (g2 := F0 m 56 ls []) rfl ?_
  refine lv_aload_n hx hb dX11_read_56 rfl (lv_at hl 1 rfl) ?_
  refine c_get (v := .ref (a 4)) (C := RX11) (Tc := TX11) (N := 8) (ci := 8) hx hb hq pin_wsX110 hown hE hP hO 0 (sg_0 G h0 a _ _ _ _ _) rfl 5 (by decide) (hq _ pw_1318) (fun _ h9 => h9) rfl dX11_read_57 ?_
  refine lv_aload_n hx hb dX11_read_60 rfl (lv_at hl 0 rfl) ?_
  obtain ⟨pbJ, ⟨hekJ, hskJ, hnaJ, hnxJ⟩, hmxJ, hnuJ, mJ, iJ, hmnJ⟩ := Jd_ask h59 h58.2.1 h58.2.2.2.2.2.2.2.1 (by omega) h61 h41 h60 h77 h76 h75 h58.1.2.2.2.2.2.2.2.2.1 h58.1.2.2.2.2.2.2.2.2.2 (by omega) h73 h58.1.2.2.2.1
  have hO : OKP G h0 a (upd (upd (upd (upd (upd (upd (upd (upd (upd (upd (upd (upd (upd (upd (upd F 0 (nI tl)) 0 0) 1 (nI tl)) 2 (nI sz6)) 3 (nI nm12)) 4 0) 9 (nI at55)) 10 0) 11 (nI sg56)) 18 0) 19 0) 20 0) 22 0) 24 0) 2 (nI sz6)) (updR (updR (updR R 0 (.null)) 1 (.ref q26)) 6 (.null)) 0 (updA (updA (updA (updA (updA (updA (updA (updA (updA (updA (updA B 6 by17) 7 f7) 8 f8) 9 f9) 10 f54) 11 f70) 12 ns13) 13 nl14) 14 nn15) 15 bk16) 33 f25) J K68 w := hO.to rfl
  obtain ⟨_, qr81, hqr82⟩ := hO.2.1 24 _ (sg_24 G h0 a _ _ _ _ _)
  have hbs83 : BsC a (upd (upd (upd (upd (upd (upd (upd (upd (upd (upd (upd (upd (upd (upd (upd F 0 (nI tl)) 0 0) 1 (nI tl)) 2 (nI sz6)) 3 (nI nm12)) 4 0) 9 (nI at55)) 10 0) 11 (nI sg56)) 18 0) 19 0) 20 0) 22 0) 24 0) 2 (nI sz6)) (updR (updR (updR R 0 (.null)) 1 (.ref q26)) 6 (.null)) (updA (updA (updA (updA (updA (updA (updA (updA (updA (updA (updA B 6 by17) 7 f7) 8 f8) 9 f9) 10 f54) 11 f70) 12 ns13) 13 nl14) 14 nn15) 15 bk16) 33 f25) J 0 ni := ⟨⟨rfl, Nat.zero_le _⟩, hbs.2.1, hbs.2.2.1, hbs.2.2.2.1, hbs.2.2.2.2.1, hbs.2.2.2.2.2⟩
  refine pn_V0 (G := G) (As := [.ref q26]) (rest := []) hx hb hml hown hq hE hX pX0_al hP hD hS hA hl.1 (Y_judge l G h0 a (upd (upd (upd (upd (upd (upd (upd (upd (upd (upd (upd (upd (upd (upd F 0 (nI tl)) 0 0) 1 (nI tl)) 2 (nI sz6)) 3 (nI nm12)) 4 0) 9 (nI at55)) 10 0) 11 (nI sg56)) 18 0) 19 0) 20 0) 22 0) 24 0) (updR (updR (updR R 0 (.null)) 1 (.ref q26)) 6 (.null)) 0 (updA (updA (updA (updA (updA (updA (updA (updA (updA (updA (updA B 6 by17) 7 f7) 8 f8) 9 f9) 10 f54) 11 f70) 12 ns13) 13 nl14) 14 nn15) 15 bk16) 33 f25) J K68 w q26 dr36 ml37 nd50 nm51 cp52 it53 sz6 sz6 g49 rk69 pbJ (by omega) h73 h74 h75 hbs.2.2.1 h74.1.2.2.2.2.2.2.2.2.2 hekJ hskJ hnaJ hmxJ hnuJ (by omega) (TbO.s98 h74.2.2.2.2.2.2.2.2 (by omega)) hO hl0) (gV pw_1358 pw_1359 pw_1360 pw_63 pw_376) hV_X0_judge qr81 0 hqr82 rfl rfl rfl (Nat.le_of_ble_eq_true rfl) dX11_read_61 ⟨(by show ((41 + (4 * sz6)) + (37 * sz6)) + (sz6 + 1) ≤ (42 * tl + 101); omega), (by show (((5 + 220) + (60 * sz6 + 4 * cp52)) + (37 * (80 + 8 * sz6))) + (6 * sz6 + 6) ≤ (380 * tl + 6000); omega)⟩ ⟨(by show (1210) + 1 ≤ (1230); omega), (by show 8 + (5 + 11) + (47500) ≤ (47700); omega)⟩ (fun v80 u78 H locs hw79 hP hD hS => ?_) (fun ux ce9 q9 H9 locs9 hux hP hD hS hce hcv hcl => by
      obtain ⟨w, F9, R9, B99⟩ := ux
      obtain ⟨hth, hrh, hO⟩ := hux
      have hO : OKW G h0 a F9 R9 0 B99 J (fun _ => 0) (fun _ _ => True) w := hO
      refine vx_catch (own := RX11) (name := eIS) (E := eIS) hown [] ⟨44, 64, 67, 86⟩ [] (htab.trans rfl) (fun z hz => nomatch hz) (by decide) (by decide) (hq _ pw_1341) hE.pc.1.use hce hcv hcl ?_
      refine W.widen (k := (42 * tl + 101)) (n := (380 * tl + 6000)) (by show ((41 + (4 * sz6)) + (37 * sz6)) + (sz6 + 1) ≤ (42 * tl + 101); omega) (by show (((5 + 220) + (60 * sz6 + 4 * cp52)) + (37 * (80 + 8 * sz6))) + (6 * sz6 + 6) ≤ (380 * tl + 6000); omega) ?_
      refine W.eq (g2 := F0 m 67 ls [.ref q9]) rfl ?_
      refine lv_astore_n (lv' := [(2, .ref q9), (1, .ref q26), (0, .ref h0)]) hx hb dX11_read_67 rfl hl (by decide) rfl (fun ls hl => ?_)
      refine lv_aload_n hx hb dX11_read_68 rfl (lv_at hl 2 rfl) ?_
      refine c_get (v := .ref (a 1)) (C := RX11) (Tc := TX11) (N := 8) (ci := 8) hx hb hq pin_wsX110 hown hE hP hO 0 (sg_0 G h0 a _ _ _ _ _) rfl 2 (by decide) (hq _ pw_1309) (fun _ h9 => h9) rfl dX11_read_69 ?_
      refine c_get (v := .int (F9 4)) (C := RX10) (Tc := TX10) (N := 15) (ci := 7) hx hb hq pin_wsX100 hown hE hP hO 2 (sg_2 G h0 a _ _ _ _ _) rfl 14 (by decide) (hq _ pw_1345) (fun _ h9 => h9) rfl dX11_read_72 ?_
      have hq9 : InC G h0 a 0 ni w := ⟨F9, R9, 0, B99, J, BsC.thr hbs83 hth hrh, Or.inl ⟨(hrh 0 (Or.inl rfl)).trans rfl, Or.inr rfl, hO⟩⟩
      exact W.iret (v := (F9 4)) hx hb hr (fun t99 ht99 hW99 => ⟨⟨_, (w, (F9 4)), rfl, ⟨rfl, hq9⟩, by rw [ht99]; exact hP, hD⟩, hS.F ht99⟩) hS.2.2 dX11_read_75)
  obtain ⟨w, K84, B85, cs86, rg87, gr88, Q89, as90, wt91, wf92, vr93, hd94, dp95, ls96, mv97, lv98⟩ := u78
  obtain ⟨hw79, h99, h100, h101, h102, h103, h104, h105, h106, h107, hO⟩ := hw79
  have h99 : BdX K68 K84 := h99
  have h100 : MtB K84 := h100
  have h101 : Bth (updA (updA (updA (updA (updA (updA (updA (updA (updA (updA (updA B 6 by17) 7 f7) 8 f8) 9 f9) 10 f54) 11 f70) 12 ns13) 13 nl14) 14 nn15) 15 bk16) 33 f25) B85 := h101
  have h102 : BeF K68 K84 := h102
  have h103 : BtR (updA (updA (updA (updA (updA (updA (updA (updA (updA (updA (updA B 6 by17) 7 f7) 8 f8) 9 f9) 10 f54) 11 f70) 12 ns13) 13 nl14) 14 nn15) 15 bk16) 33 f25) B85 := h103
  have h104 : cs86 ≤ 10000 := h104
  have h105 : rg87 ≤ 625 ∧ rg87 ≤ gr88 := h105
  have h106 : RgQx B85 Q89 gr88 nd50 := h106
  have h107 : ∀ j : Nat, j < nm51 → JdM pbJ K84 B85 Q89 cs86 rg87 j (it53 j) := h107
  obtain rfl : v80 = none := hw79
  have hO : OKP G h0 a (upd (upd (upd (upd (upd (upd (upd (upd (upd (upd (upd (upd (upd (upd (upd (upd (upd (upd (upd (upd (upd (upd F 0 0) 1 (nI tl)) 2 (nI sz6)) 3 (nI nm12)) 4 0) 5 (nI cs86)) 6 (nI rg87)) 7 hd94) 8 dp95) 9 (nI at55)) 10 0) 11 (nI sg56)) 12 vr93) 13 as90) 14 wt91) 15 wf92) 16 ls96) 18 0) 19 0) 20 0) 22 0) 24 0) (updR (updR (updR (updR (updR (updR R 0 (.null)) 1 (.ref q26)) 2 (.ref q26)) 3 (mv97)) 4 (lv98)) 6 (.null)) 0 B85 J K84 w := hO.to rfl
  refine W.widen (k := (((41 + (4 * sz6)) + (37 * sz6)) + sz6)) (n := ((((5 + 220) + (60 * sz6 + 4 * cp52)) + (37 * (80 + 8 * sz6))) + (6 * sz6))) (by show ((41 + (4 * sz6)) + (37 * sz6)) + sz6 ≤ (((41 + (4 * sz6)) + (37 * sz6)) + sz6); omega) (by show (((5 + 220) + (60 * sz6 + 4 * cp52)) + (37 * (80 + 8 * sz6))) + (6 * sz6) ≤ ((((5 + 220) + (60 * sz6 + 4 * cp52)) + (37 * (80 + 8 * sz6))) + (6 * sz6)); omega) ?_
  refine W.eq (g2 := F0 m 64 ls []) rfl ?_
  refine lv_goto (tgt := 76) hx hb dX11_read_64 (by decide) ?_
  refine lv_aload_n hx hb dX11_read_76 rfl (lv_at hl 1 rfl) ?_
  refine lv_aload_n hx hb dX11_read_77 rfl (lv_at hl 0 rfl) ?_
  refine c_put (v := .ref q26) (ty := (.object "JinjaTongue$Program")) (C := RX11) (Tc := TX11) (N := 8) (ci := 8) hx hb hq pin_wsX110 tyX11 tyX11_ok nmX11 hown hE hP hD hS hO 0 (sg_0 G h0 a _ _ _ _ _) rfl 7 (by decide) (hq _ pw_1342) (fun _ h9 => h9) rfl (by decide +kernel) rfl rfl (Nat.le_of_ble_eq_true rfl) (sr_0 G h0 a _ _ _ _ _ (.ref q26)) dX11_read_78 (fun H locs w hP hD hS hO => ?_)
  refine lv_iconst (v := 0) hx hb dX11_read_81 (by decide) ?_
  have hO : OKP G h0 a (upd (upd (upd (upd (upd (upd (upd (upd (upd (upd (upd (upd (upd (upd (upd (upd (upd (upd (upd (upd (upd (upd F 0 0) 1 (nI tl)) 2 (nI sz6)) 3 (nI nm12)) 4 0) 5 (nI cs86)) 6 (nI rg87)) 7 hd94) 8 dp95) 9 (nI at55)) 10 0) 11 (nI sg56)) 12 vr93) 13 as90) 14 wt91) 15 wf92) 16 ls96) 18 0) 19 0) 20 0) 22 0) 24 0) (updR (updR (updR (updR (updR (updR R 0 (.ref q26)) 1 (.ref q26)) 2 (.ref q26)) 3 (mv97)) 4 (lv98)) 6 (.null)) 0 B85 J K84 w := hO.to rfl
  have hb9 := BsC.bth hbs83 h101
  have hnm9 := NmR.bth (B := (updA (updA (updA (updA (updA (updA (updA (updA (updA (updA (updA B 6 by17) 7 f7) 8 f8) 9 f9) 10 f54) 11 f70) 12 ns13) 13 nl14) 14 nn15) 15 bk16) 33 f25)) (B1 := B85) h19 h101
  have hpr9 := Jd_end h99 h102 h73 h74.2.1 h74.1.2.2.2.1 hnaJ hnxJ (fun i9 hi9 => (hnuJ i9 hi9).1) h107 h106 h105 hmnJ
  have hq9 : InC G h0 a 0 ni w := ⟨(upd (upd (upd (upd (upd (upd (upd (upd (upd (upd (upd (upd (upd (upd (upd (upd (upd (upd (upd (upd (upd (upd F 0 0) 1 (nI tl)) 2 (nI sz6)) 3 (nI nm12)) 4 0) 5 (nI cs86)) 6 (nI rg87)) 7 hd94) 8 dp95) 9 (nI at55)) 10 0) 11 (nI sg56)) 12 vr93) 13 as90) 14 wt91) 15 wf92) 16 ls96) 18 0) 19 0) 20 0) 22 0) 24 0), (updR (updR (updR (updR (updR (updR R 0 (.ref q26)) 1 (.ref q26)) 2 (.ref q26)) 3 (mv97)) 4 (lv98)) 6 (.null)), 0, B85, J, ⟨hb9.1, hb9.2.1, hb9.2.2.1, hb9.2.2.2.1, hb9.2.2.2.2.1, hb9.2.2.2.2.2⟩, Or.inr ⟨K84, g49, rk69, it53, q26, dr36, ml37, nd50, nm51, cp52, sz6, cs86, rg87, rfl, Or.inr (Or.inl rfl), hO, BdX.wp h99 h100 h73, BdX.pt h99 h73 h74, BdX.rko h99 h75, ⟨rfl, h104⟩, ⟨rfl, h105.1⟩, nm12, rfl, hnm9, hpr9⟩⟩
  refine W.widen (k := (42 * tl + 101)) (n := (380 * tl + 6000)) (by show (((41 + (4 * sz6)) + (37 * sz6)) + sz6) ≤ (42 * tl + 101); omega) (by show ((((5 + 220) + (60 * sz6 + 4 * cp52)) + (37 * (80 + 8 * sz6))) + (6 * sz6)) ≤ (380 * tl + 6000); omega) ?_
  exact W.iret (v := 0) hx hb hr (fun t99 ht99 hW99 => ⟨⟨_, (w, (0 : Int32)), rfl, ⟨rfl, hq9⟩, by rw [ht99]; exact hP, hD⟩, hS.F ht99⟩) hS.2.2 dX11_read_82
