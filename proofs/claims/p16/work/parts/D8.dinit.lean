section DI
variable {p : Program} {l : Launch} {e : Env} {R : Room} {s : State} {m : MethodId} {args : Array Value} {below : List Frame} {meth : Method} {c : Code} {H : Heap} {locs : List Loc} {cells slots : Nat} {Qg : State → Prop}
variable {cc bytes : ByteArray} {pc nL maxL mc ms idx n : Nat} {ls : Array Slot} {st0 rest As : List Value} {A0 : Nat → Prop} {ws : va_W} {G : pT} {X : State → Prop} {own : String} {y : MethodName} {rm : Room} {b : Nat}
theorem pc_I0 {S : Type} {Q : Option Value → S → Prop} {w1 : S → va_W} (hx : p.tables.exec = Jvm.exec) (hb : c.code = cc) (hml : c.maxLocals = nL) (hown : s.vm.findClass own = some m.cls) (hq : ∀ w ∈ pw, w.before args s = true) (hE : pE G A0 s s.heap) (hX : X s) (hXm : pAl X)
    (hP : va_P G.1 pCl ws H) (hD : va_D A0 ws) (hS : va_S A0 s.heap H locs) (hA : ∀ q, s.heap.size ≤ q → A0 q) (hl : ls.size = nL)
    (hM : PM l G X y bytes maxL none rm (.ref b :: As) ws Q w1) (h1 : Cond.methodLink own idx y ∈ pw) (h2 : Cond.instanceMethod y ∈ pw) (h3 : Cond.initialized y.cls ∈ pw) (h4 : Cond.code y bytes maxL none ∈ pw)
    (hy : y.name = "<init>") (hd : y.cls ≠ "java/lang/invoke/MethodHandle" ∧ y.cls ≠ "java/lang/invoke/VarHandle" ∧ (parseMethodDescriptor y.desc).map (fun d => d.parameters.length) = some As.length)
    (hst : st0 = As.reverse ++ .ref b :: rest) (hW : (rest.map fun v => v.category).sum ≤ 8) (hdg : decode cc pc = .ok (.invokespecial idx, 3)) (hf : cells + rm.cells ≤ R.cells ∧ slots + rm.slots ≤ R.slots) (hRm : rm.frames + 1 ≤ R.frames ∧ 8 + (maxL + 11) + rm.locals ≤ R.locals)
    (kk : ∀ (v : Option Value) (u : S) (H1 : Heap) (locs1 : List Loc), Q v u → va_P G.1 pCl (w1 u) H1 → va_D A0 (w1 u) → va_S A0 s.heap H1 locs1 → W p l e R s m args below meth c H1 locs1 (cells + rm.cells) (slots + rm.slots) Qg (F0 m (pc + 3) ls (v.toList ++ rest))) : W p l e R s m args below meth c H locs cells slots Qg (F0 m pc ls st0) := by
  subst hst
  exact pc_go0 (va_runI (As := As) (rest := rest) ⟨hx, hb, hml, hown, hq⟩ (hM H.size) (cwI As.length hq (gW h4) rfl rfl rfl (hq _ h3) (hq _ h1) (hq _ h2) hy hd hRm) ⟨pPc.blind hXm, pc_pre0 (av := .ref b :: As) hE hX hXm hP hD hS hA⟩ rfl rfl hl rfl (lv_room hW) hdg hf) hD hS hA kk
end DI
theorem dJxa1e45_init_da8c8_0 : decode cJxa1e45_init_da8c8 0 = .ok (.aload_n 0, 1) := by decide +kernel
theorem dJxa1e45_init_da8c8_1 : decode cJxa1e45_init_da8c8 1 = .ok (.invokespecial 1, 3) := by decide +kernel
theorem dJxa1e45_init_da8c8_4 : decode cJxa1e45_init_da8c8 4 = .ok (.return_, 1) := by decide +kernel
set_option maxHeartbeats 2000000 in
set_option maxRecDepth 100000 in
theorem L_init0 (l : Launch) (G : pT) (h0 : Nat) (a : Nat → Nat) (F : Nat → Int32) (R : Nat → Value) (Z : Int64) (B : Nat → Nat → Int32) (J : Nat → Nat → Int64) (K : PK) (w : va_W) (q0 : Nat) (hT0 : K.1 q0 = 5) (hO : OKP G h0 a F R Z B J K w) : PM l G pX0 yJxa1e45_init_da8c8 cJxa1e45_init_da8c8 1 none ({ frames := 2, cells := 0, slots := 0, locals := 60 }) [.ref q0] w (fun (v : Option Value) (u : va_W × (Unit)) => v = none ∧ (OKP G h0 a F R Z B J K u.1)) (fun u => u.1) := by
  intro sz
  refine Met.ofW (cc := cJxa1e45_init_da8c8) (maxL := 1) (ret := none) (by decide) rfl ?_
  intro p e s m args below meth c s₁ B9 hml hv
  obtain ⟨rfl, hsz, hP, hD0, hE, hX⟩ := hv
  have hx := B9.exec
  have hb := B9.bytes
  have hr := B9.returns
  have hts := atoms_spec (ws := Cond.code yJxa1e45_init_da8c8 cJxa1e45_init_da8c8 1 none :: pw) B9.pre
  have hq : ∀ w ∈ pw, w.before _ s = true := fun w h => hts w (List.mem_cons_of_mem _ h)
  have hown : s.vm.findClass RJxa1e45 = some m.cls := findClass_of_methodNamed B9.named
  have hlocks := B9.notSynchronized
  have hin : meth.name = "<init>" := (name_of_methodNamed B9.named B9.method).1
  subst hsz
  have hD := hD0.self (sz := s.heap.size)
  have hA : ∀ q : Nat, s.heap.size ≤ q → va_A w s.heap.size q := fun q h => Or.inr h
  generalize va_A w s.heap.size = A at hD hE hA ⊢
  have hS : va_S A s.heap s.heap [] := va_S.rf
  have hl := lv_entry ([.ref q0]) (n := 1) (Nat.le_of_ble_eq_true rfl)
  rw [lg_entry_eq]
  generalize (lg_sl ([.ref q0]) ++ List.replicate (1 - (lg_sl ([.ref q0])).length) Slot.unset).toArray = ls at hl ⊢
  have hl : lv_has ls 1 [(0, .ref q0)] := hl
  refine lv_aload_n hx hb dJxa1e45_init_da8c8_0 rfl (lv_at hl 0 rfl) ?_
  refine W.objInit hx hb hown (hq _ pw_388) (hq _ pw_2) (hq _ pw_3) rfl (by rw [hml]; exact hl.1) rfl dJxa1e45_init_da8c8_1 (Nat.le_of_ble_eq_true rfl) (Nat.le_of_ble_eq_true rfl) ?_
  refine W.eq (g2 := F0 m 4 ls []) rfl ?_
  have hO : OKP G h0 a F R Z B J K w := hO.to rfl
  exact W.vret hx hb hr (fun t99 ht99 hW99 => ⟨⟨_, (w, ()), rfl, ⟨rfl, hO⟩, by rw [ht99]; exact hP, hD⟩, hS.F ht99⟩) hS.2.2 dJxa1e45_init_da8c8_4
theorem dJxc12de_init_da8c8_0 : decode cJxc12de_init_da8c8 0 = .ok (.aload_n 0, 1) := by decide +kernel
theorem dJxc12de_init_da8c8_1 : decode cJxc12de_init_da8c8 1 = .ok (.invokespecial 1, 3) := by decide +kernel
theorem dJxc12de_init_da8c8_4 : decode cJxc12de_init_da8c8 4 = .ok (.aload_n 0, 1) := by decide +kernel
theorem dJxc12de_init_da8c8_5 : decode cJxc12de_init_da8c8 5 = .ok (.iconst 0, 1) := by decide +kernel
theorem dJxc12de_init_da8c8_6 : decode cJxc12de_init_da8c8 6 = .ok (.putfield 7, 3) := by decide +kernel
theorem dJxc12de_init_da8c8_9 : decode cJxc12de_init_da8c8 9 = .ok (.return_, 1) := by decide +kernel
theorem hS_Jxa1e45_init_da8c8 : yJxa1e45_init_da8c8.cls ≠ "java/lang/invoke/MethodHandle" ∧ yJxa1e45_init_da8c8.cls ≠ "java/lang/invoke/VarHandle" ∧ (parseMethodDescriptor yJxa1e45_init_da8c8.desc).map (fun d => d.parameters.length) = some 0 := by decide +kernel
set_option maxHeartbeats 2000000 in
set_option maxRecDepth 100000 in
theorem L_init1 (l : Launch) (G : pT) (h0 : Nat) (a : Nat → Nat) (F : Nat → Int32) (R : Nat → Value) (Z : Int64) (B : Nat → Nat → Int32) (J : Nat → Nat → Int64) (K : PK) (w : va_W) (q0 : Nat) (hT0 : K.1 q0 = 5) (hO : OKP G h0 a F R Z B J K w) : PM l G pX0 yJxc12de_init_da8c8 cJxc12de_init_da8c8 1 none ({ frames := 3, cells := 0, slots := 0, locals := 80 }) [.ref q0] w (fun (v : Option Value) (u : va_W × (Unit)) => v = none ∧ (OKP G h0 a F R Z B J (kI K 22 q0 0) u.1)) (fun u => u.1) := by
  intro sz
  refine Met.ofW (cc := cJxc12de_init_da8c8) (maxL := 1) (ret := none) (by decide) rfl ?_
  intro p e s m args below meth c s₁ B9 hml hv
  obtain ⟨rfl, hsz, hP, hD0, hE, hX⟩ := hv
  have hx := B9.exec
  have hb := B9.bytes
  have hr := B9.returns
  have hts := atoms_spec (ws := Cond.code yJxc12de_init_da8c8 cJxc12de_init_da8c8 1 none :: pw) B9.pre
  have hq : ∀ w ∈ pw, w.before _ s = true := fun w h => hts w (List.mem_cons_of_mem _ h)
  have hown : s.vm.findClass RJxc12de = some m.cls := findClass_of_methodNamed B9.named
  have hlocks := B9.notSynchronized
  have hin : meth.name = "<init>" := (name_of_methodNamed B9.named B9.method).1
  subst hsz
  have hD := hD0.self (sz := s.heap.size)
  have hA : ∀ q : Nat, s.heap.size ≤ q → va_A w s.heap.size q := fun q h => Or.inr h
  generalize va_A w s.heap.size = A at hD hE hA ⊢
  have hS : va_S A s.heap s.heap [] := va_S.rf
  have hl := lv_entry ([.ref q0]) (n := 1) (Nat.le_of_ble_eq_true rfl)
  rw [lg_entry_eq]
  generalize (lg_sl ([.ref q0]) ++ List.replicate (1 - (lg_sl ([.ref q0])).length) Slot.unset).toArray = ls at hl ⊢
  have hl : lv_has ls 1 [(0, .ref q0)] := hl
  refine lv_aload_n hx hb dJxc12de_init_da8c8_0 rfl (lv_at hl 0 rfl) ?_
  have hO : OKP G h0 a F R Z B J K w := hO.to rfl
  obtain ⟨qr4, hqr5⟩ := p_recv hO (by rw [hT0]; decide) (rep_5 hT0)
  refine pc_I0 (G := G) (As := []) (rest := []) hx hb hml hown hq hE hX pX0_al hP hD hS hA hl.1 (L_init0 l G h0 a F R Z B J K w q0 (by omega) hO) pw_391 pw_392 pw_393 pw_387 rfl hS_Jxa1e45_init_da8c8 rfl (Nat.le_of_ble_eq_true rfl) dJxc12de_init_da8c8_1 ⟨Nat.le_of_ble_eq_true rfl, Nat.le_of_ble_eq_true rfl⟩ ⟨Nat.le_of_ble_eq_true rfl, Nat.le_of_ble_eq_true rfl⟩ (fun v3 u1 H locs hw2 hP hD hS => ?_)
  obtain ⟨w, _⟩ := u1
  obtain ⟨hw2, hO⟩ := hw2
  obtain rfl : v3 = none := hw2
  have hf6 : K.1 q0 = 5 := hT0
  have hO : OKP G h0 a F R Z B J K w := hO.to rfl
  refine W.widen (k := 0) (n := 0) (Nat.le_of_ble_eq_true rfl) (Nat.le_of_ble_eq_true rfl) ?_
  refine W.eq (g2 := F0 m 4 ls []) rfl ?_
  refine lv_aload_n hx hb dJxc12de_init_da8c8_4 rfl (lv_at hl 0 rfl) ?_
  refine lv_iconst (v := 0) hx hb dJxc12de_init_da8c8_5 (by decide) ?_
  refine p_put (v := .int 0) (ty := .int) (C := RJx4a65c) (Tc := TJx4a65c) (N := 3) (ci := 10) (K' := (kI K 22 q0 0)) hx hb hq pin_wsJx4a65c0 tyJx4a65c tyJx4a65c_ok nmJx4a65c hown hE hP hD hS hO (by rw [hf6]; decide) (rep_5 hf6) rfl 0 (by decide) (hq _ pw_390) (fun _ h9 => h9) rfl (by decide +kernel) rfl rfl (Nat.le_of_ble_eq_true rfl) rfl (by rw [rep_5 (show (kI K 22 q0 0).1 q0 = 5 from hf6), pi_22] <;> rfl) (fun p9 hp9 => rep_kI hp9) dJxc12de_init_da8c8_6 (fun H locs w hP hD hS hO => ?_)
  obtain ⟨K7, hK8⟩ : ∃ z : PK, z = (kI K 22 q0 0) := ⟨_, rfl⟩
  rw [← hK8] at hO
  have hf9 : K7.1 q0 = 5 := (by rw [hK8]; exact hf6)
  have hf10 : K7.2.1 22 q0 = 0 := by rw [hK8]; exact kI_eq
  rw [hK8] at hO
  have hO : OKP G h0 a F R Z B J (kI K 22 q0 0) w := hO.to rfl
  exact W.vret hx hb hr (fun t99 ht99 hW99 => ⟨⟨_, (w, ()), rfl, ⟨rfl, hO⟩, by rw [ht99]; exact hP, hD⟩, hS.F ht99⟩) hS.2.2 dJxc12de_init_da8c8_9
theorem dJx4a65c_init_da8c8_0 : decode cJx4a65c_init_da8c8 0 = .ok (.aload_n 0, 1) := by decide +kernel
theorem dJx4a65c_init_da8c8_1 : decode cJx4a65c_init_da8c8 1 = .ok (.invokespecial 1, 3) := by decide +kernel
theorem dJx4a65c_init_da8c8_4 : decode cJx4a65c_init_da8c8 4 = .ok (.aload_n 0, 1) := by decide +kernel
theorem dJx4a65c_init_da8c8_5 : decode cJx4a65c_init_da8c8 5 = .ok (.getstatic 39, 3) := by decide +kernel
theorem dJx4a65c_init_da8c8_8 : decode cJx4a65c_init_da8c8 8 = .ok (.putfield 9, 3) := by decide +kernel
theorem dJx4a65c_init_da8c8_11 : decode cJx4a65c_init_da8c8 11 = .ok (.return_, 1) := by decide +kernel
theorem hS_Jxc12de_init_da8c8 : yJxc12de_init_da8c8.cls ≠ "java/lang/invoke/MethodHandle" ∧ yJxc12de_init_da8c8.cls ≠ "java/lang/invoke/VarHandle" ∧ (parseMethodDescriptor yJxc12de_init_da8c8.desc).map (fun d => d.parameters.length) = some 0 := by decide +kernel
set_option maxHeartbeats 2000000 in
set_option maxRecDepth 100000 in
theorem L_init (l : Launch) (G : pT) (h0 : Nat) (a : Nat → Nat) (F : Nat → Int32) (R : Nat → Value) (Z : Int64) (B : Nat → Nat → Int32) (J : Nat → Nat → Int64) (K : PK) (w : va_W) (q0 : Nat) (hT0 : K.1 q0 = 5) (hO : OKP G h0 a F R Z B J K w) : PM l G pX0 yJx4a65c_init_da8c8 cJx4a65c_init_da8c8 1 none ({ frames := 4, cells := 0, slots := 0, locals := 100 }) [.ref q0] w (fun (v : Option Value) (u : va_W × (Unit)) => v = none ∧ (OKP G h0 a F R Z B J (kC (kI K 22 q0 0) 13 q0 (some G.2.2.2.2)) u.1)) (fun u => u.1) := by
  intro sz
  refine Met.ofW (cc := cJx4a65c_init_da8c8) (maxL := 1) (ret := none) (by decide) rfl ?_
  intro p e s m args below meth c s₁ B9 hml hv
  obtain ⟨rfl, hsz, hP, hD0, hE, hX⟩ := hv
  have hx := B9.exec
  have hb := B9.bytes
  have hr := B9.returns
  have hts := atoms_spec (ws := Cond.code yJx4a65c_init_da8c8 cJx4a65c_init_da8c8 1 none :: pw) B9.pre
  have hq : ∀ w ∈ pw, w.before _ s = true := fun w h => hts w (List.mem_cons_of_mem _ h)
  have hown : s.vm.findClass RJx4a65c = some m.cls := findClass_of_methodNamed B9.named
  have hlocks := B9.notSynchronized
  have hin : meth.name = "<init>" := (name_of_methodNamed B9.named B9.method).1
  subst hsz
  have hD := hD0.self (sz := s.heap.size)
  have hA : ∀ q : Nat, s.heap.size ≤ q → va_A w s.heap.size q := fun q h => Or.inr h
  generalize va_A w s.heap.size = A at hD hE hA ⊢
  have hS : va_S A s.heap s.heap [] := va_S.rf
  have hl := lv_entry ([.ref q0]) (n := 1) (Nat.le_of_ble_eq_true rfl)
  rw [lg_entry_eq]
  generalize (lg_sl ([.ref q0]) ++ List.replicate (1 - (lg_sl ([.ref q0])).length) Slot.unset).toArray = ls at hl ⊢
  have hl : lv_has ls 1 [(0, .ref q0)] := hl
  refine lv_aload_n hx hb dJx4a65c_init_da8c8_0 rfl (lv_at hl 0 rfl) ?_
  have hO : OKP G h0 a F R Z B J K w := hO.to rfl
  obtain ⟨qr4, hqr5⟩ := p_recv hO (by rw [hT0]; decide) (rep_5 hT0)
  refine pc_I0 (G := G) (As := []) (rest := []) hx hb hml hown hq hE hX pX0_al hP hD hS hA hl.1 (L_init1 l G h0 a F R Z B J K w q0 (by omega) hO) pw_396 pw_397 pw_398 pw_389 rfl hS_Jxc12de_init_da8c8 rfl (Nat.le_of_ble_eq_true rfl) dJx4a65c_init_da8c8_1 ⟨Nat.le_of_ble_eq_true rfl, Nat.le_of_ble_eq_true rfl⟩ ⟨Nat.le_of_ble_eq_true rfl, Nat.le_of_ble_eq_true rfl⟩ (fun v3 u1 H locs hw2 hP hD hS => ?_)
  obtain ⟨w, _⟩ := u1
  obtain ⟨hw2, hO⟩ := hw2
  obtain rfl : v3 = none := hw2
  have hf6 : (kI K 22 q0 0).1 q0 = 5 := hT0
  have hO : OKP G h0 a F R Z B J (kI K 22 q0 0) w := hO.to rfl
  refine W.widen (k := 0) (n := 0) (Nat.le_of_ble_eq_true rfl) (Nat.le_of_ble_eq_true rfl) ?_
  refine W.eq (g2 := F0 m 4 ls []) rfl ?_
  refine lv_aload_n hx hb dJx4a65c_init_da8c8_4 rfl (lv_at hl 0 rfl) ?_
  refine va_gets hx hb hE.2.2.2.2.2.1 hS hown (hq _ pw_395) (fun _ h9 => h9) dJx4a65c_init_da8c8_5 ?_
  refine p_put (v := .ref G.2.2.2.2) (ty := (.array (.object "java/lang/Object"))) (C := RJx4a65c) (Tc := TJx4a65c) (N := 3) (ci := 10) (K' := (kC (kI K 22 q0 0) 13 q0 (some G.2.2.2.2))) hx hb hq pin_wsJx4a65c0 tyJx4a65c tyJx4a65c_ok nmJx4a65c hown hE hP hD hS hO (by rw [hf6]; decide) (rep_5 hf6) rfl 1 (by decide) (hq _ pw_24) (fun _ h9 => h9) rfl (by decide +kernel) rfl rfl (Nat.le_of_ble_eq_true rfl) rfl (by rw [rep_5 (show (kC (kI K 22 q0 0) 13 q0 (some G.2.2.2.2)).1 q0 = 5 from hf6), pc_13] <;> rfl) (fun p9 hp9 => rep_kC hp9) dJx4a65c_init_da8c8_8 (fun H locs w hP hD hS hO => ?_)
  obtain ⟨K7, hK8⟩ : ∃ z : PK, z = (kC (kI K 22 q0 0) 13 q0 (some G.2.2.2.2)) := ⟨_, rfl⟩
  rw [← hK8] at hO
  have hf9 : K7.1 q0 = 5 := (by rw [hK8]; exact hf6)
  have hf10 : K7.2.2.1 13 q0 = some G.2.2.2.2 := by rw [hK8]; exact kC_eq
  rw [hK8] at hO
  have hO : OKP G h0 a F R Z B J (kC (kI K 22 q0 0) 13 q0 (some G.2.2.2.2)) w := hO.to rfl
  exact W.vret hx hb hr (fun t99 ht99 hW99 => ⟨⟨_, (w, ()), rfl, ⟨rfl, hO⟩, by rw [ht99]; exact hP, hD⟩, hS.F ht99⟩) hS.2.2 dJx4a65c_init_da8c8_11
theorem dX7_init_0 : decode cX7_init 0 = .ok (.aload_n 0, 1) := by decide +kernel
theorem dX7_init_1 : decode cX7_init 1 = .ok (.invokespecial 1, 3) := by decide +kernel
theorem dX7_init_4 : decode cX7_init 4 = .ok (.aload_n 0, 1) := by decide +kernel
theorem dX7_init_5 : decode cX7_init 5 = .ok (.iload_n 1, 1) := by decide +kernel
theorem dX7_init_6 : decode cX7_init 6 = .ok (.putfield 7, 3) := by decide +kernel
theorem dX7_init_9 : decode cX7_init 9 = .ok (.aload_n 0, 1) := by decide +kernel
theorem dX7_init_10 : decode cX7_init 10 = .ok (.iload_n 2, 1) := by decide +kernel
theorem dX7_init_11 : decode cX7_init 11 = .ok (.putfield 13, 3) := by decide +kernel
theorem dX7_init_14 : decode cX7_init 14 = .ok (.aload_n 0, 1) := by decide +kernel
theorem dX7_init_15 : decode cX7_init 15 = .ok (.iload_n 3, 1) := by decide +kernel
theorem dX7_init_16 : decode cX7_init 16 = .ok (.putfield 16, 3) := by decide +kernel
theorem dX7_init_19 : decode cX7_init 19 = .ok (.return_, 1) := by decide +kernel
set_option maxHeartbeats 2000000 in
set_option maxRecDepth 100000 in
theorem N_init (l : Launch) (G : pT) (h0 : Nat) (a : Nat → Nat) (F : Nat → Int32) (R : Nat → Value) (Z : Int64) (B : Nat → Nat → Int32) (J : Nat → Nat → Int64) (K : PK) (w : va_W) (q0 : Nat) (x1 : Int32) (x2 : Int32) (x3 : Int32) (hT0 : K.1 q0 = 1) (hO : OKP G h0 a F R Z B J K w) : PM l G pX0 yX7_init cX7_init 4 none ({ frames := 2, cells := 0, slots := 0, locals := 60 }) [.ref q0, .int x1, .int x2, .int x3] w (fun (v : Option Value) (u : va_W × (Unit)) => v = none ∧ (OKP G h0 a F R Z B J (kI (kI (kI K 0 q0 x1) 1 q0 x2) 2 q0 x3) u.1)) (fun u => u.1) := by
  intro sz
  refine Met.ofW (cc := cX7_init) (maxL := 4) (ret := none) (by decide) rfl ?_
  intro p e s m args below meth c s₁ B9 hml hv
  obtain ⟨rfl, hsz, hP, hD0, hE, hX⟩ := hv
  have hx := B9.exec
  have hb := B9.bytes
  have hr := B9.returns
  have hts := atoms_spec (ws := Cond.code yX7_init cX7_init 4 none :: pw) B9.pre
  have hq : ∀ w ∈ pw, w.before _ s = true := fun w h => hts w (List.mem_cons_of_mem _ h)
  have hown : s.vm.findClass RX7 = some m.cls := findClass_of_methodNamed B9.named
  have hlocks := B9.notSynchronized
  have hin : meth.name = "<init>" := (name_of_methodNamed B9.named B9.method).1
  subst hsz
  have hD := hD0.self (sz := s.heap.size)
  have hA : ∀ q : Nat, s.heap.size ≤ q → va_A w s.heap.size q := fun q h => Or.inr h
  generalize va_A w s.heap.size = A at hD hE hA ⊢
  have hS : va_S A s.heap s.heap [] := va_S.rf
  have hl := lv_entry ([.ref q0, .int x1, .int x2, .int x3]) (n := 4) (Nat.le_of_ble_eq_true rfl)
  rw [lg_entry_eq]
  generalize (lg_sl ([.ref q0, .int x1, .int x2, .int x3]) ++ List.replicate (4 - (lg_sl ([.ref q0, .int x1, .int x2, .int x3])).length) Slot.unset).toArray = ls at hl ⊢
  have hl : lv_has ls 4 [(0, .ref q0), (1, .int x1), (2, .int x2), (3, .int x3)] := hl
  refine lv_aload_n hx hb dX7_init_0 rfl (lv_at hl 0 rfl) ?_
  refine W.objInit hx hb hown (hq _ pw_766) (hq _ pw_2) (hq _ pw_3) rfl (by rw [hml]; exact hl.1) rfl dX7_init_1 (Nat.le_of_ble_eq_true rfl) (Nat.le_of_ble_eq_true rfl) ?_
  refine W.eq (g2 := F0 m 4 ls []) rfl ?_
  refine lv_aload_n hx hb dX7_init_4 rfl (lv_at hl 0 rfl) ?_
  refine lv_iload_n hx hb dX7_init_5 rfl (lv_at hl 1 rfl) ?_
  refine p_putF (v := .int x1) (ty := .int) (C := RX7) (Tc := TX7) (N := 11) (ci := 13) (K' := (kI K 0 q0 x1)) hx hb hq pin_wsX70 tyX7 tyX7_ok nmX7 hown hE hP hD hS hO (by rw [hT0]; decide) (rep_1 hT0) rfl 0 (by decide) (hq _ pw_767) (fun _ h9 => h9) rfl hin rfl (by decide +kernel) rfl rfl (Nat.le_of_ble_eq_true rfl) rfl (by rw [rep_1 (show (kI K 0 q0 x1).1 q0 = 1 from hT0), pi_0] <;> rfl) (fun p9 hp9 => rep_kI hp9) dX7_init_6 (fun H locs w hP hD hS hO => ?_)
  obtain ⟨K1, hK2⟩ : ∃ z : PK, z = (kI K 0 q0 x1) := ⟨_, rfl⟩
  rw [← hK2] at hO
  have hf3 : K1.1 q0 = 1 := (by rw [hK2]; exact hT0)
  have hf4 : K1.2.1 0 q0 = x1 := by rw [hK2]; exact kI_eq
  refine lv_aload_n hx hb dX7_init_9 rfl (lv_at hl 0 rfl) ?_
  refine lv_iload_n hx hb dX7_init_10 rfl (lv_at hl 2 rfl) ?_
  refine p_putF (v := .int x2) (ty := .int) (C := RX7) (Tc := TX7) (N := 11) (ci := 13) (K' := (kI K1 1 q0 x2)) hx hb hq pin_wsX70 tyX7 tyX7_ok nmX7 hown hE hP hD hS hO (by rw [hf3]; decide) (rep_1 hf3) rfl 1 (by decide) (hq _ pw_768) (fun _ h9 => h9) rfl hin rfl (by decide +kernel) rfl rfl (Nat.le_of_ble_eq_true rfl) rfl (by rw [rep_1 (show (kI K1 1 q0 x2).1 q0 = 1 from hf3), pi_1] <;> rfl) (fun p9 hp9 => rep_kI hp9) dX7_init_11 (fun H locs w hP hD hS hO => ?_)
  obtain ⟨K5, hK6⟩ : ∃ z : PK, z = (kI K1 1 q0 x2) := ⟨_, rfl⟩
  rw [← hK6] at hO
  have hf7 : K5.1 q0 = 1 := (by rw [hK6]; exact hf3)
  have hf8 : K5.2.1 0 q0 = x1 := (by rw [hK6]; exact (kI_of (by decide)).trans hf4)
  have hf9 : K5.2.1 1 q0 = x2 := by rw [hK6]; exact kI_eq
  refine lv_aload_n hx hb dX7_init_14 rfl (lv_at hl 0 rfl) ?_
  refine lv_iload_n hx hb dX7_init_15 rfl (lv_at hl 3 rfl) ?_
  refine p_putF (v := .int x3) (ty := .int) (C := RX7) (Tc := TX7) (N := 11) (ci := 13) (K' := (kI K5 2 q0 x3)) hx hb hq pin_wsX70 tyX7 tyX7_ok nmX7 hown hE hP hD hS hO (by rw [hf7]; decide) (rep_1 hf7) rfl 2 (by decide) (hq _ pw_769) (fun _ h9 => h9) rfl hin rfl (by decide +kernel) rfl rfl (Nat.le_of_ble_eq_true rfl) rfl (by rw [rep_1 (show (kI K5 2 q0 x3).1 q0 = 1 from hf7), pi_2] <;> rfl) (fun p9 hp9 => rep_kI hp9) dX7_init_16 (fun H locs w hP hD hS hO => ?_)
  obtain ⟨K10, hK11⟩ : ∃ z : PK, z = (kI K5 2 q0 x3) := ⟨_, rfl⟩
  rw [← hK11] at hO
  have hf12 : K10.1 q0 = 1 := (by rw [hK11]; exact hf7)
  have hf13 : K10.2.1 0 q0 = x1 := (by rw [hK11]; exact (kI_of (by decide)).trans hf8)
  have hf14 : K10.2.1 1 q0 = x2 := (by rw [hK11]; exact (kI_of (by decide)).trans hf9)
  have hf15 : K10.2.1 2 q0 = x3 := by rw [hK11]; exact kI_eq
  rw [hK11, hK6, hK2] at hO
  have hO : OKP G h0 a F R Z B J (kI (kI (kI K 0 q0 x1) 1 q0 x2) 2 q0 x3) w := hO.to rfl
  exact W.vret hx hb hr (fun t99 ht99 hW99 => ⟨⟨_, (w, ()), rfl, ⟨rfl, hO⟩, by rw [ht99]; exact hP, hD⟩, hS.F ht99⟩) hS.2.2 dX7_init_19
theorem dX4_init_0 : decode cX4_init 0 = .ok (.aload_n 0, 1) := by decide +kernel
theorem dX4_init_1 : decode cX4_init 1 = .ok (.invokespecial 3, 3) := by decide +kernel
theorem dX4_init_4 : decode cX4_init 4 = .ok (.aload_n 0, 1) := by decide +kernel
theorem dX4_init_5 : decode cX4_init 5 = .ok (.aload_n 1, 1) := by decide +kernel
theorem dX4_init_6 : decode cX4_init 6 = .ok (.putfield 9, 3) := by decide +kernel
theorem dX4_init_9 : decode cX4_init 9 = .ok (.aload_n 0, 1) := by decide +kernel
theorem dX4_init_10 : decode cX4_init 10 = .ok (.iload_n 2, 1) := by decide +kernel
theorem dX4_init_11 : decode cX4_init 11 = .ok (.putfield 15, 3) := by decide +kernel
theorem dX4_init_14 : decode cX4_init 14 = .ok (.aload_n 0, 1) := by decide +kernel
theorem dX4_init_15 : decode cX4_init 15 = .ok (.iconst (-1), 1) := by decide +kernel
theorem dX4_init_16 : decode cX4_init 16 = .ok (.putfield 19, 3) := by decide +kernel
theorem dX4_init_19 : decode cX4_init 19 = .ok (.aload_n 0, 1) := by decide +kernel
theorem dX4_init_20 : decode cX4_init 20 = .ok (.iconst (-1), 1) := by decide +kernel
theorem dX4_init_21 : decode cX4_init 21 = .ok (.putfield 22, 3) := by decide +kernel
theorem dX4_init_24 : decode cX4_init 24 = .ok (.aload_n 0, 1) := by decide +kernel
theorem dX4_init_25 : decode cX4_init 25 = .ok (.iconst (-1), 1) := by decide +kernel
theorem dX4_init_26 : decode cX4_init 26 = .ok (.putfield 27, 3) := by decide +kernel
theorem dX4_init_29 : decode cX4_init 29 = .ok (.aload_n 0, 1) := by decide +kernel
theorem dX4_init_30 : decode cX4_init 30 = .ok (.iconst (-1), 1) := by decide +kernel
theorem dX4_init_31 : decode cX4_init 31 = .ok (.putfield 30, 3) := by decide +kernel
theorem dX4_init_34 : decode cX4_init 34 = .ok (.return_, 1) := by decide +kernel
set_option maxHeartbeats 2000000 in
set_option maxRecDepth 100000 in
theorem O_initN (l : Launch) (G : pT) (h0 : Nat) (a : Nat → Nat) (F : Nat → Int32) (R : Nat → Value) (Z : Int64) (B : Nat → Nat → Int32) (J : Nat → Nat → Int64) (K : PK) (w : va_W) (q0 : Nat) (x1 : Int32) (hT0 : K.1 q0 = 9) (hO : OKP G h0 a F R Z B J K w) : PM l G pX0 yX4_init cX4_init 3 none ({ frames := 2, cells := 0, slots := 0, locals := 60 }) [.ref q0, .null, .int x1] w (fun (v : Option Value) (u : va_W × (Unit)) => v = none ∧ (OKP G h0 a F R Z B J (kI (kI (kI (kI (kI (kC K 16 q0 none) 26 q0 x1) 27 q0 (-1)) 28 q0 (-1)) 29 q0 (-1)) 30 q0 (-1)) u.1)) (fun u => u.1) := by
  intro sz
  refine Met.ofW (cc := cX4_init) (maxL := 3) (ret := none) (by decide) rfl ?_
  intro p e s m args below meth c s₁ B9 hml hv
  obtain ⟨rfl, hsz, hP, hD0, hE, hX⟩ := hv
  have hx := B9.exec
  have hb := B9.bytes
  have hr := B9.returns
  have hts := atoms_spec (ws := Cond.code yX4_init cX4_init 3 none :: pw) B9.pre
  have hq : ∀ w ∈ pw, w.before _ s = true := fun w h => hts w (List.mem_cons_of_mem _ h)
  have hown : s.vm.findClass RX4 = some m.cls := findClass_of_methodNamed B9.named
  have hlocks := B9.notSynchronized
  have hin : meth.name = "<init>" := (name_of_methodNamed B9.named B9.method).1
  subst hsz
  have hD := hD0.self (sz := s.heap.size)
  have hA : ∀ q : Nat, s.heap.size ≤ q → va_A w s.heap.size q := fun q h => Or.inr h
  generalize va_A w s.heap.size = A at hD hE hA ⊢
  have hS : va_S A s.heap s.heap [] := va_S.rf
  have hl := lv_entry ([.ref q0, .null, .int x1]) (n := 3) (Nat.le_of_ble_eq_true rfl)
  rw [lg_entry_eq]
  generalize (lg_sl ([.ref q0, .null, .int x1]) ++ List.replicate (3 - (lg_sl ([.ref q0, .null, .int x1])).length) Slot.unset).toArray = ls at hl ⊢
  have hl : lv_has ls 3 [(0, .ref q0), (1, .null), (2, .int x1)] := hl
  refine lv_aload_n hx hb dX4_init_0 rfl (lv_at hl 0 rfl) ?_
  refine W.objInit hx hb hown (hq _ pw_273) (hq _ pw_2) (hq _ pw_3) rfl (by rw [hml]; exact hl.1) rfl dX4_init_1 (Nat.le_of_ble_eq_true rfl) (Nat.le_of_ble_eq_true rfl) ?_
  refine W.eq (g2 := F0 m 4 ls []) rfl ?_
  refine lv_aload_n hx hb dX4_init_4 rfl (lv_at hl 0 rfl) ?_
  refine lv_aload_nN hx hb dX4_init_5 rfl (lv_at hl 1 rfl) ?_
  refine p_putF (v := .null) (ty := (.object "JinjaTongue$Loop")) (C := RX4) (Tc := TX4) (N := 6) (ci := 11) (K' := (kC K 16 q0 none)) hx hb hq pin_wsX40 tyX4 tyX4_ok nmX4 hown hE hP hD hS hO (by rw [hT0]; decide) (rep_9 hT0) rfl 0 (by decide) (hq _ pw_274) (fun _ h9 => h9) rfl hin rfl (by decide +kernel) rfl rfl (Nat.le_of_ble_eq_true rfl) rfl (by rw [rep_9 (show (kC K 16 q0 none).1 q0 = 9 from hT0), pc_16] <;> rfl) (fun p9 hp9 => rep_kC hp9) dX4_init_6 (fun H locs w hP hD hS hO => ?_)
  obtain ⟨K1, hK2⟩ : ∃ z : PK, z = (kC K 16 q0 none) := ⟨_, rfl⟩
  rw [← hK2] at hO
  have hf3 : K1.1 q0 = 9 := (by rw [hK2]; exact hT0)
  have hf4 : K1.2.2.1 16 q0 = none := by rw [hK2]; exact kC_eq
  refine lv_aload_n hx hb dX4_init_9 rfl (lv_at hl 0 rfl) ?_
  refine lv_iload_n hx hb dX4_init_10 rfl (lv_at hl 2 rfl) ?_
  refine p_putF (v := .int x1) (ty := .int) (C := RX4) (Tc := TX4) (N := 6) (ci := 11) (K' := (kI K1 26 q0 x1)) hx hb hq pin_wsX40 tyX4 tyX4_ok nmX4 hown hE hP hD hS hO (by rw [hf3]; decide) (rep_9 hf3) rfl 1 (by decide) (hq _ pw_275) (fun _ h9 => h9) rfl hin rfl (by decide +kernel) rfl rfl (Nat.le_of_ble_eq_true rfl) rfl (by rw [rep_9 (show (kI K1 26 q0 x1).1 q0 = 9 from hf3), pi_26] <;> rfl) (fun p9 hp9 => rep_kI hp9) dX4_init_11 (fun H locs w hP hD hS hO => ?_)
  obtain ⟨K5, hK6⟩ : ∃ z : PK, z = (kI K1 26 q0 x1) := ⟨_, rfl⟩
  rw [← hK6] at hO
  have hf7 : K5.1 q0 = 9 := (by rw [hK6]; exact hf3)
  have hf8 : K5.2.2.1 16 q0 = none := (by rw [hK6]; exact hf4)
  have hf9 : K5.2.1 26 q0 = x1 := by rw [hK6]; exact kI_eq
  refine lv_aload_n hx hb dX4_init_14 rfl (lv_at hl 0 rfl) ?_
  refine lv_iconst (v := (-1)) hx hb dX4_init_15 (by decide) ?_
  refine p_put (v := .int (-1)) (ty := .int) (C := RX4) (Tc := TX4) (N := 6) (ci := 11) (K' := (kI K5 27 q0 (-1))) hx hb hq pin_wsX40 tyX4 tyX4_ok nmX4 hown hE hP hD hS hO (by rw [hf7]; decide) (rep_9 hf7) rfl 2 (by decide) (hq _ pw_276) (fun _ h9 => h9) rfl (by decide +kernel) rfl rfl (Nat.le_of_ble_eq_true rfl) rfl (by rw [rep_9 (show (kI K5 27 q0 (-1)).1 q0 = 9 from hf7), pi_27] <;> rfl) (fun p9 hp9 => rep_kI hp9) dX4_init_16 (fun H locs w hP hD hS hO => ?_)
  obtain ⟨K10, hK11⟩ : ∃ z : PK, z = (kI K5 27 q0 (-1)) := ⟨_, rfl⟩
  rw [← hK11] at hO
  have hf12 : K10.1 q0 = 9 := (by rw [hK11]; exact hf7)
  have hf13 : K10.2.2.1 16 q0 = none := (by rw [hK11]; exact hf8)
  have hf14 : K10.2.1 26 q0 = x1 := (by rw [hK11]; exact (kI_of (by decide)).trans hf9)
  have hf15 : K10.2.1 27 q0 = (-1) := by rw [hK11]; exact kI_eq
  refine lv_aload_n hx hb dX4_init_19 rfl (lv_at hl 0 rfl) ?_
  refine lv_iconst (v := (-1)) hx hb dX4_init_20 (by decide) ?_
  refine p_put (v := .int (-1)) (ty := .int) (C := RX4) (Tc := TX4) (N := 6) (ci := 11) (K' := (kI K10 28 q0 (-1))) hx hb hq pin_wsX40 tyX4 tyX4_ok nmX4 hown hE hP hD hS hO (by rw [hf12]; decide) (rep_9 hf12) rfl 3 (by decide) (hq _ pw_277) (fun _ h9 => h9) rfl (by decide +kernel) rfl rfl (Nat.le_of_ble_eq_true rfl) rfl (by rw [rep_9 (show (kI K10 28 q0 (-1)).1 q0 = 9 from hf12), pi_28] <;> rfl) (fun p9 hp9 => rep_kI hp9) dX4_init_21 (fun H locs w hP hD hS hO => ?_)
  obtain ⟨K16, hK17⟩ : ∃ z : PK, z = (kI K10 28 q0 (-1)) := ⟨_, rfl⟩
  rw [← hK17] at hO
  have hf18 : K16.1 q0 = 9 := (by rw [hK17]; exact hf12)
  have hf19 : K16.2.2.1 16 q0 = none := (by rw [hK17]; exact hf13)
  have hf20 : K16.2.1 26 q0 = x1 := (by rw [hK17]; exact (kI_of (by decide)).trans hf14)
  have hf21 : K16.2.1 27 q0 = (-1) := (by rw [hK17]; exact (kI_of (by decide)).trans hf15)
  have hf22 : K16.2.1 28 q0 = (-1) := by rw [hK17]; exact kI_eq
  refine lv_aload_n hx hb dX4_init_24 rfl (lv_at hl 0 rfl) ?_
  refine lv_iconst (v := (-1)) hx hb dX4_init_25 (by decide) ?_
  refine p_put (v := .int (-1)) (ty := .int) (C := RX4) (Tc := TX4) (N := 6) (ci := 11) (K' := (kI K16 29 q0 (-1))) hx hb hq pin_wsX40 tyX4 tyX4_ok nmX4 hown hE hP hD hS hO (by rw [hf18]; decide) (rep_9 hf18) rfl 4 (by decide) (hq _ pw_278) (fun _ h9 => h9) rfl (by decide +kernel) rfl rfl (Nat.le_of_ble_eq_true rfl) rfl (by rw [rep_9 (show (kI K16 29 q0 (-1)).1 q0 = 9 from hf18), pi_29] <;> rfl) (fun p9 hp9 => rep_kI hp9) dX4_init_26 (fun H locs w hP hD hS hO => ?_)
  obtain ⟨K23, hK24⟩ : ∃ z : PK, z = (kI K16 29 q0 (-1)) := ⟨_, rfl⟩
  rw [← hK24] at hO
  have hf25 : K23.1 q0 = 9 := (by rw [hK24]; exact hf18)
  have hf26 : K23.2.2.1 16 q0 = none := (by rw [hK24]; exact hf19)
  have hf27 : K23.2.1 26 q0 = x1 := (by rw [hK24]; exact (kI_of (by decide)).trans hf20)
  have hf28 : K23.2.1 27 q0 = (-1) := (by rw [hK24]; exact (kI_of (by decide)).trans hf21)
  have hf29 : K23.2.1 28 q0 = (-1) := (by rw [hK24]; exact (kI_of (by decide)).trans hf22)
  have hf30 : K23.2.1 29 q0 = (-1) := by rw [hK24]; exact kI_eq
  refine lv_aload_n hx hb dX4_init_29 rfl (lv_at hl 0 rfl) ?_
  refine lv_iconst (v := (-1)) hx hb dX4_init_30 (by decide) ?_
  refine p_put (v := .int (-1)) (ty := .int) (C := RX4) (Tc := TX4) (N := 6) (ci := 11) (K' := (kI K23 30 q0 (-1))) hx hb hq pin_wsX40 tyX4 tyX4_ok nmX4 hown hE hP hD hS hO (by rw [hf25]; decide) (rep_9 hf25) rfl 5 (by decide) (hq _ pw_279) (fun _ h9 => h9) rfl (by decide +kernel) rfl rfl (Nat.le_of_ble_eq_true rfl) rfl (by rw [rep_9 (show (kI K23 30 q0 (-1)).1 q0 = 9 from hf25), pi_30] <;> rfl) (fun p9 hp9 => rep_kI hp9) dX4_init_31 (fun H locs w hP hD hS hO => ?_)
  obtain ⟨K31, hK32⟩ : ∃ z : PK, z = (kI K23 30 q0 (-1)) := ⟨_, rfl⟩
  rw [← hK32] at hO
  have hf33 : K31.1 q0 = 9 := (by rw [hK32]; exact hf25)
  have hf34 : K31.2.2.1 16 q0 = none := (by rw [hK32]; exact hf26)
  have hf35 : K31.2.1 26 q0 = x1 := (by rw [hK32]; exact (kI_of (by decide)).trans hf27)
  have hf36 : K31.2.1 27 q0 = (-1) := (by rw [hK32]; exact (kI_of (by decide)).trans hf28)
  have hf37 : K31.2.1 28 q0 = (-1) := (by rw [hK32]; exact (kI_of (by decide)).trans hf29)
  have hf38 : K31.2.1 29 q0 = (-1) := (by rw [hK32]; exact (kI_of (by decide)).trans hf30)
  have hf39 : K31.2.1 30 q0 = (-1) := by rw [hK32]; exact kI_eq
  rw [hK32, hK24, hK17, hK11, hK6, hK2] at hO
  have hO : OKP G h0 a F R Z B J (kI (kI (kI (kI (kI (kC K 16 q0 none) 26 q0 x1) 27 q0 (-1)) 28 q0 (-1)) 29 q0 (-1)) 30 q0 (-1)) w := hO.to rfl
  exact W.vret hx hb hr (fun t99 ht99 hW99 => ⟨⟨_, (w, ()), rfl, ⟨rfl, hO⟩, by rw [ht99]; exact hP, hD⟩, hS.F ht99⟩) hS.2.2 dX4_init_34
set_option maxHeartbeats 2000000 in
set_option maxRecDepth 100000 in
theorem O_init (l : Launch) (G : pT) (h0 : Nat) (a : Nat → Nat) (F : Nat → Int32) (R : Nat → Value) (Z : Int64) (B : Nat → Nat → Int32) (J : Nat → Nat → Int64) (K : PK) (w : va_W) (q0 : Nat) (o9 : Nat) (x1 : Int32) (hT0 : K.1 q0 = 9) (hO : OKP G h0 a F R Z B J K w) : PM l G pX0 yX4_init cX4_init 3 none ({ frames := 2, cells := 0, slots := 0, locals := 60 }) [.ref q0, .ref o9, .int x1] w (fun (v : Option Value) (u : va_W × (Unit)) => v = none ∧ (OKP G h0 a F R Z B J (kI (kI (kI (kI (kI (kC K 16 q0 (some o9)) 26 q0 x1) 27 q0 (-1)) 28 q0 (-1)) 29 q0 (-1)) 30 q0 (-1)) u.1)) (fun u => u.1) := by
  intro sz
  refine Met.ofW (cc := cX4_init) (maxL := 3) (ret := none) (by decide) rfl ?_
  intro p e s m args below meth c s₁ B9 hml hv
  obtain ⟨rfl, hsz, hP, hD0, hE, hX⟩ := hv
  have hx := B9.exec
  have hb := B9.bytes
  have hr := B9.returns
  have hts := atoms_spec (ws := Cond.code yX4_init cX4_init 3 none :: pw) B9.pre
  have hq : ∀ w ∈ pw, w.before _ s = true := fun w h => hts w (List.mem_cons_of_mem _ h)
  have hown : s.vm.findClass RX4 = some m.cls := findClass_of_methodNamed B9.named
  have hlocks := B9.notSynchronized
  have hin : meth.name = "<init>" := (name_of_methodNamed B9.named B9.method).1
  subst hsz
  have hD := hD0.self (sz := s.heap.size)
  have hA : ∀ q : Nat, s.heap.size ≤ q → va_A w s.heap.size q := fun q h => Or.inr h
  generalize va_A w s.heap.size = A at hD hE hA ⊢
  have hS : va_S A s.heap s.heap [] := va_S.rf
  have hl := lv_entry ([.ref q0, .ref o9, .int x1]) (n := 3) (Nat.le_of_ble_eq_true rfl)
  rw [lg_entry_eq]
  generalize (lg_sl ([.ref q0, .ref o9, .int x1]) ++ List.replicate (3 - (lg_sl ([.ref q0, .ref o9, .int x1])).length) Slot.unset).toArray = ls at hl ⊢
  have hl : lv_has ls 3 [(0, .ref q0), (1, .ref o9), (2, .int x1)] := hl
  refine lv_aload_n hx hb dX4_init_0 rfl (lv_at hl 0 rfl) ?_
  refine W.objInit hx hb hown (hq _ pw_273) (hq _ pw_2) (hq _ pw_3) rfl (by rw [hml]; exact hl.1) rfl dX4_init_1 (Nat.le_of_ble_eq_true rfl) (Nat.le_of_ble_eq_true rfl) ?_
  refine W.eq (g2 := F0 m 4 ls []) rfl ?_
  refine lv_aload_n hx hb dX4_init_4 rfl (lv_at hl 0 rfl) ?_
  refine lv_aload_n hx hb dX4_init_5 rfl (lv_at hl 1 rfl) ?_
  refine p_putF (v := .ref o9) (ty := (.object "JinjaTongue$Loop")) (C := RX4) (Tc := TX4) (N := 6) (ci := 11) (K' := (kC K 16 q0 (some o9))) hx hb hq pin_wsX40 tyX4 tyX4_ok nmX4 hown hE hP hD hS hO (by rw [hT0]; decide) (rep_9 hT0) rfl 0 (by decide) (hq _ pw_274) (fun _ h9 => h9) rfl hin rfl (by decide +kernel) rfl rfl (Nat.le_of_ble_eq_true rfl) rfl (by rw [rep_9 (show (kC K 16 q0 (some o9)).1 q0 = 9 from hT0), pc_16] <;> rfl) (fun p9 hp9 => rep_kC hp9) dX4_init_6 (fun H locs w hP hD hS hO => ?_)
  obtain ⟨K1, hK2⟩ : ∃ z : PK, z = (kC K 16 q0 (some o9)) := ⟨_, rfl⟩
  rw [← hK2] at hO
  have hf3 : K1.1 q0 = 9 := (by rw [hK2]; exact hT0)
  have hf4 : K1.2.2.1 16 q0 = some o9 := by rw [hK2]; exact kC_eq
  refine lv_aload_n hx hb dX4_init_9 rfl (lv_at hl 0 rfl) ?_
  refine lv_iload_n hx hb dX4_init_10 rfl (lv_at hl 2 rfl) ?_
  refine p_putF (v := .int x1) (ty := .int) (C := RX4) (Tc := TX4) (N := 6) (ci := 11) (K' := (kI K1 26 q0 x1)) hx hb hq pin_wsX40 tyX4 tyX4_ok nmX4 hown hE hP hD hS hO (by rw [hf3]; decide) (rep_9 hf3) rfl 1 (by decide) (hq _ pw_275) (fun _ h9 => h9) rfl hin rfl (by decide +kernel) rfl rfl (Nat.le_of_ble_eq_true rfl) rfl (by rw [rep_9 (show (kI K1 26 q0 x1).1 q0 = 9 from hf3), pi_26] <;> rfl) (fun p9 hp9 => rep_kI hp9) dX4_init_11 (fun H locs w hP hD hS hO => ?_)
  obtain ⟨K5, hK6⟩ : ∃ z : PK, z = (kI K1 26 q0 x1) := ⟨_, rfl⟩
  rw [← hK6] at hO
  have hf7 : K5.1 q0 = 9 := (by rw [hK6]; exact hf3)
  have hf8 : K5.2.2.1 16 q0 = some o9 := (by rw [hK6]; exact hf4)
  have hf9 : K5.2.1 26 q0 = x1 := by rw [hK6]; exact kI_eq
  refine lv_aload_n hx hb dX4_init_14 rfl (lv_at hl 0 rfl) ?_
  refine lv_iconst (v := (-1)) hx hb dX4_init_15 (by decide) ?_
  refine p_put (v := .int (-1)) (ty := .int) (C := RX4) (Tc := TX4) (N := 6) (ci := 11) (K' := (kI K5 27 q0 (-1))) hx hb hq pin_wsX40 tyX4 tyX4_ok nmX4 hown hE hP hD hS hO (by rw [hf7]; decide) (rep_9 hf7) rfl 2 (by decide) (hq _ pw_276) (fun _ h9 => h9) rfl (by decide +kernel) rfl rfl (Nat.le_of_ble_eq_true rfl) rfl (by rw [rep_9 (show (kI K5 27 q0 (-1)).1 q0 = 9 from hf7), pi_27] <;> rfl) (fun p9 hp9 => rep_kI hp9) dX4_init_16 (fun H locs w hP hD hS hO => ?_)
  obtain ⟨K10, hK11⟩ : ∃ z : PK, z = (kI K5 27 q0 (-1)) := ⟨_, rfl⟩
  rw [← hK11] at hO
  have hf12 : K10.1 q0 = 9 := (by rw [hK11]; exact hf7)
  have hf13 : K10.2.2.1 16 q0 = some o9 := (by rw [hK11]; exact hf8)
  have hf14 : K10.2.1 26 q0 = x1 := (by rw [hK11]; exact (kI_of (by decide)).trans hf9)
  have hf15 : K10.2.1 27 q0 = (-1) := by rw [hK11]; exact kI_eq
  refine lv_aload_n hx hb dX4_init_19 rfl (lv_at hl 0 rfl) ?_
  refine lv_iconst (v := (-1)) hx hb dX4_init_20 (by decide) ?_
  refine p_put (v := .int (-1)) (ty := .int) (C := RX4) (Tc := TX4) (N := 6) (ci := 11) (K' := (kI K10 28 q0 (-1))) hx hb hq pin_wsX40 tyX4 tyX4_ok nmX4 hown hE hP hD hS hO (by rw [hf12]; decide) (rep_9 hf12) rfl 3 (by decide) (hq _ pw_277) (fun _ h9 => h9) rfl (by decide +kernel) rfl rfl (Nat.le_of_ble_eq_true rfl) rfl (by rw [rep_9 (show (kI K10 28 q0 (-1)).1 q0 = 9 from hf12), pi_28] <;> rfl) (fun p9 hp9 => rep_kI hp9) dX4_init_21 (fun H locs w hP hD hS hO => ?_)
  obtain ⟨K16, hK17⟩ : ∃ z : PK, z = (kI K10 28 q0 (-1)) := ⟨_, rfl⟩
  rw [← hK17] at hO
  have hf18 : K16.1 q0 = 9 := (by rw [hK17]; exact hf12)
  have hf19 : K16.2.2.1 16 q0 = some o9 := (by rw [hK17]; exact hf13)
  have hf20 : K16.2.1 26 q0 = x1 := (by rw [hK17]; exact (kI_of (by decide)).trans hf14)
  have hf21 : K16.2.1 27 q0 = (-1) := (by rw [hK17]; exact (kI_of (by decide)).trans hf15)
  have hf22 : K16.2.1 28 q0 = (-1) := by rw [hK17]; exact kI_eq
  refine lv_aload_n hx hb dX4_init_24 rfl (lv_at hl 0 rfl) ?_
  refine lv_iconst (v := (-1)) hx hb dX4_init_25 (by decide) ?_
  refine p_put (v := .int (-1)) (ty := .int) (C := RX4) (Tc := TX4) (N := 6) (ci := 11) (K' := (kI K16 29 q0 (-1))) hx hb hq pin_wsX40 tyX4 tyX4_ok nmX4 hown hE hP hD hS hO (by rw [hf18]; decide) (rep_9 hf18) rfl 4 (by decide) (hq _ pw_278) (fun _ h9 => h9) rfl (by decide +kernel) rfl rfl (Nat.le_of_ble_eq_true rfl) rfl (by rw [rep_9 (show (kI K16 29 q0 (-1)).1 q0 = 9 from hf18), pi_29] <;> rfl) (fun p9 hp9 => rep_kI hp9) dX4_init_26 (fun H locs w hP hD hS hO => ?_)
  obtain ⟨K23, hK24⟩ : ∃ z : PK, z = (kI K16 29 q0 (-1)) := ⟨_, rfl⟩
  rw [← hK24] at hO
  have hf25 : K23.1 q0 = 9 := (by rw [hK24]; exact hf18)
  have hf26 : K23.2.2.1 16 q0 = some o9 := (by rw [hK24]; exact hf19)
  have hf27 : K23.2.1 26 q0 = x1 := (by rw [hK24]; exact (kI_of (by decide)).trans hf20)
  have hf28 : K23.2.1 27 q0 = (-1) := (by rw [hK24]; exact (kI_of (by decide)).trans hf21)
  have hf29 : K23.2.1 28 q0 = (-1) := (by rw [hK24]; exact (kI_of (by decide)).trans hf22)
  have hf30 : K23.2.1 29 q0 = (-1) := by rw [hK24]; exact kI_eq
  refine lv_aload_n hx hb dX4_init_29 rfl (lv_at hl 0 rfl) ?_
  refine lv_iconst (v := (-1)) hx hb dX4_init_30 (by decide) ?_
  refine p_put (v := .int (-1)) (ty := .int) (C := RX4) (Tc := TX4) (N := 6) (ci := 11) (K' := (kI K23 30 q0 (-1))) hx hb hq pin_wsX40 tyX4 tyX4_ok nmX4 hown hE hP hD hS hO (by rw [hf25]; decide) (rep_9 hf25) rfl 5 (by decide) (hq _ pw_279) (fun _ h9 => h9) rfl (by decide +kernel) rfl rfl (Nat.le_of_ble_eq_true rfl) rfl (by rw [rep_9 (show (kI K23 30 q0 (-1)).1 q0 = 9 from hf25), pi_30] <;> rfl) (fun p9 hp9 => rep_kI hp9) dX4_init_31 (fun H locs w hP hD hS hO => ?_)
  obtain ⟨K31, hK32⟩ : ∃ z : PK, z = (kI K23 30 q0 (-1)) := ⟨_, rfl⟩
  rw [← hK32] at hO
  have hf33 : K31.1 q0 = 9 := (by rw [hK32]; exact hf25)
  have hf34 : K31.2.2.1 16 q0 = some o9 := (by rw [hK32]; exact hf26)
  have hf35 : K31.2.1 26 q0 = x1 := (by rw [hK32]; exact (kI_of (by decide)).trans hf27)
  have hf36 : K31.2.1 27 q0 = (-1) := (by rw [hK32]; exact (kI_of (by decide)).trans hf28)
  have hf37 : K31.2.1 28 q0 = (-1) := (by rw [hK32]; exact (kI_of (by decide)).trans hf29)
  have hf38 : K31.2.1 29 q0 = (-1) := (by rw [hK32]; exact (kI_of (by decide)).trans hf30)
  have hf39 : K31.2.1 30 q0 = (-1) := by rw [hK32]; exact kI_eq
  rw [hK32, hK24, hK17, hK11, hK6, hK2] at hO
  have hO : OKP G h0 a F R Z B J (kI (kI (kI (kI (kI (kC K 16 q0 (some o9)) 26 q0 x1) 27 q0 (-1)) 28 q0 (-1)) 29 q0 (-1)) 30 q0 (-1)) w := hO.to rfl
  exact W.vret hx hb hr (fun t99 ht99 hW99 => ⟨⟨_, (w, ()), rfl, ⟨rfl, hO⟩, by rw [ht99]; exact hP, hD⟩, hS.F ht99⟩) hS.2.2 dX4_init_34
theorem dX7_isPlace_0 : decode cX7_isPlace 0 = .ok (.aload_n 0, 1) := by decide +kernel
theorem dX7_isPlace_1 : decode cX7_isPlace 1 = .ok (.getfield 7, 3) := by decide +kernel
theorem dX7_isPlace_4 : decode cX7_isPlace 4 = .ok (.iconst 5, 1) := by decide +kernel
theorem dX7_isPlace_5 : decode cX7_isPlace 5 = .ok (.if_icmp .eq 21, 3) := by decide +kernel
theorem dX7_isPlace_26 : decode cX7_isPlace 26 = .ok (.iconst 1, 1) := by decide +kernel
theorem dX7_isPlace_27 : decode cX7_isPlace 27 = .ok (.goto 4, 3) := by decide +kernel
theorem dX7_isPlace_31 : decode cX7_isPlace 31 = .ok (.ireturn, 1) := by decide +kernel
theorem dX7_isPlace_8 : decode cX7_isPlace 8 = .ok (.aload_n 0, 1) := by decide +kernel
theorem dX7_isPlace_9 : decode cX7_isPlace 9 = .ok (.getfield 7, 3) := by decide +kernel
theorem dX7_isPlace_12 : decode cX7_isPlace 12 = .ok (.bipush 12, 2) := by decide +kernel
theorem dX7_isPlace_14 : decode cX7_isPlace 14 = .ok (.if_icmp .eq 12, 3) := by decide +kernel
theorem dX7_isPlace_17 : decode cX7_isPlace 17 = .ok (.aload_n 0, 1) := by decide +kernel
theorem dX7_isPlace_18 : decode cX7_isPlace 18 = .ok (.getfield 7, 3) := by decide +kernel
theorem dX7_isPlace_21 : decode cX7_isPlace 21 = .ok (.bipush 14, 2) := by decide +kernel
theorem dX7_isPlace_23 : decode cX7_isPlace 23 = .ok (.if_icmp .ne 7, 3) := by decide +kernel
theorem dX7_isPlace_30 : decode cX7_isPlace 30 = .ok (.iconst 0, 1) := by decide +kernel
set_option maxHeartbeats 2000000 in
set_option maxRecDepth 100000 in
theorem N_isPlace (l : Launch) (G : pT) (h0 : Nat) (a : Nat → Nat) (F : Nat → Int32) (R : Nat → Value) (Z : Int64) (B : Nat → Nat → Int32) (J : Nat → Nat → Int64) (K : PK) (w : va_W) (q0 : Nat) (hT0 : K.1 q0 = 1) (hO : OKP G h0 a F R Z B J K w) : PM l G pX0 yX7_isPlace cX7_isPlace 1 (some .boolean) ({ frames := 2, cells := 0, slots := 0, locals := 60 }) [.ref q0] w (fun (v : Option Value) (u : va_W × (Nat)) => v = some (.int (nI u.2)) ∧ (u.2 ≤ 1) ∧ (If (u.2 = 1) (K.2.1 0 q0 = 5 ∨ K.2.1 0 q0 = 12 ∨ K.2.1 0 q0 = 14)) ∧ (OKP G h0 a F R Z B J K u.1)) (fun u => u.1) := by
  intro sz
  refine Met.ofW (cc := cX7_isPlace) (maxL := 1) (ret := (some .boolean)) (by decide) rfl ?_
  intro p e s m args below meth c s₁ B9 hml hv
  obtain ⟨rfl, hsz, hP, hD0, hE, hX⟩ := hv
  have hx := B9.exec
  have hb := B9.bytes
  have hr := B9.returns
  have hts := atoms_spec (ws := Cond.code yX7_isPlace cX7_isPlace 1 (some .boolean) :: pw) B9.pre
  have hq : ∀ w ∈ pw, w.before _ s = true := fun w h => hts w (List.mem_cons_of_mem _ h)
  have hown : s.vm.findClass RX7 = some m.cls := findClass_of_methodNamed B9.named
  have hlocks := B9.notSynchronized
  subst hsz
  have hD := hD0.self (sz := s.heap.size)
  have hA : ∀ q : Nat, s.heap.size ≤ q → va_A w s.heap.size q := fun q h => Or.inr h
  generalize va_A w s.heap.size = A at hD hE hA ⊢
  have hS : va_S A s.heap s.heap [] := va_S.rf
  have hl := lv_entry ([.ref q0]) (n := 1) (Nat.le_of_ble_eq_true rfl)
  rw [lg_entry_eq]
  generalize (lg_sl ([.ref q0]) ++ List.replicate (1 - (lg_sl ([.ref q0])).length) Slot.unset).toArray = ls at hl ⊢
  have hl : lv_has ls 1 [(0, .ref q0)] := hl
  refine lv_aload_n hx hb dX7_isPlace_0 rfl (lv_at hl 0 rfl) ?_
  refine p_get (v := .int (K.2.1 0 q0)) (C := RX7) (Tc := TX7) (N := 11) (ci := 13) hx hb hq pin_wsX70 hown hE hP hO (by rw [hT0]; decide) (rep_1 hT0) rfl 0 (by decide) (hq _ pw_767) (fun _ h9 => h9) rfl dX7_isPlace_1 ?_
  refine lv_iconst (v := 5) hx hb dX7_isPlace_4 (by decide) ?_
  refine lv_icmp_eq (tgt := 26) hx hb dX7_isPlace_5 (by decide) (fun c1 => ?_) (fun c1 => ?_)
  · refine lv_iconst (v := 1) hx hb dX7_isPlace_26 (by decide) ?_
    refine lv_goto (tgt := 31) hx hb dX7_isPlace_27 (by decide) ?_
    have hz2 : 1 ≤ 1 := (by omega)
    have hz3 : If (1 = 1) (K.2.1 0 q0 = 5 ∨ K.2.1 0 q0 = 12 ∨ K.2.1 0 q0 = 14) := (fun _ => (Or.inl c1))
    have hO : OKP G h0 a F R Z B J K w := hO.to rfl
    exact W.zret (v := 1) hx hb hr rfl (fun t99 ht99 hW99 => ⟨⟨_, (w, 1), rfl, ⟨rfl, hz2, hz3, hO⟩, by rw [ht99]; exact hP, hD⟩, hS.F ht99⟩) hS.2.2 dX7_isPlace_31
  · refine lv_aload_n hx hb dX7_isPlace_8 rfl (lv_at hl 0 rfl) ?_
    refine p_get (v := .int (K.2.1 0 q0)) (C := RX7) (Tc := TX7) (N := 11) (ci := 13) hx hb hq pin_wsX70 hown hE hP hO (by rw [hT0]; decide) (rep_1 hT0) rfl 0 (by decide) (hq _ pw_767) (fun _ h9 => h9) rfl dX7_isPlace_9 ?_
    refine lv_bipush (v := 12) hx hb dX7_isPlace_12 (by decide) ?_
    refine lv_icmp_eq (tgt := 26) hx hb dX7_isPlace_14 (by decide) (fun c4 => ?_) (fun c4 => ?_)
    · refine lv_iconst (v := 1) hx hb dX7_isPlace_26 (by decide) ?_
      refine lv_goto (tgt := 31) hx hb dX7_isPlace_27 (by decide) ?_
      have hz5 : 1 ≤ 1 := (by omega)
      have hz6 : If (1 = 1) (K.2.1 0 q0 = 5 ∨ K.2.1 0 q0 = 12 ∨ K.2.1 0 q0 = 14) := (fun _ => (Or.inr (Or.inl c4)))
      have hO : OKP G h0 a F R Z B J K w := hO.to rfl
      exact W.zret (v := 1) hx hb hr rfl (fun t99 ht99 hW99 => ⟨⟨_, (w, 1), rfl, ⟨rfl, hz5, hz6, hO⟩, by rw [ht99]; exact hP, hD⟩, hS.F ht99⟩) hS.2.2 dX7_isPlace_31
    · refine lv_aload_n hx hb dX7_isPlace_17 rfl (lv_at hl 0 rfl) ?_
      refine p_get (v := .int (K.2.1 0 q0)) (C := RX7) (Tc := TX7) (N := 11) (ci := 13) hx hb hq pin_wsX70 hown hE hP hO (by rw [hT0]; decide) (rep_1 hT0) rfl 0 (by decide) (hq _ pw_767) (fun _ h9 => h9) rfl dX7_isPlace_18 ?_
      refine lv_bipush (v := 14) hx hb dX7_isPlace_21 (by decide) ?_
      refine lv_icmp_ne (tgt := 30) hx hb dX7_isPlace_23 (by decide) (fun c7 => ?_) (fun c7 => ?_)
      · refine lv_iconst (v := 0) hx hb dX7_isPlace_30 (by decide) ?_
        have hz8 : 0 ≤ 1 := (by omega)
        have hz9 : If (0 = 1) (K.2.1 0 q0 = 5 ∨ K.2.1 0 q0 = 12 ∨ K.2.1 0 q0 = 14) := (fun h => absurd h (by decide))
        have hO : OKP G h0 a F R Z B J K w := hO.to rfl
        exact W.zret (v := 0) hx hb hr rfl (fun t99 ht99 hW99 => ⟨⟨_, (w, 0), rfl, ⟨rfl, hz8, hz9, hO⟩, by rw [ht99]; exact hP, hD⟩, hS.F ht99⟩) hS.2.2 dX7_isPlace_31
      · refine lv_iconst (v := 1) hx hb dX7_isPlace_26 (by decide) ?_
        refine lv_goto (tgt := 31) hx hb dX7_isPlace_27 (by decide) ?_
        have hz10 : 1 ≤ 1 := (by omega)
        have hz11 : If (1 = 1) (K.2.1 0 q0 = 5 ∨ K.2.1 0 q0 = 12 ∨ K.2.1 0 q0 = 14) := (fun _ => (Or.inr (Or.inr c7)))
        have hO : OKP G h0 a F R Z B J K w := hO.to rfl
        exact W.zret (v := 1) hx hb hr rfl (fun t99 ht99 hW99 => ⟨⟨_, (w, 1), rfl, ⟨rfl, hz10, hz11, hO⟩, by rw [ht99]; exact hP, hD⟩, hS.F ht99⟩) hS.2.2 dX7_isPlace_31
theorem dX7_isCall_0 : decode cX7_isCall 0 = .ok (.aload_n 0, 1) := by decide +kernel
theorem dX7_isCall_1 : decode cX7_isCall 1 = .ok (.getfield 7, 3) := by decide +kernel
theorem dX7_isCall_4 : decode cX7_isCall 4 = .ok (.bipush 10, 2) := by decide +kernel
theorem dX7_isCall_6 : decode cX7_isCall 6 = .ok (.if_icmp .eq 12, 3) := by decide +kernel
theorem dX7_isCall_18 : decode cX7_isCall 18 = .ok (.iconst 1, 1) := by decide +kernel
theorem dX7_isCall_19 : decode cX7_isCall 19 = .ok (.goto 4, 3) := by decide +kernel
theorem dX7_isCall_23 : decode cX7_isCall 23 = .ok (.ireturn, 1) := by decide +kernel
theorem dX7_isCall_9 : decode cX7_isCall 9 = .ok (.aload_n 0, 1) := by decide +kernel
theorem dX7_isCall_10 : decode cX7_isCall 10 = .ok (.getfield 7, 3) := by decide +kernel
theorem dX7_isCall_13 : decode cX7_isCall 13 = .ok (.bipush 11, 2) := by decide +kernel
theorem dX7_isCall_15 : decode cX7_isCall 15 = .ok (.if_icmp .ne 7, 3) := by decide +kernel
theorem dX7_isCall_22 : decode cX7_isCall 22 = .ok (.iconst 0, 1) := by decide +kernel
set_option maxHeartbeats 2000000 in
set_option maxRecDepth 100000 in
theorem N_isCall (l : Launch) (G : pT) (h0 : Nat) (a : Nat → Nat) (F : Nat → Int32) (R : Nat → Value) (Z : Int64) (B : Nat → Nat → Int32) (J : Nat → Nat → Int64) (K : PK) (w : va_W) (q0 : Nat) (hT0 : K.1 q0 = 1) (hO : OKP G h0 a F R Z B J K w) : PM l G pX0 yX7_isCall cX7_isCall 1 (some .boolean) ({ frames := 2, cells := 0, slots := 0, locals := 60 }) [.ref q0] w (fun (v : Option Value) (u : va_W × (Nat)) => v = some (.int (nI u.2)) ∧ (u.2 ≤ 1) ∧ (If (u.2 = 1) (K.2.1 0 q0 = 10 ∨ K.2.1 0 q0 = 11)) ∧ (OKP G h0 a F R Z B J K u.1)) (fun u => u.1) := by
  intro sz
  refine Met.ofW (cc := cX7_isCall) (maxL := 1) (ret := (some .boolean)) (by decide) rfl ?_
  intro p e s m args below meth c s₁ B9 hml hv
  obtain ⟨rfl, hsz, hP, hD0, hE, hX⟩ := hv
  have hx := B9.exec
  have hb := B9.bytes
  have hr := B9.returns
  have hts := atoms_spec (ws := Cond.code yX7_isCall cX7_isCall 1 (some .boolean) :: pw) B9.pre
  have hq : ∀ w ∈ pw, w.before _ s = true := fun w h => hts w (List.mem_cons_of_mem _ h)
  have hown : s.vm.findClass RX7 = some m.cls := findClass_of_methodNamed B9.named
  have hlocks := B9.notSynchronized
  subst hsz
  have hD := hD0.self (sz := s.heap.size)
  have hA : ∀ q : Nat, s.heap.size ≤ q → va_A w s.heap.size q := fun q h => Or.inr h
  generalize va_A w s.heap.size = A at hD hE hA ⊢
  have hS : va_S A s.heap s.heap [] := va_S.rf
  have hl := lv_entry ([.ref q0]) (n := 1) (Nat.le_of_ble_eq_true rfl)
  rw [lg_entry_eq]
  generalize (lg_sl ([.ref q0]) ++ List.replicate (1 - (lg_sl ([.ref q0])).length) Slot.unset).toArray = ls at hl ⊢
  have hl : lv_has ls 1 [(0, .ref q0)] := hl
  refine lv_aload_n hx hb dX7_isCall_0 rfl (lv_at hl 0 rfl) ?_
  refine p_get (v := .int (K.2.1 0 q0)) (C := RX7) (Tc := TX7) (N := 11) (ci := 13) hx hb hq pin_wsX70 hown hE hP hO (by rw [hT0]; decide) (rep_1 hT0) rfl 0 (by decide) (hq _ pw_767) (fun _ h9 => h9) rfl dX7_isCall_1 ?_
  refine lv_bipush (v := 10) hx hb dX7_isCall_4 (by decide) ?_
  refine lv_icmp_eq (tgt := 18) hx hb dX7_isCall_6 (by decide) (fun c1 => ?_) (fun c1 => ?_)
  · refine lv_iconst (v := 1) hx hb dX7_isCall_18 (by decide) ?_
    refine lv_goto (tgt := 23) hx hb dX7_isCall_19 (by decide) ?_
    have hz2 : 1 ≤ 1 := (by omega)
    have hz3 : If (1 = 1) (K.2.1 0 q0 = 10 ∨ K.2.1 0 q0 = 11) := (fun _ => (Or.inl c1))
    have hO : OKP G h0 a F R Z B J K w := hO.to rfl
    exact W.zret (v := 1) hx hb hr rfl (fun t99 ht99 hW99 => ⟨⟨_, (w, 1), rfl, ⟨rfl, hz2, hz3, hO⟩, by rw [ht99]; exact hP, hD⟩, hS.F ht99⟩) hS.2.2 dX7_isCall_23
  · refine lv_aload_n hx hb dX7_isCall_9 rfl (lv_at hl 0 rfl) ?_
    refine p_get (v := .int (K.2.1 0 q0)) (C := RX7) (Tc := TX7) (N := 11) (ci := 13) hx hb hq pin_wsX70 hown hE hP hO (by rw [hT0]; decide) (rep_1 hT0) rfl 0 (by decide) (hq _ pw_767) (fun _ h9 => h9) rfl dX7_isCall_10 ?_
    refine lv_bipush (v := 11) hx hb dX7_isCall_13 (by decide) ?_
    refine lv_icmp_ne (tgt := 22) hx hb dX7_isCall_15 (by decide) (fun c4 => ?_) (fun c4 => ?_)
    · refine lv_iconst (v := 0) hx hb dX7_isCall_22 (by decide) ?_
      have hz5 : 0 ≤ 1 := (by omega)
      have hz6 : If (0 = 1) (K.2.1 0 q0 = 10 ∨ K.2.1 0 q0 = 11) := (fun h => absurd h (by decide))
      have hO : OKP G h0 a F R Z B J K w := hO.to rfl
      exact W.zret (v := 0) hx hb hr rfl (fun t99 ht99 hW99 => ⟨⟨_, (w, 0), rfl, ⟨rfl, hz5, hz6, hO⟩, by rw [ht99]; exact hP, hD⟩, hS.F ht99⟩) hS.2.2 dX7_isCall_23
    · refine lv_iconst (v := 1) hx hb dX7_isCall_18 (by decide) ?_
      refine lv_goto (tgt := 23) hx hb dX7_isCall_19 (by decide) ?_
      have hz7 : 1 ≤ 1 := (by omega)
      have hz8 : If (1 = 1) (K.2.1 0 q0 = 10 ∨ K.2.1 0 q0 = 11) := (fun _ => (Or.inr c4))
      have hO : OKP G h0 a F R Z B J K w := hO.to rfl
      exact W.zret (v := 1) hx hb hr rfl (fun t99 ht99 hW99 => ⟨⟨_, (w, 1), rfl, ⟨rfl, hz7, hz8, hO⟩, by rw [ht99]; exact hP, hD⟩, hS.F ht99⟩) hS.2.2 dX7_isCall_23
