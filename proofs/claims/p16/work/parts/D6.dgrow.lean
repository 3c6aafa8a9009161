theorem dJx4a65c_grow_92f84_0 : decode cJx4a65c_grow_92f84 0 = .ok (.aload_n 0, 1) := by decide +kernel
theorem dJx4a65c_grow_92f84_1 : decode cJx4a65c_grow_92f84 1 = .ok (.getfield 9, 3) := by decide +kernel
theorem dJx4a65c_grow_92f84_4 : decode cJx4a65c_grow_92f84 4 = .ok (.arraylength, 1) := by decide +kernel
theorem dJx4a65c_grow_92f84_5 : decode cJx4a65c_grow_92f84 5 = .ok (.istore_n 2, 1) := by decide +kernel
theorem dJx4a65c_grow_92f84_6 : decode cJx4a65c_grow_92f84 6 = .ok (.iload_n 2, 1) := by decide +kernel
theorem dJx4a65c_grow_92f84_7 : decode cJx4a65c_grow_92f84 7 = .ok (.ifCond .gt 13, 3) := by decide +kernel
theorem dJx4a65c_grow_92f84_10 : decode cJx4a65c_grow_92f84 10 = .ok (.aload_n 0, 1) := by decide +kernel
theorem dJx4a65c_grow_92f84_11 : decode cJx4a65c_grow_92f84 11 = .ok (.getfield 9, 3) := by decide +kernel
theorem dJx4a65c_grow_92f84_14 : decode cJx4a65c_grow_92f84 14 = .ok (.getstatic 39, 3) := by decide +kernel
theorem dJx4a65c_grow_92f84_17 : decode cJx4a65c_grow_92f84 17 = .ok (.if_acmp .eq 28, 3) := by decide +kernel
theorem dJx4a65c_grow_92f84_45 : decode cJx4a65c_grow_92f84 45 = .ok (.aload_n 0, 1) := by decide +kernel
theorem dJx4a65c_grow_92f84_46 : decode cJx4a65c_grow_92f84 46 = .ok (.bipush 10, 2) := by decide +kernel
theorem dJx4a65c_grow_92f84_48 : decode cJx4a65c_grow_92f84 48 = .ok (.iload_n 1, 1) := by decide +kernel
theorem dJx4a65c_grow_92f84_49 : decode cJx4a65c_grow_92f84 49 = .ok (.invokestatic 79, 3) := by decide +kernel
theorem dJx4a65c_grow_92f84_52 : decode cJx4a65c_grow_92f84 52 = .ok (.anewarray 7, 3) := by decide +kernel
theorem dJx4a65c_grow_92f84_55 : decode cJx4a65c_grow_92f84 55 = .ok (.dup_x1, 1) := by decide +kernel
theorem dJx4a65c_grow_92f84_56 : decode cJx4a65c_grow_92f84 56 = .ok (.putfield 9, 3) := by decide +kernel
theorem dJx4a65c_grow_92f84_59 : decode cJx4a65c_grow_92f84 59 = .ok (.areturn, 1) := by decide +kernel
set_option maxHeartbeats 6000000 in
set_option maxRecDepth 100000 in
theorem L_growE (l : Launch) (G : pT) (h0 : Nat) (a : Nat → Nat) (F : Nat → Int32) (R : Nat → Value) (Z : Int64) (B : Nat → Nat → Int32) (J : Nat → Nat → Int64) (K : PK) (w : va_W) (q0 : Nat) (es : Nat) (n : Nat) (it : Nat → Nat) (mc : Nat) (hls : LsI G K q0 es n it) (hmc : mc = n + 1) (hes : es = 1 ∨ es = 3) (hem : K.2.2.1 13 q0 = some G.2.2.2.2) (hn9 : n = 0) (hO : OKP G h0 a F R Z B J K w) : PM l G pX0 yJx4a65c_grow_92f84 cJx4a65c_grow_92f84 4 (some (.array (.object "java/lang/Object"))) ({ frames := 2, cells := 1, slots := 10, locals := 60 }) [.ref q0, .int (nI mc)] w (fun (v : Option Value) (u : va_W × (Nat × PK)) => v = some (.ref u.2.1) ∧ (LsI G u.2.2 q0 es n it) ∧ (GrQ K u.2.2 q0 u.2.1 n 10) ∧ (N6 K u.2.2) ∧ (OKP G h0 a F R Z B J u.2.2 u.1)) (fun u => u.1) := by
  intro sz
  refine Met.ofW (cc := cJx4a65c_grow_92f84) (maxL := 4) (ret := (some (.array (.object "java/lang/Object")))) (by decide) rfl ?_
  intro p e s m args below meth c s₁ B9 hml hv
  obtain ⟨rfl, hsz, hP, hD0, hE, hX⟩ := hv
  have hx := B9.exec
  have hb := B9.bytes
  have hr := B9.returns
  have hts := atoms_spec (ws := Cond.code yJx4a65c_grow_92f84 cJx4a65c_grow_92f84 4 (some (.array (.object "java/lang/Object"))) :: pw) B9.pre
  have hq : ∀ w ∈ pw, w.before _ s = true := fun w h => hts w (List.mem_cons_of_mem _ h)
  have hown : s.vm.findClass RJx4a65c = some m.cls := findClass_of_methodNamed B9.named
  have hlocks := B9.notSynchronized
  subst hsz
  have hD := hD0.self (sz := s.heap.size)
  have hA : ∀ q : Nat, s.heap.size ≤ q → va_A w s.heap.size q := fun q h => Or.inr h
  generalize va_A w s.heap.size = A at hD hE hA ⊢
  have hS : va_S A s.heap s.heap [] := va_S.rf
  have hl := lv_entry ([.ref q0, .int (nI mc)]) (n := 4) (Nat.le_of_ble_eq_true rfl)
  rw [lg_entry_eq]
  generalize (lg_sl ([.ref q0, .int (nI mc)]) ++ List.replicate (4 - (lg_sl ([.ref q0, .int (nI mc)])).length) Slot.unset).toArray = ls at hl ⊢
  have hl : lv_has ls 4 [(0, .ref q0), (1, .int (nI mc))] := hl
  have hT0 := hls.1
  have hsz0 := hls.2.1
  have hn0 := hls.2.2.1
  have hes0 : ¬ es = 0 := by omega
  refine lv_aload_n hx hb dJx4a65c_grow_92f84_0 rfl (lv_at hl 0 rfl) ?_
  refine p_get (v := .ref G.2.2.2.2) (C := RJx4a65c) (Tc := TJx4a65c) (N := 3) (ci := 10) hx hb hq pin_wsJx4a65c0 hown hE hP hO (by rw [hT0]; decide) (rep_5 hT0) rfl 1 (by decide) (hq _ pw_24) (fun _ h9 => h9) (congrArg (fun z => some (va_rf z)) hem) dJx4a65c_grow_92f84_1 ?_
  refine va_tlen (v := 0) hx hb hE.2.2.2.2.2.2.2.2.2.1 hS rfl dJx4a65c_grow_92f84_4 ?_
  refine lv_istore_n (lv' := [(2, .int 0), (0, .ref q0), (1, .int (nI mc))]) hx hb dJx4a65c_grow_92f84_5 rfl hl (by decide) rfl (fun ls hl => ?_)
  refine lv_iload_n hx hb dJx4a65c_grow_92f84_6 rfl (lv_at hl 0 rfl) ?_
  refine lv_if_gt (tgt := 20) hx hb dJx4a65c_grow_92f84_7 (by decide) (fun c1 => absurd c1 (by decide)) (fun c1 => ?_)
  refine lv_aload_n hx hb dJx4a65c_grow_92f84_10 rfl (lv_at hl 1 rfl) ?_
  refine p_get (v := .ref G.2.2.2.2) (C := RJx4a65c) (Tc := TJx4a65c) (N := 3) (ci := 10) hx hb hq pin_wsJx4a65c0 hown hE hP hO (by rw [hT0]; decide) (rep_5 hT0) rfl 1 (by decide) (hq _ pw_24) (fun _ h9 => h9) (congrArg (fun z => some (va_rf z)) hem) dJx4a65c_grow_92f84_11 ?_
  refine va_gets hx hb hE.2.2.2.2.2.1 hS hown (hq _ pw_395) (fun _ h9 => h9) dJx4a65c_grow_92f84_14 ?_
  refine lv_acmp_eq (rx := (some G.2.2.2.2)) (ry := (some G.2.2.2.2)) (tgt := 45) hx hb dJx4a65c_grow_92f84_17 (by decide) (fun c2 => ?_) (fun c2 => (absurd rfl c2))
  refine lv_aload_n hx hb dJx4a65c_grow_92f84_45 rfl (lv_at hl 1 rfl) ?_
  refine lv_bipush (v := 10) hx hb dJx4a65c_grow_92f84_46 (by decide) ?_
  refine lv_iload_n hx hb dJx4a65c_grow_92f84_48 rfl (lv_at hl 2 rfl) ?_
  refine va_mmax (own := RJx4a65c) hx hb (by rw [hml]; exact hl.1.symm) hown (hq _ pw_848) (hq _ pw_51) (hq _ pw_52) (hq _ pw_53) (Nat.le_of_ble_eq_true rfl) (Nat.le_of_ble_eq_true rfl) (Nat.le_of_ble_eq_true rfl) (Nat.le_of_ble_eq_true rfl) dJx4a65c_grow_92f84_49 ?_
  refine lv_topi (fun x3 e4 => ?_)
  obtain rfl : x3 = 10 := e4.trans (by rw [hmc, hn9]; decide)
  refine p_newq (N' := 10) hx hb hown (hq _ pw_849) hE hP hD hS hA hO (nI_pos (show 10 < 2 ^ 31 by omega)) (nI_clamp (show 10 < 2 ^ 31 by omega)) (show 10 * 4 ≤ 536870912 by omega) (by show 0 + 1 ≤ 1; omega) (by show 0 + 10 ≤ 10; omega) dJx4a65c_grow_92f84_52 (fun q5 H w hq6 hP hD hS hO => ?_)
  have hf7 : (kN K q5 6 10).1 q0 = 5 := (if_neg (fun z => by have z2 := hT0; rw [z, hq6] at z2; exact absurd z2 (by decide))).trans hT0
  have hf8 : (kN K q5 6 10).2.1 23 q0 = (nI n) := (if_neg (fun z => by have z2 := hT0; rw [z, hq6] at z2; exact absurd z2 (by decide))).trans hsz0
  have hf9 : (kN K q5 6 10).2.2.1 13 q0 = some G.2.2.2.2 := (if_neg (fun z => by have z2 := hT0; rw [z, hq6] at z2; exact absurd z2 (by decide))).trans hem
  refine W.widen (k := 1) (n := 10) (by show 0 + 1 ≤ 1; omega) (by show 0 + 10 ≤ 10; omega) ?_
  refine lv_dup_x1 hx hb dJx4a65c_grow_92f84_55 rfl rfl ?_
  refine p_put (v := .ref q5) (ty := (.array (.object "java/lang/Object"))) (C := RJx4a65c) (Tc := TJx4a65c) (N := 3) (ci := 10) (K' := (kC (kN K q5 6 10) 13 q0 (some q5))) hx hb hq pin_wsJx4a65c0 tyJx4a65c tyJx4a65c_ok nmJx4a65c hown hE hP hD hS hO (by rw [hf7]; decide) (rep_5 hf7) rfl 1 (by decide) (hq _ pw_24) (fun _ h9 => h9) rfl (by decide +kernel) rfl rfl (Nat.le_of_ble_eq_true rfl) rfl (by rw [rep_5 (show (kC (kN K q5 6 10) 13 q0 (some q5)).1 q0 = 5 from hf7), pc_13] <;> rfl) (fun p9 hp9 => rep_kC hp9) dJx4a65c_grow_92f84_56 (fun H locs w hP hD hS hO => ?_)
  obtain ⟨K10, hK11⟩ : ∃ z : PK, z = (kC (kN K q5 6 10) 13 q0 (some q5)) := ⟨_, rfl⟩
  rw [← hK11] at hO
  have hf12 : K10.1 q0 = 5 := (by rw [hK11]; exact hf7)
  have hf13 : K10.2.1 23 q0 = (nI n) := (by rw [hK11]; exact hf8)
  have hf14 : K10.2.2.1 13 q0 = some q5 := by rw [hK11]; exact kC_eq
  have hO := hO.own (f := q5) (v := some q0)
  have hgr := grow_ok (K2 := kN K q5 6 10) hls (m9 := 10) (by omega) (by omega) hq6 (if_pos rfl) (if_pos rfl) (kN_ext hq6) (fun i hi => absurd hi (by omega)) (fun i hi => absurd hi (by omega)) hes0
  rw [← hK11] at hgr
  have hz15 : LsI G (kC K10 17 q5 (some q0)) q0 es n it := hgr.1
  have hz16 : GrQ K (kC K10 17 q5 (some q0)) q0 q5 n 10 := hgr.2
  have hz17 : N6 K (kC K10 17 q5 (some q0)) := (by rw [hK11]; exact fun p hp => (by by_cases z : p = q5; (· exact Or.inr (if_pos z)); (· exact Or.inl ((if_neg z).trans hp))))
  have hO : OKP G h0 a F R Z B J (kC K10 17 q5 (some q0)) w := hO.to rfl
  refine W.widen (k := 1) (n := 10) (by omega) (by omega) ?_
  exact W.aret (v := .ref q5) hx hb hr (Or.inr ⟨_, rfl⟩) (Or.inr ⟨_, rfl⟩) (fun t99 ht99 hW99 => ⟨⟨_, (w, (q5, (kC K10 17 q5 (some q0)))), rfl, ⟨rfl, hz15, hz16, hz17, hO⟩, by rw [ht99]; exact hP, hD⟩, hS.F ht99⟩) hS.2.2 dJx4a65c_grow_92f84_59
theorem dJx4a65c_grow_92f84_20 : decode cJx4a65c_grow_92f84 20 = .ok (.iload_n 2, 1) := by decide +kernel
theorem dJx4a65c_grow_92f84_21 : decode cJx4a65c_grow_92f84 21 = .ok (.iload_n 1, 1) := by decide +kernel
theorem dJx4a65c_grow_92f84_22 : decode cJx4a65c_grow_92f84 22 = .ok (.iload_n 2, 1) := by decide +kernel
theorem dJx4a65c_grow_92f84_23 : decode cJx4a65c_grow_92f84 23 = .ok (.isub, 1) := by decide +kernel
theorem dJx4a65c_grow_92f84_24 : decode cJx4a65c_grow_92f84 24 = .ok (.iload_n 2, 1) := by decide +kernel
theorem dJx4a65c_grow_92f84_25 : decode cJx4a65c_grow_92f84 25 = .ok (.iconst 1, 1) := by decide +kernel
theorem dJx4a65c_grow_92f84_26 : decode cJx4a65c_grow_92f84 26 = .ok (.ishr, 1) := by decide +kernel
theorem dJx4a65c_grow_92f84_27 : decode cJx4a65c_grow_92f84 27 = .ok (.invokestatic 73, 3) := by decide +kernel
theorem dJx4a65c_grow_92f84_30 : decode cJx4a65c_grow_92f84 30 = .ok (.istore_n 3, 1) := by decide +kernel
theorem dJx4a65c_grow_92f84_31 : decode cJx4a65c_grow_92f84 31 = .ok (.aload_n 0, 1) := by decide +kernel
theorem dJx4a65c_grow_92f84_32 : decode cJx4a65c_grow_92f84 32 = .ok (.aload_n 0, 1) := by decide +kernel
theorem dJx4a65c_grow_92f84_33 : decode cJx4a65c_grow_92f84 33 = .ok (.getfield 9, 3) := by decide +kernel
theorem dJx4a65c_grow_92f84_36 : decode cJx4a65c_grow_92f84 36 = .ok (.iload_n 3, 1) := by decide +kernel
theorem dJx4a65c_grow_92f84_37 : decode cJx4a65c_grow_92f84 37 = .ok (.invokestatic 66, 3) := by decide +kernel
theorem dJx4a65c_grow_92f84_40 : decode cJx4a65c_grow_92f84 40 = .ok (.dup_x1, 1) := by decide +kernel
theorem dJx4a65c_grow_92f84_41 : decode cJx4a65c_grow_92f84 41 = .ok (.putfield 9, 3) := by decide +kernel
theorem dJx4a65c_grow_92f84_44 : decode cJx4a65c_grow_92f84 44 = .ok (.areturn, 1) := by decide +kernel
theorem hS_J8_newLength_cabcc : yJ8_newLength_cabcc.cls ≠ "java/lang/invoke/MethodHandle" ∧ yJ8_newLength_cabcc.cls ≠ "java/lang/invoke/VarHandle" ∧ (parseMethodDescriptor yJ8_newLength_cabcc.desc).map (fun d => d.parameters.length) = some 3 := by decide +kernel
theorem hS_J7_copyOf_1904c : yJ7_copyOf_1904c.cls ≠ "java/lang/invoke/MethodHandle" ∧ yJ7_copyOf_1904c.cls ≠ "java/lang/invoke/VarHandle" ∧ (parseMethodDescriptor yJ7_copyOf_1904c.desc).map (fun d => d.parameters.length) = some 2 := by decide +kernel
set_option maxHeartbeats 6000000 in
set_option maxRecDepth 100000 in
theorem L_growF (l : Launch) (G : pT) (h0 : Nat) (a : Nat → Nat) (F : Nat → Int32) (R : Nat → Value) (Z : Int64) (B : Nat → Nat → Int32) (J : Nat → Nat → Int64) (K : PK) (w : va_W) (q0 : Nat) (es : Nat) (n : Nat) (it : Nat → Nat) (mc : Nat) (e9 : Nat) (hls : LsI G K q0 es n it) (hmc : mc = n + 1) (hes : es = 1 ∨ es = 3) (hem : K.2.2.1 13 q0 = some e9) (hn9 : n = K.2.2.2.2.2 e9) (hnz : 1 ≤ n) (hO : OKP G h0 a F R Z B J K w) : PM l G pX0 yJx4a65c_grow_92f84 cJx4a65c_grow_92f84 4 (some (.array (.object "java/lang/Object"))) ({ frames := 4, cells := 1, slots := (n + n / 2), locals := 104 }) [.ref q0, .int (nI mc)] w (fun (v : Option Value) (u : va_W × (Nat × PK)) => v = some (.ref u.2.1) ∧ (LsI G u.2.2 q0 es n it) ∧ (GrQ K u.2.2 q0 u.2.1 n (n + n / 2)) ∧ (N6 K u.2.2) ∧ (OKP G h0 a F R Z B J u.2.2 u.1)) (fun u => u.1) := by
  intro sz
  refine Met.ofW (cc := cJx4a65c_grow_92f84) (maxL := 4) (ret := (some (.array (.object "java/lang/Object")))) (by decide) rfl ?_
  intro p e s m args below meth c s₁ B9 hml hv
  obtain ⟨rfl, hsz, hP, hD0, hE, hX⟩ := hv
  have hx := B9.exec
  have hb := B9.bytes
  have hr := B9.returns
  have hts := atoms_spec (ws := Cond.code yJx4a65c_grow_92f84 cJx4a65c_grow_92f84 4 (some (.array (.object "java/lang/Object"))) :: pw) B9.pre
  have hq : ∀ w ∈ pw, w.before _ s = true := fun w h => hts w (List.mem_cons_of_mem _ h)
  have hown : s.vm.findClass RJx4a65c = some m.cls := findClass_of_methodNamed B9.named
  have hlocks := B9.notSynchronized
  subst hsz
  have hD := hD0.self (sz := s.heap.size)
  have hA : ∀ q : Nat, s.heap.size ≤ q → va_A w s.heap.size q := fun q h => Or.inr h
  generalize va_A w s.heap.size = A at hD hE hA ⊢
  have hS : va_S A s.heap s.heap [] := va_S.rf
  have hl := lv_entry ([.ref q0, .int (nI mc)]) (n := 4) (Nat.le_of_ble_eq_true rfl)
  rw [lg_entry_eq]
  generalize (lg_sl ([.ref q0, .int (nI mc)]) ++ List.replicate (4 - (lg_sl ([.ref q0, .int (nI mc)])).length) Slot.unset).toArray = ls at hl ⊢
  have hl : lv_has ls 4 [(0, .ref q0), (1, .int (nI mc))] := hl
  have hT0 := hls.1
  have hsz0 := hls.2.1
  have hn0 := hls.2.2.1
  have hes0 : ¬ es = 0 := by omega
  obtain ⟨hf1, hf2, hf3, hf4, hf5, hf6⟩ := hls.full hem (by omega)
  refine lv_aload_n hx hb dJx4a65c_grow_92f84_0 rfl (lv_at hl 0 rfl) ?_
  refine p_get (v := .ref e9) (C := RJx4a65c) (Tc := TJx4a65c) (N := 3) (ci := 10) hx hb hq pin_wsJx4a65c0 hown hE hP hO (by rw [hT0]; decide) (rep_5 hT0) rfl 1 (by decide) (hq _ pw_24) (fun _ h9 => h9) (congrArg (fun z => some (va_rf z)) hem) dJx4a65c_grow_92f84_1 ?_
  refine p_alen hx hb hE hP hO hf1 dJx4a65c_grow_92f84_4 ?_
  refine W.eq (g2 := F0 m 5 ls [.int (nI (K.2.2.2.2.2 e9))]) rfl ?_
  refine lv_istore_n (lv' := [(2, .int (nI (K.2.2.2.2.2 e9))), (0, .ref q0), (1, .int (nI mc))]) hx hb dJx4a65c_grow_92f84_5 rfl hl (by decide) rfl (fun ls hl => ?_)
  refine lv_iload_n hx hb dJx4a65c_grow_92f84_6 rfl (lv_at hl 0 rfl) ?_
  refine lv_if_gt (tgt := 20) hx hb dJx4a65c_grow_92f84_7 (by decide) (fun c1 => ?_) (fun c1 => (by have n2 : ¬ (0 < (K.2.2.2.2.2 e9)) := fun h9 => c1 ((nI_ltI (a := 0) (b := (K.2.2.2.2.2 e9)) (by omega) (by omega)).mpr h9); omega))
  refine lv_iload_n hx hb dJx4a65c_grow_92f84_20 rfl (lv_at hl 0 rfl) ?_
  refine lv_iload_n hx hb dJx4a65c_grow_92f84_21 rfl (lv_at hl 2 rfl) ?_
  refine lv_iload_n hx hb dJx4a65c_grow_92f84_22 rfl (lv_at hl 0 rfl) ?_
  refine lv_isub hx hb dJx4a65c_grow_92f84_23 ?_
  refine lv_topi (fun x3 e4 => ?_)
  obtain rfl : x3 = nI (mc - (K.2.2.2.2.2 e9)) := e4.trans (nI_subN (a := (K.2.2.2.2.2 e9)) (b := mc) (by omega))
  refine lv_iload_n hx hb dJx4a65c_grow_92f84_24 rfl (lv_at hl 0 rfl) ?_
  refine lv_iconst (v := 1) hx hb dJx4a65c_grow_92f84_25 (by decide) ?_
  refine lv_ishr hx hb dJx4a65c_grow_92f84_26 ?_
  refine lv_topi (fun x5 e6 => ?_)
  obtain rfl : x5 = nI ((K.2.2.2.2.2 e9) / 2) := e6.trans (shr1 (by omega))
  refine pc_SN (G := G) (As := [.int (nI (K.2.2.2.2.2 e9)), .int (nI (mc - (K.2.2.2.2.2 e9))), .int (nI ((K.2.2.2.2.2 e9) / 2))]) (rest := []) hx hb hml hown hq hE hX pX0_al hP hS hA hl.1 (s_newLen l G (K.2.2.2.2.2 e9) (mc - (K.2.2.2.2.2 e9)) ((K.2.2.2.2.2 e9) / 2) (by omega)) (gS pw_850 pw_851 pw_835 pw_831) hS_J8_newLength_cabcc rfl (Nat.le_of_ble_eq_true rfl) dJx4a65c_grow_92f84_27 ⟨Nat.le_of_ble_eq_true rfl, Nat.le_of_ble_eq_true rfl⟩ ⟨Nat.le_of_ble_eq_true rfl, Nat.le_of_ble_eq_true rfl⟩ (fun v9 u7 H locs hw8 hP hS => ?_)
  obtain rfl : v9 = some (.int (nI ((K.2.2.2.2.2 e9) + ((K.2.2.2.2.2 e9) / 2)))) := hw8
  refine W.widen (k := 0) (n := 0) (Nat.le_of_ble_eq_true rfl) (Nat.le_of_ble_eq_true rfl) ?_
  refine W.eq (g2 := F0 m 30 ls [.int (nI ((K.2.2.2.2.2 e9) + ((K.2.2.2.2.2 e9) / 2)))]) rfl ?_
  refine lv_istore_n (lv' := [(3, .int (nI ((K.2.2.2.2.2 e9) + ((K.2.2.2.2.2 e9) / 2)))), (2, .int (nI (K.2.2.2.2.2 e9))), (0, .ref q0), (1, .int (nI mc))]) hx hb dJx4a65c_grow_92f84_30 rfl hl (by decide) rfl (fun ls hl => ?_)
  refine lv_aload_n hx hb dJx4a65c_grow_92f84_31 rfl (lv_at hl 2 rfl) ?_
  refine lv_aload_n hx hb dJx4a65c_grow_92f84_32 rfl (lv_at hl 2 rfl) ?_
  refine p_get (v := .ref e9) (C := RJx4a65c) (Tc := TJx4a65c) (N := 3) (ci := 10) hx hb hq pin_wsJx4a65c0 hown hE hP hO (by rw [hT0]; decide) (rep_5 hT0) rfl 1 (by decide) (hq _ pw_24) (fun _ h9 => h9) (congrArg (fun z => some (va_rf z)) hem) dJx4a65c_grow_92f84_33 ?_
  refine lv_iload_n hx hb dJx4a65c_grow_92f84_36 rfl (lv_at hl 0 rfl) ?_
  refine lv_topi (fun x10 e11 => ?_)
  obtain rfl : x10 = nI (n + n / 2) := e11.trans (congrArg nI (by omega))
  have hO : OKP G h0 a F R Z B J K w := hO.to rfl
  refine pc_S0 (G := G) (As := [.ref e9, .int (nI (n + n / 2))]) (rest := [.ref q0]) hx hb hml hown hq hE hX pX0_al hP hD hS hA hl.1 (L_copy1 l G h0 a F R Z B J K w e9 (n + n / 2) es hf1 (by omega) (by omega) (fun i y hi hy => by have z := hf6 i (by omega); rw [z.1] at hy; cases hy; exact z.2) hes hO) (gS pw_852 pw_853 pw_433 pw_841) hS_J7_copyOf_1904c rfl (Nat.le_of_ble_eq_true rfl) dJx4a65c_grow_92f84_37 ⟨(by show 0 + 1 ≤ 1; omega), (by show 0 + (n + n / 2) ≤ (n + n / 2); omega)⟩ ⟨Nat.le_of_ble_eq_true rfl, Nat.le_of_ble_eq_true rfl⟩ (fun v14 u12 H locs hw13 hP hD hS => ?_)
  obtain ⟨w, q15, K16⟩ := u12
  obtain ⟨hw13, h17, h18, h19, h20, hO⟩ := hw13
  have h17 : K.1 q15 = 0 ∧ K16.1 q15 = 6 ∧ K16.2.2.2.2.2 q15 = (n + n / 2) := h17
  have h18 : Ext K K16 := h18
  have h19 : ∀ i : Nat, i < K.2.2.2.2.2 e9 → K16.2.2.2.2.1 q15 i = K.2.2.2.2.1 e9 i := h19
  have h20 : N6 K K16 := h20
  obtain rfl : v14 = some (.ref q15) := hw13
  have hf21 : K16.1 q0 = 5 := ((h18 q0 (by rw [hT0]; decide)).1).trans hT0
  have hf22 : K16.2.1 23 q0 = (nI n) := ((h18 q0 (by rw [hT0]; decide)).2.1 23).trans hsz0
  have hf23 : K16.2.2.1 13 q0 = some e9 := ((h18 q0 (by rw [hT0]; decide)).2.2.1 13).trans hem
  have hf24 : K16.1 e9 = 6 := ((h18 e9 (by rw [hf1]; decide)).1).trans hf1
  have hO : OKP G h0 a F R Z B J K16 w := hO.to rfl
  refine W.widen (k := 1) (n := (n + n / 2)) (by show 0 + 1 ≤ 1; omega) (by show 0 + (n + n / 2) ≤ (n + n / 2); omega) ?_
  refine W.eq (g2 := F0 m 40 ls [.ref q15, .ref q0]) rfl ?_
  refine lv_dup_x1 hx hb dJx4a65c_grow_92f84_40 rfl rfl ?_
  refine p_put (v := .ref q15) (ty := (.array (.object "java/lang/Object"))) (C := RJx4a65c) (Tc := TJx4a65c) (N := 3) (ci := 10) (K' := (kC K16 13 q0 (some q15))) hx hb hq pin_wsJx4a65c0 tyJx4a65c tyJx4a65c_ok nmJx4a65c hown hE hP hD hS hO (by rw [hf21]; decide) (rep_5 hf21) rfl 1 (by decide) (hq _ pw_24) (fun _ h9 => h9) rfl (by decide +kernel) rfl rfl (Nat.le_of_ble_eq_true rfl) rfl (by rw [rep_5 (show (kC K16 13 q0 (some q15)).1 q0 = 5 from hf21), pc_13] <;> rfl) (fun p9 hp9 => rep_kC hp9) dJx4a65c_grow_92f84_41 (fun H locs w hP hD hS hO => ?_)
  obtain ⟨K25, hK26⟩ : ∃ z : PK, z = (kC K16 13 q0 (some q15)) := ⟨_, rfl⟩
  rw [← hK26] at hO
  have hf27 : K25.1 q0 = 5 := (by rw [hK26]; exact hf21)
  have hf28 : K25.2.1 23 q0 = (nI n) := (by rw [hK26]; exact hf22)
  have hf29 : K25.1 e9 = 6 := (by rw [hK26]; exact hf24)
  have hf30 : K25.2.2.1 13 q0 = some q15 := by rw [hK26]; exact kC_eq
  have hO := hO.own (f := q15) (v := some q0)
  have hgr := grow_ok (K2 := K16) hls (m9 := n + n / 2) (by omega) (by omega) h17.1 h17.2.1 h17.2.2 h18 (fun i hi => (h19 i (by omega)).trans (hf6 i hi).1) (fun i hi => (hf6 i hi).2) hes0
  rw [← hK26] at hgr
  have hz31 : LsI G (kC K25 17 q15 (some q0)) q0 es n it := hgr.1
  have hz32 : GrQ K (kC K25 17 q15 (some q0)) q0 q15 n (n + n / 2) := hgr.2
  have hz33 : N6 K (kC K25 17 q15 (some q0)) := (by rw [hK26]; exact h20)
  have hO : OKP G h0 a F R Z B J (kC K25 17 q15 (some q0)) w := hO.to rfl
  refine W.widen (k := 1) (n := (n + n / 2)) (by omega) (by omega) ?_
  exact W.aret (v := .ref q15) hx hb hr (Or.inr ⟨_, rfl⟩) (Or.inr ⟨_, rfl⟩) (fun t99 ht99 hW99 => ⟨⟨_, (w, (q15, (kC K25 17 q15 (some q0)))), rfl, ⟨rfl, hz31, hz32, hz33, hO⟩, by rw [ht99]; exact hP, hD⟩, hS.F ht99⟩) hS.2.2 dJx4a65c_grow_92f84_44
theorem dJx4a65c_grow_d5877_0 : decode cJx4a65c_grow_d5877 0 = .ok (.aload_n 0, 1) := by decide +kernel
theorem dJx4a65c_grow_d5877_1 : decode cJx4a65c_grow_d5877 1 = .ok (.aload_n 0, 1) := by decide +kernel
theorem dJx4a65c_grow_d5877_2 : decode cJx4a65c_grow_d5877 2 = .ok (.getfield 48, 3) := by decide +kernel
theorem dJx4a65c_grow_d5877_5 : decode cJx4a65c_grow_d5877 5 = .ok (.iconst 1, 1) := by decide +kernel
theorem dJx4a65c_grow_d5877_6 : decode cJx4a65c_grow_d5877 6 = .ok (.iadd, 1) := by decide +kernel
theorem dJx4a65c_grow_d5877_7 : decode cJx4a65c_grow_d5877 7 = .ok (.invokevirtual 69, 3) := by decide +kernel
theorem dJx4a65c_grow_d5877_10 : decode cJx4a65c_grow_d5877 10 = .ok (.areturn, 1) := by decide +kernel
theorem hV_Jx4a65c_grow_92f84 : yJx4a65c_grow_92f84.cls = RJx4a65c ∧ yJx4a65c_grow_92f84.cls ≠ "java/lang/invoke/MethodHandle" ∧ yJx4a65c_grow_92f84.cls ≠ "java/lang/invoke/VarHandle" ∧ (parseMethodDescriptor yJx4a65c_grow_92f84.desc).map (fun d => d.parameters.length) = some 1 := by decide +kernel
set_option maxHeartbeats 6000000 in
set_option maxRecDepth 100000 in
theorem L_grow0E (l : Launch) (G : pT) (h0 : Nat) (a : Nat → Nat) (F : Nat → Int32) (R : Nat → Value) (Z : Int64) (B : Nat → Nat → Int32) (J : Nat → Nat → Int64) (K : PK) (w : va_W) (q0 : Nat) (es : Nat) (n : Nat) (it : Nat → Nat) (hls : LsI G K q0 es n it) (hes : es = 1 ∨ es = 3) (hem : K.2.2.1 13 q0 = some G.2.2.2.2) (hn9 : n = 0) (hO : OKP G h0 a F R Z B J K w) : PM l G pX0 yJx4a65c_grow_d5877 cJx4a65c_grow_d5877 1 (some (.array (.object "java/lang/Object"))) ({ frames := 3, cells := 1, slots := 10, locals := 83 }) [.ref q0] w (fun (v : Option Value) (u : va_W × (Nat × PK)) => v = some (.ref u.2.1) ∧ (LsI G u.2.2 q0 es n it) ∧ (GrQ K u.2.2 q0 u.2.1 n 10) ∧ (N6 K u.2.2) ∧ (OKP G h0 a F R Z B J u.2.2 u.1)) (fun u => u.1) := by
  intro sz
  refine Met.ofW (cc := cJx4a65c_grow_d5877) (maxL := 1) (ret := (some (.array (.object "java/lang/Object")))) (by decide) rfl ?_
  intro p e s m args below meth c s₁ B9 hml hv
  obtain ⟨rfl, hsz, hP, hD0, hE, hX⟩ := hv
  have hx := B9.exec
  have hb := B9.bytes
  have hr := B9.returns
  have hts := atoms_spec (ws := Cond.code yJx4a65c_grow_d5877 cJx4a65c_grow_d5877 1 (some (.array (.object "java/lang/Object"))) :: pw) B9.pre
  have hq : ∀ w ∈ pw, w.before _ s = true := fun w h => hts w (List.mem_cons_of_mem _ h)
  have hown : s.vm.findClass RJx4a65c = some m.cls := findClass_of_methodNamed B9.named
  have hlocks := B9.notSynchronized
  subst hsz
  have hD := hD0.self (sz := s.heap.size)
  have hA : ∀ q : Nat, s.heap.size ≤ q → va_A w s.heap.size q := fun q h => Or.inr h
  generalize va_A w s.heap.size = A at hD hE hA ⊢
  have hS : va_S A s.heap s.heap [] := va_S.rf
  have hl := lv_entry ([.ref q0]) (n := 1) (Nat.le_of_ble_eq_true rfl)
  rw [lg_entry_eq]
  generalize (lg_sl ([.ref q0]) ++ List.replicate (1 - (lg_sl ([.ref q0])).length) Slot.unset).toArray = ls at hl ⊢
  have hl : lv_has ls 1 [(0, .ref q0)] := hl
  have hT0 := hls.1
  have hsz0 := hls.2.1
  have hn0 := hls.2.2.1
  have hes0 : ¬ es = 0 := by omega
  refine lv_aload_n hx hb dJx4a65c_grow_d5877_0 rfl (lv_at hl 0 rfl) ?_
  refine lv_aload_n hx hb dJx4a65c_grow_d5877_1 rfl (lv_at hl 0 rfl) ?_
  refine p_get (v := .int (nI n)) (C := RJx4a65c) (Tc := TJx4a65c) (N := 3) (ci := 10) hx hb hq pin_wsJx4a65c0 hown hE hP hO (by rw [hT0]; decide) (rep_5 hT0) rfl 2 (by decide) (hq _ pw_17) (fun _ h9 => h9) (congrArg (fun z => some (Value.int z)) hsz0) dJx4a65c_grow_d5877_2 ?_
  refine lv_iconst (v := 1) hx hb dJx4a65c_grow_d5877_5 (by decide) ?_
  refine lv_iadd hx hb dJx4a65c_grow_d5877_6 ?_
  refine lv_topi (fun x1 e2 => ?_)
  obtain rfl : x1 = nI (n + 1) := e2.trans (nI_add (n) (1))
  have hO : OKP G h0 a F R Z B J K w := hO.to rfl
  obtain ⟨qr6, hqr7⟩ := p_recv hO (by rw [hT0]; decide) (rep_5 hT0)
  refine pc_V0 (G := G) (As := [.int (nI (n + 1))]) (rest := []) hx hb hml hown hq hE hX pX0_al hP hD hS hA hl.1 (L_growE l G h0 a F R Z B J K w q0 es n it (n + 1) hls rfl hes hem hn9 hO) (gV pw_855 pw_856 pw_857 pw_32 pw_854) hV_Jx4a65c_grow_92f84 qr6 10 hqr7 rfl rfl rfl (Nat.le_of_ble_eq_true rfl) dJx4a65c_grow_d5877_7 ⟨(by show 0 + 1 ≤ 1; omega), (by show 0 + 10 ≤ 10; omega)⟩ ⟨Nat.le_of_ble_eq_true rfl, Nat.le_of_ble_eq_true rfl⟩ (fun v5 u3 H locs hw4 hP hD hS => ?_)
  obtain ⟨w, e8, K9⟩ := u3
  obtain ⟨hw4, h10, h11, h12, hO⟩ := hw4
  have h10 : LsI G K9 q0 es n it := h10
  have h11 : GrQ K K9 q0 e8 n 10 := h11
  have h12 : N6 K K9 := h12
  obtain rfl : v5 = some (.ref e8) := hw4
  have hO : OKP G h0 a F R Z B J K9 w := hO.to rfl
  refine W.widen (k := 1) (n := 10) (by show 0 + 1 ≤ 1; omega) (by show 0 + 10 ≤ 10; omega) ?_
  refine W.eq (g2 := F0 m 10 ls [.ref e8]) rfl ?_
  have hz13 : LsI G K9 q0 es n it := h10
  have hz14 : GrQ K K9 q0 e8 n 10 := h11
  have hz15 : N6 K K9 := h12
  have hO : OKP G h0 a F R Z B J K9 w := hO.to rfl
  refine W.widen (k := 1) (n := 10) (by omega) (by omega) ?_
  exact W.aret (v := .ref e8) hx hb hr (Or.inr ⟨_, rfl⟩) (Or.inr ⟨_, rfl⟩) (fun t99 ht99 hW99 => ⟨⟨_, (w, (e8, K9)), rfl, ⟨rfl, hz13, hz14, hz15, hO⟩, by rw [ht99]; exact hP, hD⟩, hS.F ht99⟩) hS.2.2 dJx4a65c_grow_d5877_10
set_option maxHeartbeats 6000000 in
set_option maxRecDepth 100000 in
theorem L_grow0F (l : Launch) (G : pT) (h0 : Nat) (a : Nat → Nat) (F : Nat → Int32) (R : Nat → Value) (Z : Int64) (B : Nat → Nat → Int32) (J : Nat → Nat → Int64) (K : PK) (w : va_W) (q0 : Nat) (es : Nat) (n : Nat) (it : Nat → Nat) (e9 : Nat) (hls : LsI G K q0 es n it) (hes : es = 1 ∨ es = 3) (hem : K.2.2.1 13 q0 = some e9) (hn9 : n = K.2.2.2.2.2 e9) (hnz : 1 ≤ n) (hO : OKP G h0 a F R Z B J K w) : PM l G pX0 yJx4a65c_grow_d5877 cJx4a65c_grow_d5877 1 (some (.array (.object "java/lang/Object"))) ({ frames := 5, cells := 1, slots := (n + n / 2), locals := 127 }) [.ref q0] w (fun (v : Option Value) (u : va_W × (Nat × PK)) => v = some (.ref u.2.1) ∧ (LsI G u.2.2 q0 es n it) ∧ (GrQ K u.2.2 q0 u.2.1 n (n + n / 2)) ∧ (N6 K u.2.2) ∧ (OKP G h0 a F R Z B J u.2.2 u.1)) (fun u => u.1) := by
  intro sz
  refine Met.ofW (cc := cJx4a65c_grow_d5877) (maxL := 1) (ret := (some (.array (.object "java/lang/Object")))) (by decide) rfl ?_
  intro p e s m args below meth c s₁ B9 hml hv
  obtain ⟨rfl, hsz, hP, hD0, hE, hX⟩ := hv
  have hx := B9.exec
  have hb := B9.bytes
  have hr := B9.returns
  have hts := atoms_spec (ws := Cond.code yJx4a65c_grow_d5877 cJx4a65c_grow_d5877 1 (some (.array (.object "java/lang/Object"))) :: pw) B9.pre
  have hq : ∀ w ∈ pw, w.before _ s = true := fun w h => hts w (List.mem_cons_of_mem _ h)
  have hown : s.vm.findClass RJx4a65c = some m.cls := findClass_of_methodNamed B9.named
  have hlocks := B9.notSynchronized
  subst hsz
  have hD := hD0.self (sz := s.heap.size)
  have hA : ∀ q : Nat, s.heap.size ≤ q → va_A w s.heap.size q := fun q h => Or.inr h
  generalize va_A w s.heap.size = A at hD hE hA ⊢
  have hS : va_S A s.heap s.heap [] := va_S.rf
  have hl := lv_entry ([.ref q0]) (n := 1) (Nat.le_of_ble_eq_true rfl)
  rw [lg_entry_eq]
  generalize (lg_sl ([.ref q0]) ++ List.replicate (1 - (lg_sl ([.ref q0])).length) Slot.unset).toArray = ls at hl ⊢
  have hl : lv_has ls 1 [(0, .ref q0)] := hl
  have hT0 := hls.1
  have hsz0 := hls.2.1
  have hn0 := hls.2.2.1
  have hes0 : ¬ es = 0 := by omega
  obtain ⟨hf1, hf2, hf3, hf4, hf5, hf6⟩ := hls.full hem (by omega)
  refine lv_aload_n hx hb dJx4a65c_grow_d5877_0 rfl (lv_at hl 0 rfl) ?_
  refine lv_aload_n hx hb dJx4a65c_grow_d5877_1 rfl (lv_at hl 0 rfl) ?_
  refine p_get (v := .int (nI n)) (C := RJx4a65c) (Tc := TJx4a65c) (N := 3) (ci := 10) hx hb hq pin_wsJx4a65c0 hown hE hP hO (by rw [hT0]; decide) (rep_5 hT0) rfl 2 (by decide) (hq _ pw_17) (fun _ h9 => h9) (congrArg (fun z => some (Value.int z)) hsz0) dJx4a65c_grow_d5877_2 ?_
  refine lv_iconst (v := 1) hx hb dJx4a65c_grow_d5877_5 (by decide) ?_
  refine lv_iadd hx hb dJx4a65c_grow_d5877_6 ?_
  refine lv_topi (fun x1 e2 => ?_)
  obtain rfl : x1 = nI (n + 1) := e2.trans (nI_add (n) (1))
  have hO : OKP G h0 a F R Z B J K w := hO.to rfl
  obtain ⟨qr6, hqr7⟩ := p_recv hO (by rw [hT0]; decide) (rep_5 hT0)
  refine pc_V0 (G := G) (As := [.int (nI (n + 1))]) (rest := []) hx hb hml hown hq hE hX pX0_al hP hD hS hA hl.1 (L_growF l G h0 a F R Z B J K w q0 es n it (n + 1) e9 hls rfl hes hem hn9 hnz hO) (gV pw_855 pw_856 pw_857 pw_32 pw_854) hV_Jx4a65c_grow_92f84 qr6 10 hqr7 rfl rfl rfl (Nat.le_of_ble_eq_true rfl) dJx4a65c_grow_d5877_7 ⟨(by show 0 + 1 ≤ 1; omega), (by show 0 + (n + n / 2) ≤ (n + n / 2); omega)⟩ ⟨Nat.le_of_ble_eq_true rfl, Nat.le_of_ble_eq_true rfl⟩ (fun v5 u3 H locs hw4 hP hD hS => ?_)
  obtain ⟨w, e8, K9⟩ := u3
  obtain ⟨hw4, h10, h11, h12, hO⟩ := hw4
  have h10 : LsI G K9 q0 es n it := h10
  have h11 : GrQ K K9 q0 e8 n (n + n / 2) := h11
  have h12 : N6 K K9 := h12
  obtain rfl : v5 = some (.ref e8) := hw4
  have hO : OKP G h0 a F R Z B J K9 w := hO.to rfl
  refine W.widen (k := 1) (n := (n + n / 2)) (by show 0 + 1 ≤ 1; omega) (by show 0 + (n + n / 2) ≤ (n + n / 2); omega) ?_
  refine W.eq (g2 := F0 m 10 ls [.ref e8]) rfl ?_
  have hz13 : LsI G K9 q0 es n it := h10
  have hz14 : GrQ K K9 q0 e8 n (n + n / 2) := h11
  have hz15 : N6 K K9 := h12
  have hO : OKP G h0 a F R Z B J K9 w := hO.to rfl
  refine W.widen (k := 1) (n := (n + n / 2)) (by omega) (by omega) ?_
  exact W.aret (v := .ref e8) hx hb hr (Or.inr ⟨_, rfl⟩) (Or.inr ⟨_, rfl⟩) (fun t99 ht99 hW99 => ⟨⟨_, (w, (e8, K9)), rfl, ⟨rfl, hz13, hz14, hz15, hO⟩, by rw [ht99]; exact hP, hD⟩, hS.F ht99⟩) hS.2.2 dJx4a65c_grow_d5877_10
