theorem dX1_init_0 : decode cX1_init 0 = .ok (.aload_n 0, 1) := by decide +kernel
theorem dX1_init_1 : decode cX1_init 1 = .ok (.invokespecial 3, 3) := by decide +kernel
theorem dX1_init_4 : decode cX1_init 4 = .ok (.aload_n 0, 1) := by decide +kernel
theorem dX1_init_5 : decode cX1_init 5 = .ok (.sipush 10000, 3) := by decide +kernel
theorem dX1_init_8 : decode cX1_init 8 = .ok (.newarray .int, 2) := by decide +kernel
theorem dX1_init_10 : decode cX1_init 10 = .ok (.putfield 11, 3) := by decide +kernel
theorem dX1_init_13 : decode cX1_init 13 = .ok (.aload_n 0, 1) := by decide +kernel
theorem dX1_init_14 : decode cX1_init 14 = .ok (.sipush 10000, 3) := by decide +kernel
theorem dX1_init_17 : decode cX1_init 17 = .ok (.newarray .int, 2) := by decide +kernel
theorem dX1_init_19 : decode cX1_init 19 = .ok (.putfield 15, 3) := by decide +kernel
theorem dX1_init_22 : decode cX1_init 22 = .ok (.aload_n 0, 1) := by decide +kernel
theorem dX1_init_23 : decode cX1_init 23 = .ok (.sipush 10000, 3) := by decide +kernel
theorem dX1_init_26 : decode cX1_init 26 = .ok (.newarray .int, 2) := by decide +kernel
theorem dX1_init_28 : decode cX1_init 28 = .ok (.putfield 18, 3) := by decide +kernel
theorem dX1_init_31 : decode cX1_init 31 = .ok (.aload_n 0, 1) := by decide +kernel
theorem dX1_init_32 : decode cX1_init 32 = .ok (.sipush 10000, 3) := by decide +kernel
theorem dX1_init_35 : decode cX1_init 35 = .ok (.newarray .int, 2) := by decide +kernel
theorem dX1_init_37 : decode cX1_init 37 = .ok (.putfield 21, 3) := by decide +kernel
theorem dX1_init_40 : decode cX1_init 40 = .ok (.aload_n 0, 1) := by decide +kernel
theorem dX1_init_41 : decode cX1_init 41 = .ok (.sipush 625, 3) := by decide +kernel
theorem dX1_init_44 : decode cX1_init 44 = .ok (.newarray .int, 2) := by decide +kernel
theorem dX1_init_46 : decode cX1_init 46 = .ok (.putfield 24, 3) := by decide +kernel
theorem dX1_init_49 : decode cX1_init 49 = .ok (.aload_n 0, 1) := by decide +kernel
theorem dX1_init_50 : decode cX1_init 50 = .ok (.sipush 625, 3) := by decide +kernel
theorem dX1_init_53 : decode cX1_init 53 = .ok (.newarray .int, 2) := by decide +kernel
theorem dX1_init_55 : decode cX1_init 55 = .ok (.putfield 27, 3) := by decide +kernel
theorem dX1_init_58 : decode cX1_init 58 = .ok (.aload_n 0, 1) := by decide +kernel
theorem dX1_init_59 : decode cX1_init 59 = .ok (.sipush 625, 3) := by decide +kernel
theorem dX1_init_62 : decode cX1_init 62 = .ok (.newarray .int, 2) := by decide +kernel
theorem dX1_init_64 : decode cX1_init 64 = .ok (.putfield 30, 3) := by decide +kernel
theorem dX1_init_67 : decode cX1_init 67 = .ok (.aload_n 0, 1) := by decide +kernel
theorem dX1_init_68 : decode cX1_init 68 = .ok (.sipush 625, 3) := by decide +kernel
theorem dX1_init_71 : decode cX1_init 71 = .ok (.newarray .int, 2) := by decide +kernel
theorem dX1_init_73 : decode cX1_init 73 = .ok (.putfield 33, 3) := by decide +kernel
theorem dX1_init_76 : decode cX1_init 76 = .ok (.aload_n 0, 1) := by decide +kernel
theorem dX1_init_77 : decode cX1_init 77 = .ok (.sipush 625, 3) := by decide +kernel
theorem dX1_init_80 : decode cX1_init 80 = .ok (.newarray .int, 2) := by decide +kernel
theorem dX1_init_82 : decode cX1_init 82 = .ok (.putfield 36, 3) := by decide +kernel
theorem dX1_init_85 : decode cX1_init 85 = .ok (.return_, 1) := by decide +kernel
set_option maxHeartbeats 1000000 in
set_option maxRecDepth 100000 in
/-- Code() -/
theorem c_Code_init (l : Launch) (G : pT) (h0 : Nat) : PM l G pX0 yX1_init cX1_init 1 none ({ frames := 2, cells := 9, slots := 43125, locals := 60 }) [.ref h0] [(h0, .inr (1, [.null, .null, .null, .null, .int 0, .null, .null, .null, .null, .null, .int 0, .int 0, .int 0]))] (fun (v : Option Value) (u : (Nat → Nat) × (Nat → Nat → Int32) × (Nat → Nat → Int64)) => v = none) (fun u => [(h0, .inr (1, [.ref (u.1 0), .ref (u.1 1), .ref (u.1 2), .ref (u.1 3), .int 0, .ref (u.1 4), .ref (u.1 5), .ref (u.1 6), .ref (u.1 7), .ref (u.1 8), .int 0, .int 0, .int 0])), ((u.1 0), .inl (G.2.1 0, 10000, .inl (fun _ => 0))), ((u.1 1), .inl (G.2.1 0, 10000, .inl (fun _ => 0))), ((u.1 2), .inl (G.2.1 0, 10000, .inl (fun _ => 0))), ((u.1 3), .inl (G.2.1 0, 10000, .inl (fun _ => 0))), ((u.1 4), .inl (G.2.1 0, 625, .inl (fun _ => 0))), ((u.1 5), .inl (G.2.1 0, 625, .inl (fun _ => 0))), ((u.1 6), .inl (G.2.1 0, 625, .inl (fun _ => 0))), ((u.1 7), .inl (G.2.1 0, 625, .inl (fun _ => 0))), ((u.1 8), .inl (G.2.1 0, 625, .inl (fun _ => 0)))]) := by
  intro sz
  refine Met.ofW (cc := cX1_init) (maxL := 1) (ret := none) (by decide) rfl ?_
  intro p e s m args below meth c s₁ B hml hv
  obtain ⟨rfl, hsz, hP, hD0, hE, hX⟩ := hv
  have hx := B.exec
  have hb := B.bytes
  have hr := B.returns
  have hts := atoms_spec (ws := Cond.code yX1_init cX1_init 1 none :: pw) B.pre
  have hq : ∀ w ∈ pw, w.before _ s = true := fun w h => hts w (List.mem_cons_of_mem _ h)
  have hown : s.vm.findClass RX1 = some m.cls := findClass_of_methodNamed B.named
  have hlocks := B.notSynchronized
  have hin : meth.name = "<init>" := (name_of_methodNamed B.named B.method).1
  subst hsz
  have hD := hD0.self (sz := s.heap.size)
  have hA : ∀ q : Nat, s.heap.size ≤ q → va_A [(h0, .inr (1, [.null, .null, .null, .null, .int 0, .null, .null, .null, .null, .null, .int 0, .int 0, .int 0]))] s.heap.size q := fun q h => Or.inr h
  have hP : va_P G.1 pCl [(h0, .inr (1, [.null, .null, .null, .null, .int 0, .null, .null, .null, .null, .null, .int 0, .int 0, .int 0]))] s.heap := hP
  generalize va_A [(h0, .inr (1, [.null, .null, .null, .null, .int 0, .null, .null, .null, .null, .null, .int 0, .int 0, .int 0]))] s.heap.size = A at hD hE hA ⊢
  have hS : va_S A s.heap s.heap [] := va_S.rf
  have hl := lv_entry ([.ref h0]) (n := 1) (Nat.le_of_ble_eq_true rfl)
  rw [lg_entry_eq]
  generalize (lg_sl ([.ref h0]) ++ List.replicate (1 - (lg_sl ([.ref h0])).length) Slot.unset).toArray = ls at hl ⊢
  have hl : lv_has ls 1 [(0, .ref h0)] := hl
  refine lv_aload_n hx hb dX1_init_0 rfl (lv_at hl 0 rfl) ?_
  refine W.objInit hx hb hown (hq _ pw_378) (hq _ pw_2) (hq _ pw_3) rfl (by rw [hml]; exact hl.1) rfl dX1_init_1 (Nat.le_of_ble_eq_true rfl) (Nat.le_of_ble_eq_true rfl) ?_
  refine W.eq (g2 := F0 m 4 ls []) rfl ?_
  refine lv_aload_n hx hb dX1_init_4 rfl (lv_at hl 0 rfl) ?_
  refine lv_sipush (v := 10000) hx hb dX1_init_5 (by decide) ?_
  refine pn_newa (G := G) (atype := .int) (a0 := (10000, .inl (fun _ => 0))) (N' := 10000) hx hb (hq _ pw_6) rfl hE.1.2.1 hP hD hS hA (fun _ => rfl) (by decide) (by decide) (by decide) (Nat.le_of_ble_eq_true rfl) (Nat.le_of_ble_eq_true rfl) dX1_init_8 (fun q1 H hP hD hS => ?_)
  have hP : va_P G.1 pCl [(h0, .inr (1, [.null, .null, .null, .null, .int 0, .null, .null, .null, .null, .null, .int 0, .int 0, .int 0])), (q1, .inl (G.2.1 0, 10000, .inl (fun _ => 0)))] H := hP
  have hD : va_D A [(h0, .inr (1, [.null, .null, .null, .null, .int 0, .null, .null, .null, .null, .null, .int 0, .int 0, .int 0])), (q1, .inl (G.2.1 0, 10000, .inl (fun _ => 0)))] := hD
  refine W.widen (k := 1) (n := 10000) (Nat.le_of_ble_eq_true rfl) (Nat.le_of_ble_eq_true rfl) ?_
  refine va_putF (D := G.1) (ci := 1) (v := .ref q1) (ty := (.array .int)) (C := RX1) (T := TX1) (N := 13) hx hb hq pin_wsX10 tyX1 tyX1_ok nmX1 hown hE.1.1 hP hD hS 0 rfl rfl 0 (by decide) (hq _ pw_116) (fun _ h9 => h9) rfl hin rfl (by decide +kernel) rfl rfl (Nat.le_of_ble_eq_true rfl) dX1_init_10 (fun H locs hP hD hS => ?_)
  have hP : va_P G.1 pCl [(h0, .inr (1, [.ref q1, .null, .null, .null, .int 0, .null, .null, .null, .null, .null, .int 0, .int 0, .int 0])), (q1, .inl (G.2.1 0, 10000, .inl (fun _ => 0)))] H := hP
  have hD : va_D A [(h0, .inr (1, [.ref q1, .null, .null, .null, .int 0, .null, .null, .null, .null, .null, .int 0, .int 0, .int 0])), (q1, .inl (G.2.1 0, 10000, .inl (fun _ => 0)))] := hD
  refine lv_aload_n hx hb dX1_init_13 rfl (lv_at hl 0 rfl) ?_
  refine lv_sipush (v := 10000) hx hb dX1_init_14 (by decide) ?_
  refine pn_newa (G := G) (atype := .int) (a0 := (10000, .inl (fun _ => 0))) (N' := 10000) hx hb (hq _ pw_6) rfl hE.1.2.1 hP hD hS hA (fun _ => rfl) (by decide) (by decide) (by decide) (Nat.le_of_ble_eq_true rfl) (Nat.le_of_ble_eq_true rfl) dX1_init_17 (fun q2 H hP hD hS => ?_)
  have hP : va_P G.1 pCl [(h0, .inr (1, [.ref q1, .null, .null, .null, .int 0, .null, .null, .null, .null, .null, .int 0, .int 0, .int 0])), (q1, .inl (G.2.1 0, 10000, .inl (fun _ => 0))), (q2, .inl (G.2.1 0, 10000, .inl (fun _ => 0)))] H := hP
  have hD : va_D A [(h0, .inr (1, [.ref q1, .null, .null, .null, .int 0, .null, .null, .null, .null, .null, .int 0, .int 0, .int 0])), (q1, .inl (G.2.1 0, 10000, .inl (fun _ => 0))), (q2, .inl (G.2.1 0, 10000, .inl (fun _ => 0)))] := hD
  refine W.widen (k := 2) (n := 20000) (Nat.le_of_ble_eq_true rfl) (Nat.le_of_ble_eq_true rfl) ?_
  refine va_putF (D := G.1) (ci := 1) (v := .ref q2) (ty := (.array .int)) (C := RX1) (T := TX1) (N := 13) hx hb hq pin_wsX10 tyX1 tyX1_ok nmX1 hown hE.1.1 hP hD hS 0 rfl rfl 1 (by decide) (hq _ pw_117) (fun _ h9 => h9) rfl hin rfl (by decide +kernel) rfl rfl (Nat.le_of_ble_eq_true rfl) dX1_init_19 (fun H locs hP hD hS => ?_)
  have hP : va_P G.1 pCl [(h0, .inr (1, [.ref q1, .ref q2, .null, .null, .int 0, .null, .null, .null, .null, .null, .int 0, .int 0, .int 0])), (q1, .inl (G.2.1 0, 10000, .inl (fun _ => 0))), (q2, .inl (G.2.1 0, 10000, .inl (fun _ => 0)))] H := hP
  have hD : va_D A [(h0, .inr (1, [.ref q1, .ref q2, .null, .null, .int 0, .null, .null, .null, .null, .null, .int 0, .int 0, .int 0])), (q1, .inl (G.2.1 0, 10000, .inl (fun _ => 0))), (q2, .inl (G.2.1 0, 10000, .inl (fun _ => 0)))] := hD
  refine lv_aload_n hx hb dX1_init_22 rfl (lv_at hl 0 rfl) ?_
  refine lv_sipush (v := 10000) hx hb dX1_init_23 (by decide) ?_
  refine pn_newa (G := G) (atype := .int) (a0 := (10000, .inl (fun _ => 0))) (N' := 10000) hx hb (hq _ pw_6) rfl hE.1.2.1 hP hD hS hA (fun _ => rfl) (by decide) (by decide) (by decide) (Nat.le_of_ble_eq_true rfl) (Nat.le_of_ble_eq_true rfl) dX1_init_26 (fun q3 H hP hD hS => ?_)
  have hP : va_P G.1 pCl [(h0, .inr (1, [.ref q1, .ref q2, .null, .null, .int 0, .null, .null, .null, .null, .null, .int 0, .int 0, .int 0])), (q1, .inl (G.2.1 0, 10000, .inl (fun _ => 0))), (q2, .inl (G.2.1 0, 10000, .inl (fun _ => 0))), (q3, .inl (G.2.1 0, 10000, .inl (fun _ => 0)))] H := hP
  have hD : va_D A [(h0, .inr (1, [.ref q1, .ref q2, .null, .null, .int 0, .null, .null, .null, .null, .null, .int 0, .int 0, .int 0])), (q1, .inl (G.2.1 0, 10000, .inl (fun _ => 0))), (q2, .inl (G.2.1 0, 10000, .inl (fun _ => 0))), (q3, .inl (G.2.1 0, 10000, .inl (fun _ => 0)))] := hD
  refine W.widen (k := 3) (n := 30000) (Nat.le_of_ble_eq_true rfl) (Nat.le_of_ble_eq_true rfl) ?_
  refine va_putF (D := G.1) (ci := 1) (v := .ref q3) (ty := (.array .int)) (C := RX1) (T := TX1) (N := 13) hx hb hq pin_wsX10 tyX1 tyX1_ok nmX1 hown hE.1.1 hP hD hS 0 rfl rfl 2 (by decide) (hq _ pw_118) (fun _ h9 => h9) rfl hin rfl (by decide +kernel) rfl rfl (Nat.le_of_ble_eq_true rfl) dX1_init_28 (fun H locs hP hD hS => ?_)
  have hP : va_P G.1 pCl [(h0, .inr (1, [.ref q1, .ref q2, .ref q3, .null, .int 0, .null, .null, .null, .null, .null, .int 0, .int 0, .int 0])), (q1, .inl (G.2.1 0, 10000, .inl (fun _ => 0))), (q2, .inl (G.2.1 0, 10000, .inl (fun _ => 0))), (q3, .inl (G.2.1 0, 10000, .inl (fun _ => 0)))] H := hP
  have hD : va_D A [(h0, .inr (1, [.ref q1, .ref q2, .ref q3, .null, .int 0, .null, .null, .null, .null, .null, .int 0, .int 0, .int 0])), (q1, .inl (G.2.1 0, 10000, .inl (fun _ => 0))), (q2, .inl (G.2.1 0, 10000, .inl (fun _ => 0))), (q3, .inl (G.2.1 0, 10000, .inl (fun _ => 0)))] := hD
  refine lv_aload_n hx hb dX1_init_31 rfl (lv_at hl 0 rfl) ?_
  refine lv_sipush (v := 10000) hx hb dX1_init_32 (by decide) ?_
  refine pn_newa (G := G) (atype := .int) (a0 := (10000, .inl (fun _ => 0))) (N' := 10000) hx hb (hq _ pw_6) rfl hE.1.2.1 hP hD hS hA (fun _ => rfl) (by decide) (by decide) (by decide) (Nat.le_of_ble_eq_true rfl) (Nat.le_of_ble_eq_true rfl) dX1_init_35 (fun q4 H hP hD hS => ?_)
  have hP : va_P G.1 pCl [(h0, .inr (1, [.ref q1, .ref q2, .ref q3, .null, .int 0, .null, .null, .null, .null, .null, .int 0, .int 0, .int 0])), (q1, .inl (G.2.1 0, 10000, .inl (fun _ => 0))), (q2, .inl (G.2.1 0, 10000, .inl (fun _ => 0))), (q3, .inl (G.2.1 0, 10000, .inl (fun _ => 0))), (q4, .inl (G.2.1 0, 10000, .inl (fun _ => 0)))] H := hP
  have hD : va_D A [(h0, .inr (1, [.ref q1, .ref q2, .ref q3, .null, .int 0, .null, .null, .null, .null, .null, .int 0, .int 0, .int 0])), (q1, .inl (G.2.1 0, 10000, .inl (fun _ => 0))), (q2, .inl (G.2.1 0, 10000, .inl (fun _ => 0))), (q3, .inl (G.2.1 0, 10000, .inl (fun _ => 0))), (q4, .inl (G.2.1 0, 10000, .inl (fun _ => 0)))] := hD
  refine W.widen (k := 4) (n := 40000) (Nat.le_of_ble_eq_true rfl) (Nat.le_of_ble_eq_true rfl) ?_
  refine va_putF (D := G.1) (ci := 1) (v := .ref q4) (ty := (.array .int)) (C := RX1) (T := TX1) (N := 13) hx hb hq pin_wsX10 tyX1 tyX1_ok nmX1 hown hE.1.1 hP hD hS 0 rfl rfl 3 (by decide) (hq _ pw_119) (fun _ h9 => h9) rfl hin rfl (by decide +kernel) rfl rfl (Nat.le_of_ble_eq_true rfl) dX1_init_37 (fun H locs hP hD hS => ?_)
  have hP : va_P G.1 pCl [(h0, .inr (1, [.ref q1, .ref q2, .ref q3, .ref q4, .int 0, .null, .null, .null, .null, .null, .int 0, .int 0, .int 0])), (q1, .inl (G.2.1 0, 10000, .inl (fun _ => 0))), (q2, .inl (G.2.1 0, 10000, .inl (fun _ => 0))), (q3, .inl (G.2.1 0, 10000, .inl (fun _ => 0))), (q4, .inl (G.2.1 0, 10000, .inl (fun _ => 0)))] H := hP
  have hD : va_D A [(h0, .inr (1, [.ref q1, .ref q2, .ref q3, .ref q4, .int 0, .null, .null, .null, .null, .null, .int 0, .int 0, .int 0])), (q1, .inl (G.2.1 0, 10000, .inl (fun _ => 0))), (q2, .inl (G.2.1 0, 10000, .inl (fun _ => 0))), (q3, .inl (G.2.1 0, 10000, .inl (fun _ => 0))), (q4, .inl (G.2.1 0, 10000, .inl (fun _ => 0)))] := hD
  refine lv_aload_n hx hb dX1_init_40 rfl (lv_at hl 0 rfl) ?_
  refine lv_sipush (v := 625) hx hb dX1_init_41 (by decide) ?_
  refine pn_newa (G := G) (atype := .int) (a0 := (625, .inl (fun _ => 0))) (N' := 625) hx hb (hq _ pw_6) rfl hE.1.2.1 hP hD hS hA (fun _ => rfl) (by decide) (by decide) (by decide) (Nat.le_of_ble_eq_true rfl) (Nat.le_of_ble_eq_true rfl) dX1_init_44 (fun q5 H hP hD hS => ?_)
  have hP : va_P G.1 pCl [(h0, .inr (1, [.ref q1, .ref q2, .ref q3, .ref q4, .int 0, .null, .null, .null, .null, .null, .int 0, .int 0, .int 0])), (q1, .inl (G.2.1 0, 10000, .inl (fun _ => 0))), (q2, .inl (G.2.1 0, 10000, .inl (fun _ => 0))), (q3, .inl (G.2.1 0, 10000, .inl (fun _ => 0))), (q4, .inl (G.2.1 0, 10000, .inl (fun _ => 0))), (q5, .inl (G.2.1 0, 625, .inl (fun _ => 0)))] H := hP
  have hD : va_D A [(h0, .inr (1, [.ref q1, .ref q2, .ref q3, .ref q4, .int 0, .null, .null, .null, .null, .null, .int 0, .int 0, .int 0])), (q1, .inl (G.2.1 0, 10000, .inl (fun _ => 0))), (q2, .inl (G.2.1 0, 10000, .inl (fun _ => 0))), (q3, .inl (G.2.1 0, 10000, .inl (fun _ => 0))), (q4, .inl (G.2.1 0, 10000, .inl (fun _ => 0))), (q5, .inl (G.2.1 0, 625, .inl (fun _ => 0)))] := hD
  refine W.widen (k := 5) (n := 40625) (Nat.le_of_ble_eq_true rfl) (Nat.le_of_ble_eq_true rfl) ?_
  refine va_putF (D := G.1) (ci := 1) (v := .ref q5) (ty := (.array .int)) (C := RX1) (T := TX1) (N := 13) hx hb hq pin_wsX10 tyX1 tyX1_ok nmX1 hown hE.1.1 hP hD hS 0 rfl rfl 5 (by decide) (hq _ pw_295) (fun _ h9 => h9) rfl hin rfl (by decide +kernel) rfl rfl (Nat.le_of_ble_eq_true rfl) dX1_init_46 (fun H locs hP hD hS => ?_)
  have hP : va_P G.1 pCl [(h0, .inr (1, [.ref q1, .ref q2, .ref q3, .ref q4, .int 0, .ref q5, .null, .null, .null, .null, .int 0, .int 0, .int 0])), (q1, .inl (G.2.1 0, 10000, .inl (fun _ => 0))), (q2, .inl (G.2.1 0, 10000, .inl (fun _ => 0))), (q3, .inl (G.2.1 0, 10000, .inl (fun _ => 0))), (q4, .inl (G.2.1 0, 10000, .inl (fun _ => 0))), (q5, .inl (G.2.1 0, 625, .inl (fun _ => 0)))] H := hP
  have hD : va_D A [(h0, .inr (1, [.ref q1, .ref q2, .ref q3, .ref q4, .int 0, .ref q5, .null, .null, .null, .null, .int 0, .int 0, .int 0])), (q1, .inl (G.2.1 0, 10000, .inl (fun _ => 0))), (q2, .inl (G.2.1 0, 10000, .inl (fun _ => 0))), (q3, .inl (G.2.1 0, 10000, .inl (fun _ => 0))), (q4, .inl (G.2.1 0, 10000, .inl (fun _ => 0))), (q5, .inl (G.2.1 0, 625, .inl (fun _ => 0)))] := hD
  refine lv_aload_n hx hb dX1_init_49 rfl (lv_at hl 0 rfl) ?_
  refine lv_sipush (v := 625) hx hb dX1_init_50 (by decide) ?_
  refine pn_newa (G := G) (atype := .int) (a0 := (625, .inl (fun _ => 0))) (N' := 625) hx hb (hq _ pw_6) rfl hE.1.2.1 hP hD hS hA (fun _ => rfl) (by decide) (by decide) (by decide) (Nat.le_of_ble_eq_true rfl) (Nat.le_of_ble_eq_true rfl) dX1_init_53 (fun q6 H hP hD hS => ?_)
  have hP : va_P G.1 pCl [(h0, .inr (1, [.ref q1, .ref q2, .ref q3, .ref q4, .int 0, .ref q5, .null, .null, .null, .null, .int 0, .int 0, .int 0])), (q1, .inl (G.2.1 0, 10000, .inl (fun _ => 0))), (q2, .inl (G.2.1 0, 10000, .inl (fun _ => 0))), (q3, .inl (G.2.1 0, 10000, .inl (fun _ => 0))), (q4, .inl (G.2.1 0, 10000, .inl (fun _ => 0))), (q5, .inl (G.2.1 0, 625, .inl (fun _ => 0))), (q6, .inl (G.2.1 0, 625, .inl (fun _ => 0)))] H := hP
  have hD : va_D A [(h0, .inr (1, [.ref q1, .ref q2, .ref q3, .ref q4, .int 0, .ref q5, .null, .null, .null, .null, .int 0, .int 0, .int 0])), (q1, .inl (G.2.1 0, 10000, .inl (fun _ => 0))), (q2, .inl (G.2.1 0, 10000, .inl (fun _ => 0))), (q3, .inl (G.2.1 0, 10000, .inl (fun _ => 0))), (q4, .inl (G.2.1 0, 10000, .inl (fun _ => 0))), (q5, .inl (G.2.1 0, 625, .inl (fun _ => 0))), (q6, .inl (G.2.1 0, 625, .inl (fun _ => 0)))] := hD
  refine W.widen (k := 6) (n := 41250) (Nat.le_of_ble_eq_true rfl) (Nat.le_of_ble_eq_true rfl) ?_
  refine va_putF (D := G.1) (ci := 1) (v := .ref q6) (ty := (.array .int)) (C := RX1) (T := TX1) (N := 13) hx hb hq pin_wsX10 tyX1 tyX1_ok nmX1 hown hE.1.1 hP hD hS 0 rfl rfl 6 (by decide) (hq _ pw_296) (fun _ h9 => h9) rfl hin rfl (by decide +kernel) rfl rfl (Nat.le_of_ble_eq_true rfl) dX1_init_55 (fun H locs hP hD hS => ?_)
  have hP : va_P G.1 pCl [(h0, .inr (1, [.ref q1, .ref q2, .ref q3, .ref q4, .int 0, .ref q5, .ref q6, .null, .null, .null, .int 0, .int 0, .int 0])), (q1, .inl (G.2.1 0, 10000, .inl (fun _ => 0))), (q2, .inl (G.2.1 0, 10000, .inl (fun _ => 0))), (q3, .inl (G.2.1 0, 10000, .inl (fun _ => 0))), (q4, .inl (G.2.1 0, 10000, .inl (fun _ => 0))), (q5, .inl (G.2.1 0, 625, .inl (fun _ => 0))), (q6, .inl (G.2.1 0, 625, .inl (fun _ => 0)))] H := hP
  have hD : va_D A [(h0, .inr (1, [.ref q1, .ref q2, .ref q3, .ref q4, .int 0, .ref q5, .ref q6, .null, .null, .null, .int 0, .int 0, .int 0])), (q1, .inl (G.2.1 0, 10000, .inl (fun _ => 0))), (q2, .inl (G.2.1 0, 10000, .inl (fun _ => 0))), (q3, .inl (G.2.1 0, 10000, .inl (fun _ => 0))), (q4, .inl (G.2.1 0, 10000, .inl (fun _ => 0))), (q5, .inl (G.2.1 0, 625, .inl (fun _ => 0))), (q6, .inl (G.2.1 0, 625, .inl (fun _ => 0)))] := hD
  refine lv_aload_n hx hb dX1_init_58 rfl (lv_at hl 0 rfl) ?_
  refine lv_sipush (v := 625) hx hb dX1_init_59 (by decide) ?_
  refine pn_newa (G := G) (atype := .int) (a0 := (625, .inl (fun _ => 0))) (N' := 625) hx hb (hq _ pw_6) rfl hE.1.2.1 hP hD hS hA (fun _ => rfl) (by decide) (by decide) (by decide) (Nat.le_of_ble_eq_true rfl) (Nat.le_of_ble_eq_true rfl) dX1_init_62 (fun q7 H hP hD hS => ?_)
  have hP : va_P G.1 pCl [(h0, .inr (1, [.ref q1, .ref q2, .ref q3, .ref q4, .int 0, .ref q5, .ref q6, .null, .null, .null, .int 0, .int 0, .int 0])), (q1, .inl (G.2.1 0, 10000, .inl (fun _ => 0))), (q2, .inl (G.2.1 0, 10000, .inl (fun _ => 0))), (q3, .inl (G.2.1 0, 10000, .inl (fun _ => 0))), (q4, .inl (G.2.1 0, 10000, .inl (fun _ => 0))), (q5, .inl (G.2.1 0, 625, .inl (fun _ => 0))), (q6, .inl (G.2.1 0, 625, .inl (fun _ => 0))), (q7, .inl (G.2.1 0, 625, .inl (fun _ => 0)))] H := hP
  have hD : va_D A [(h0, .inr (1, [.ref q1, .ref q2, .ref q3, .ref q4, .int 0, .ref q5, .ref q6, .null, .null, .null, .int 0, .int 0, .int 0])), (q1, .inl (G.2.1 0, 10000, .inl (fun _ => 0))), (q2, .inl (G.2.1 0, 10000, .inl (fun _ => 0))), (q3, .inl (G.2.1 0, 10000, .inl (fun _ => 0))), (q4, .inl (G.2.1 0, 10000, .inl (fun _ => 0))), (q5, .inl (G.2.1 0, 625, .inl (fun _ => 0))), (q6, .inl (G.2.1 0, 625, .inl (fun _ => 0))), (q7, .inl (G.2.1 0, 625, .inl (fun _ => 0)))] := hD
  refine W.widen (k := 7) (n := 41875) (Nat.le_of_ble_eq_true rfl) (Nat.le_of_ble_eq_true rfl) ?_
  refine va_putF (D := G.1) (ci := 1) (v := .ref q7) (ty := (.array .int)) (C := RX1) (T := TX1) (N := 13) hx hb hq pin_wsX10 tyX1 tyX1_ok nmX1 hown hE.1.1 hP hD hS 0 rfl rfl 7 (by decide) (hq _ pw_297) (fun _ h9 => h9) rfl hin rfl (by decide +kernel) rfl rfl (Nat.le_of_ble_eq_true rfl) dX1_init_64 (fun H locs hP hD hS => ?_)
  have hP : va_P G.1 pCl [(h0, .inr (1, [.ref q1, .ref q2, .ref q3, .ref q4, .int 0, .ref q5, .ref q6, .ref q7, .null, .null, .int 0, .int 0, .int 0])), (q1, .inl (G.2.1 0, 10000, .inl (fun _ => 0))), (q2, .inl (G.2.1 0, 10000, .inl (fun _ => 0))), (q3, .inl (G.2.1 0, 10000, .inl (fun _ => 0))), (q4, .inl (G.2.1 0, 10000, .inl (fun _ => 0))), (q5, .inl (G.2.1 0, 625, .inl (fun _ => 0))), (q6, .inl (G.2.1 0, 625, .inl (fun _ => 0))), (q7, .inl (G.2.1 0, 625, .inl (fun _ => 0)))] H := hP
  have hD : va_D A [(h0, .inr (1, [.ref q1, .ref q2, .ref q3, .ref q4, .int 0, .ref q5, .ref q6, .ref q7, .null, .null, .int 0, .int 0, .int 0])), (q1, .inl (G.2.1 0, 10000, .inl (fun _ => 0))), (q2, .inl (G.2.1 0, 10000, .inl (fun _ => 0))), (q3, .inl (G.2.1 0, 10000, .inl (fun _ => 0))), (q4, .inl (G.2.1 0, 10000, .inl (fun _ => 0))), (q5, .inl (G.2.1 0, 625, .inl (fun _ => 0))), (q6, .inl (G.2.1 0, 625, .inl (fun _ => 0))), (q7, .inl (G.2.1 0, 625, .inl (fun _ => 0)))] := hD
  refine lv_aload_n hx hb dX1_init_67 rfl (lv_at hl 0 rfl) ?_
  refine lv_sipush (v := 625) hx hb dX1_init_68 (by decide) ?_
  refine pn_newa (G := G) (atype := .int) (a0 := (625, .inl (fun _ => 0))) (N' := 625) hx hb (hq _ pw_6) rfl hE.1.2.1 hP hD hS hA (fun _ => rfl) (by decide) (by decide) (by decide) (Nat.le_of_ble_eq_true rfl) (Nat.le_of_ble_eq_true rfl) dX1_init_71 (fun q8 H hP hD hS => ?_)
  have hP : va_P G.1 pCl [(h0, .inr (1, [.ref q1, .ref q2, .ref q3, .ref q4, .int 0, .ref q5, .ref q6, .ref q7, .null, .null, .int 0, .int 0, .int 0])), (q1, .inl (G.2.1 0, 10000, .inl (fun _ => 0))), (q2, .inl (G.2.1 0, 10000, .inl (fun _ => 0))), (q3, .inl (G.2.1 0, 10000, .inl (fun _ => 0))), (q4, .inl (G.2.1 0, 10000, .inl (fun _ => 0))), (q5, .inl (G.2.1 0, 625, .inl (fun _ => 0))), (q6, .inl (G.2.1 0, 625, .inl (fun _ => 0))), (q7, .inl (G.2.1 0, 625, .inl (fun _ => 0))), (q8, .inl (G.2.1 0, 625, .inl (fun _ => 0)))] H := hP
  have hD : va_D A [(h0, .inr (1, [.ref q1, .ref q2, .ref q3, .ref q4, .int 0, .ref q5, .ref q6, .ref q7, .null, .null, .int 0, .int 0, .int 0])), (q1, .inl (G.2.1 0, 10000, .inl (fun _ => 0))), (q2, .inl (G.2.1 0, 10000, .inl (fun _ => 0))), (q3, .inl (G.2.1 0, 10000, .inl (fun _ => 0))), (q4, .inl (G.2.1 0, 10000, .inl (fun _ => 0))), (q5, .inl (G.2.1 0, 625, .inl (fun _ => 0))), (q6, .inl (G.2.1 0, 625, .inl (fun _ => 0))), (q7, .inl (G.2.1 0, 625, .inl (fun _ => 0))), (q8, .inl (G.2.1 0, 625, .inl (fun _ => 0)))] := hD
  refine W.widen (k := 8) (n := 42500) (Nat.le_of_ble_eq_true rfl) (Nat.le_of_ble_eq_true rfl) ?_
  refine va_putF (D := G.1) (ci := 1) (v := .ref q8) (ty := (.array .int)) (C := RX1) (T := TX1) (N := 13) hx hb hq pin_wsX10 tyX1 tyX1_ok nmX1 hown hE.1.1 hP hD hS 0 rfl rfl 8 (by decide) (hq _ pw_298) (fun _ h9 => h9) rfl hin rfl (by decide +kernel) rfl rfl (Nat.le_of_ble_eq_true rfl) dX1_init_73 (fun H locs hP hD hS => ?_)
  have hP : va_P G.1 pCl [(h0, .inr (1, [.ref q1, .ref q2, .ref q3, .ref q4, .int 0, .ref q5, .ref q6, .ref q7, .ref q8, .null, .int 0, .int 0, .int 0])), (q1, .inl (G.2.1 0, 10000, .inl (fun _ => 0))), (q2, .inl (G.2.1 0, 10000, .inl (fun _ => 0))), (q3, .inl (G.2.1 0, 10000, .inl (fun _ => 0))), (q4, .inl (G.2.1 0, 10000, .inl (fun _ => 0))), (q5, .inl (G.2.1 0, 625, .inl (fun _ => 0))), (q6, .inl (G.2.1 0, 625, .inl (fun _ => 0))), (q7, .inl (G.2.1 0, 625, .inl (fun _ => 0))), (q8, .inl (G.2.1 0, 625, .inl (fun _ => 0)))] H := hP
  have hD : va_D A [(h0, .inr (1, [.ref q1, .ref q2, .ref q3, .ref q4, .int 0, .ref q5, .ref q6, .ref q7, .ref q8, .null, .int 0, .int 0, .int 0])), (q1, .inl (G.2.1 0, 10000, .inl (fun _ => 0))), (q2, .inl (G.2.1 0, 10000, .inl (fun _ => 0))), (q3, .inl (G.2.1 0, 10000, .inl (fun _ => 0))), (q4, .inl (G.2.1 0, 10000, .inl (fun _ => 0))), (q5, .inl (G.2.1 0, 625, .inl (fun _ => 0))), (q6, .inl (G.2.1 0, 625, .inl (fun _ => 0))), (q7, .inl (G.2.1 0, 625, .inl (fun _ => 0))), (q8, .inl (G.2.1 0, 625, .inl (fun _ => 0)))] := hD
  refine lv_aload_n hx hb dX1_init_76 rfl (lv_at hl 0 rfl) ?_
  refine lv_sipush (v := 625) hx hb dX1_init_77 (by decide) ?_
  refine pn_newa (G := G) (atype := .int) (a0 := (625, .inl (fun _ => 0))) (N' := 625) hx hb (hq _ pw_6) rfl hE.1.2.1 hP hD hS hA (fun _ => rfl) (by decide) (by decide) (by decide) (Nat.le_of_ble_eq_true rfl) (Nat.le_of_ble_eq_true rfl) dX1_init_80 (fun q9 H hP hD hS => ?_)
  have hP : va_P G.1 pCl [(h0, .inr (1, [.ref q1, .ref q2, .ref q3, .ref q4, .int 0, .ref q5, .ref q6, .ref q7, .ref q8, .null, .int 0, .int 0, .int 0])), (q1, .inl (G.2.1 0, 10000, .inl (fun _ => 0))), (q2, .inl (G.2.1 0, 10000, .inl (fun _ => 0))), (q3, .inl (G.2.1 0, 10000, .inl (fun _ => 0))), (q4, .inl (G.2.1 0, 10000, .inl (fun _ => 0))), (q5, .inl (G.2.1 0, 625, .inl (fun _ => 0))), (q6, .inl (G.2.1 0, 625, .inl (fun _ => 0))), (q7, .inl (G.2.1 0, 625, .inl (fun _ => 0))), (q8, .inl (G.2.1 0, 625, .inl (fun _ => 0))), (q9, .inl (G.2.1 0, 625, .inl (fun _ => 0)))] H := hP
  have hD : va_D A [(h0, .inr (1, [.ref q1, .ref q2, .ref q3, .ref q4, .int 0, .ref q5, .ref q6, .ref q7, .ref q8, .null, .int 0, .int 0, .int 0])), (q1, .inl (G.2.1 0, 10000, .inl (fun _ => 0))), (q2, .inl (G.2.1 0, 10000, .inl (fun _ => 0))), (q3, .inl (G.2.1 0, 10000, .inl (fun _ => 0))), (q4, .inl (G.2.1 0, 10000, .inl (fun _ => 0))), (q5, .inl (G.2.1 0, 625, .inl (fun _ => 0))), (q6, .inl (G.2.1 0, 625, .inl (fun _ => 0))), (q7, .inl (G.2.1 0, 625, .inl (fun _ => 0))), (q8, .inl (G.2.1 0, 625, .inl (fun _ => 0))), (q9, .inl (G.2.1 0, 625, .inl (fun _ => 0)))] := hD
  refine W.widen (k := 9) (n := 43125) (Nat.le_of_ble_eq_true rfl) (Nat.le_of_ble_eq_true rfl) ?_
  refine va_putF (D := G.1) (ci := 1) (v := .ref q9) (ty := (.array .int)) (C := RX1) (T := TX1) (N := 13) hx hb hq pin_wsX10 tyX1 tyX1_ok nmX1 hown hE.1.1 hP hD hS 0 rfl rfl 9 (by decide) (hq _ pw_299) (fun _ h9 => h9) rfl hin rfl (by decide +kernel) rfl rfl (Nat.le_of_ble_eq_true rfl) dX1_init_82 (fun H locs hP hD hS => ?_)
  have hP : va_P G.1 pCl [(h0, .inr (1, [.ref q1, .ref q2, .ref q3, .ref q4, .int 0, .ref q5, .ref q6, .ref q7, .ref q8, .ref q9, .int 0, .int 0, .int 0])), (q1, .inl (G.2.1 0, 10000, .inl (fun _ => 0))), (q2, .inl (G.2.1 0, 10000, .inl (fun _ => 0))), (q3, .inl (G.2.1 0, 10000, .inl (fun _ => 0))), (q4, .inl (G.2.1 0, 10000, .inl (fun _ => 0))), (q5, .inl (G.2.1 0, 625, .inl (fun _ => 0))), (q6, .inl (G.2.1 0, 625, .inl (fun _ => 0))), (q7, .inl (G.2.1 0, 625, .inl (fun _ => 0))), (q8, .inl (G.2.1 0, 625, .inl (fun _ => 0))), (q9, .inl (G.2.1 0, 625, .inl (fun _ => 0)))] H := hP
  have hD : va_D A [(h0, .inr (1, [.ref q1, .ref q2, .ref q3, .ref q4, .int 0, .ref q5, .ref q6, .ref q7, .ref q8, .ref q9, .int 0, .int 0, .int 0])), (q1, .inl (G.2.1 0, 10000, .inl (fun _ => 0))), (q2, .inl (G.2.1 0, 10000, .inl (fun _ => 0))), (q3, .inl (G.2.1 0, 10000, .inl (fun _ => 0))), (q4, .inl (G.2.1 0, 10000, .inl (fun _ => 0))), (q5, .inl (G.2.1 0, 625, .inl (fun _ => 0))), (q6, .inl (G.2.1 0, 625, .inl (fun _ => 0))), (q7, .inl (G.2.1 0, 625, .inl (fun _ => 0))), (q8, .inl (G.2.1 0, 625, .inl (fun _ => 0))), (q9, .inl (G.2.1 0, 625, .inl (fun _ => 0)))] := hD
  refine W.widen (k := 9) (n := 43125) (Nat.le_of_ble_eq_true rfl) (Nat.le_of_ble_eq_true rfl) ?_
  exact W.vret hx hb hr (fun t ht hW => ⟨⟨_, ((fun k => match k with | 0 => q1 | 1 => q2 | 2 => q3 | 3 => q4 | 4 => q5 | 5 => q6 | 6 => q7 | 7 => q8 | _ => q9), (fun _ => fun _ => 0), (fun _ => fun _ => 0)), rfl, rfl, by rw [ht]; exact hP.sub [0, 1, 2, 3, 4, 5, 6, 7, 8, 9] rfl, hD.sub [0, 1, 2, 3, 4, 5, 6, 7, 8, 9] (by decide) rfl⟩, hS.F ht⟩) hS.2.2 dX1_init_85
theorem dX8_init_0 : decode cX8_init 0 = .ok (.aload_n 0, 1) := by decide +kernel
theorem dX8_init_1 : decode cX8_init 1 = .ok (.invokespecial 1, 3) := by decide +kernel
theorem dX8_init_4 : decode cX8_init 4 = .ok (.aload_n 0, 1) := by decide +kernel
theorem dX8_init_5 : decode cX8_init 5 = .ok (.aload_n 1, 1) := by decide +kernel
theorem dX8_init_6 : decode cX8_init 6 = .ok (.putfield 7, 3) := by decide +kernel
theorem dX8_init_9 : decode cX8_init 9 = .ok (.return_, 1) := by decide +kernel
set_option maxHeartbeats 1000000 in
set_option maxRecDepth 100000 in
/-- Parser(text) -/
theorem c_Parser_init (l : Launch) (G : pT) (h0 : Nat) (h1 : Nat) : PM l G pX0 yX8_init cX8_init 2 none ({ frames := 2, cells := 0, slots := 0, locals := 60 }) [.ref h0, .ref h1] [(h0, .inr (5, [.null, .null, .int 0, .int 0, .int 0]))] (fun (v : Option Value) (u : (Nat → Nat) × (Nat → Nat → Int32) × (Nat → Nat → Int64)) => v = none) (fun u => [(h0, .inr (5, [.ref h1, .null, .int 0, .int 0, .int 0]))]) := by
  intro sz
  refine Met.ofW (cc := cX8_init) (maxL := 2) (ret := none) (by decide) rfl ?_
  intro p e s m args below meth c s₁ B hml hv
  obtain ⟨rfl, hsz, hP, hD0, hE, hX⟩ := hv
  have hx := B.exec
  have hb := B.bytes
  have hr := B.returns
  have hts := atoms_spec (ws := Cond.code yX8_init cX8_init 2 none :: pw) B.pre
  have hq : ∀ w ∈ pw, w.before _ s = true := fun w h => hts w (List.mem_cons_of_mem _ h)
  have hown : s.vm.findClass RX8 = some m.cls := findClass_of_methodNamed B.named
  have hlocks := B.notSynchronized
  have hin : meth.name = "<init>" := (name_of_methodNamed B.named B.method).1
  subst hsz
  have hD := hD0.self (sz := s.heap.size)
  have hA : ∀ q : Nat, s.heap.size ≤ q → va_A [(h0, .inr (5, [.null, .null, .int 0, .int 0, .int 0]))] s.heap.size q := fun q h => Or.inr h
  have hP : va_P G.1 pCl [(h0, .inr (5, [.null, .null, .int 0, .int 0, .int 0]))] s.heap := hP
  generalize va_A [(h0, .inr (5, [.null, .null, .int 0, .int 0, .int 0]))] s.heap.size = A at hD hE hA ⊢
  have hS : va_S A s.heap s.heap [] := va_S.rf
  have hl := lv_entry ([.ref h0, .ref h1]) (n := 2) (Nat.le_of_ble_eq_true rfl)
  rw [lg_entry_eq]
  generalize (lg_sl ([.ref h0, .ref h1]) ++ List.replicate (2 - (lg_sl ([.ref h0, .ref h1])).length) Slot.unset).toArray = ls at hl ⊢
  have hl : lv_has ls 2 [(0, .ref h0), (1, .ref h1)] := hl
  refine lv_aload_n hx hb dX8_init_0 rfl (lv_at hl 0 rfl) ?_
  refine W.objInit hx hb hown (hq _ pw_773) (hq _ pw_2) (hq _ pw_3) rfl (by rw [hml]; exact hl.1) rfl dX8_init_1 (Nat.le_of_ble_eq_true rfl) (Nat.le_of_ble_eq_true rfl) ?_
  refine W.eq (g2 := F0 m 4 ls []) rfl ?_
  refine lv_aload_n hx hb dX8_init_4 rfl (lv_at hl 0 rfl) ?_
  refine lv_aload_n hx hb dX8_init_5 rfl (lv_at hl 1 rfl) ?_
  refine va_putF (D := G.1) (ci := 5) (v := .ref h1) (ty := (.object "JinjaTongue$Text")) (C := RX8) (T := TX8) (N := 5) hx hb hq pin_wsX80 tyX8 tyX8_ok nmX8 hown hE.1.1 hP hD hS 0 rfl rfl 0 (by decide) (hq _ pw_774) (fun _ h9 => h9) rfl hin rfl (by decide +kernel) rfl rfl (Nat.le_of_ble_eq_true rfl) dX8_init_6 (fun H locs hP hD hS => ?_)
  have hP : va_P G.1 pCl [(h0, .inr (5, [.ref h1, .null, .int 0, .int 0, .int 0]))] H := hP
  have hD : va_D A [(h0, .inr (5, [.ref h1, .null, .int 0, .int 0, .int 0]))] := hD
  refine W.widen (k := 0) (n := 0) (Nat.le_of_ble_eq_true rfl) (Nat.le_of_ble_eq_true rfl) ?_
  exact W.vret hx hb hr (fun t ht hW => ⟨⟨_, ((fun _ => 0), (fun _ => fun _ => 0), (fun _ => fun _ => 0)), rfl, rfl, by rw [ht]; exact hP.sub [0] rfl, hD.sub [0] (by decide) rfl⟩, hS.F ht⟩) hS.2.2 dX8_init_9
theorem dX0_init_0 : decode cX0_init 0 = .ok (.aload_n 0, 1) := by decide +kernel
theorem dX0_init_1 : decode cX0_init 1 = .ok (.invokespecial 3, 3) := by decide +kernel
theorem dX0_init_4 : decode cX0_init 4 = .ok (.aload_n 0, 1) := by decide +kernel
theorem dX0_init_5 : decode cX0_init 5 = .ok (.aload_n 1, 1) := by decide +kernel
theorem dX0_init_6 : decode cX0_init 6 = .ok (.putfield 9, 3) := by decide +kernel
theorem dX0_init_9 : decode cX0_init 9 = .ok (.aload_n 0, 1) := by decide +kernel
theorem dX0_init_10 : decode cX0_init 10 = .ok (.aload_n 2, 1) := by decide +kernel
theorem dX0_init_11 : decode cX0_init 11 = .ok (.putfield 15, 3) := by decide +kernel
theorem dX0_init_14 : decode cX0_init 14 = .ok (.aload_n 0, 1) := by decide +kernel
theorem dX0_init_15 : decode cX0_init 15 = .ok (.bipush 30, 2) := by decide +kernel
theorem dX0_init_17 : decode cX0_init 17 = .ok (.newarray .int, 2) := by decide +kernel
theorem dX0_init_19 : decode cX0_init 19 = .ok (.putfield 19, 3) := by decide +kernel
theorem dX0_init_22 : decode cX0_init 22 = .ok (.aload_n 0, 1) := by decide +kernel
theorem dX0_init_23 : decode cX0_init 23 = .ok (.bipush 30, 2) := by decide +kernel
theorem dX0_init_25 : decode cX0_init 25 = .ok (.newarray .int, 2) := by decide +kernel
theorem dX0_init_27 : decode cX0_init 27 = .ok (.putfield 23, 3) := by decide +kernel
theorem dX0_init_30 : decode cX0_init 30 = .ok (.aload_n 0, 1) := by decide +kernel
theorem dX0_init_31 : decode cX0_init 31 = .ok (.bipush 30, 2) := by decide +kernel
theorem dX0_init_33 : decode cX0_init 33 = .ok (.newarray .int, 2) := by decide +kernel
theorem dX0_init_35 : decode cX0_init 35 = .ok (.putfield 26, 3) := by decide +kernel
theorem dX0_init_38 : decode cX0_init 38 = .ok (.return_, 1) := by decide +kernel
set_option maxHeartbeats 1000000 in
set_option maxRecDepth 100000 in
/-- Bodies(text, code) -/
theorem c_Bodies_init (l : Launch) (G : pT) (h0 : Nat) (h1 : Nat) (h2 : Nat) : PM l G pX0 yX0_init cX0_init 3 none ({ frames := 2, cells := 3, slots := 90, locals := 60 }) [.ref h0, .ref h1, .ref h2] [(h0, .inr (0, [.null, .null, .null, .null, .null, .int 0, .null, .null, .int 0, .int 0, .int 0, .null, .int 0]))] (fun (v : Option Value) (u : (Nat → Nat) × (Nat → Nat → Int32) × (Nat → Nat → Int64)) => v = none) (fun u => [(h0, .inr (0, [.ref h1, .ref h2, .ref (u.1 0), .ref (u.1 1), .ref (u.1 2), .int 0, .null, .null, .int 0, .int 0, .int 0, .null, .int 0])), ((u.1 0), .inl (G.2.1 0, 30, .inl (fun _ => 0))), ((u.1 1), .inl (G.2.1 0, 30, .inl (fun _ => 0))), ((u.1 2), .inl (G.2.1 0, 30, .inl (fun _ => 0)))]) := by
  intro sz
  refine Met.ofW (cc := cX0_init) (maxL := 3) (ret := none) (by decide) rfl ?_
  intro p e s m args below meth c s₁ B hml hv
  obtain ⟨rfl, hsz, hP, hD0, hE, hX⟩ := hv
  have hx := B.exec
  have hb := B.bytes
  have hr := B.returns
  have hts := atoms_spec (ws := Cond.code yX0_init cX0_init 3 none :: pw) B.pre
  have hq : ∀ w ∈ pw, w.before _ s = true := fun w h => hts w (List.mem_cons_of_mem _ h)
  have hown : s.vm.findClass RX0 = some m.cls := findClass_of_methodNamed B.named
  have hlocks := B.notSynchronized
  have hin : meth.name = "<init>" := (name_of_methodNamed B.named B.method).1
  subst hsz
  have hD := hD0.self (sz := s.heap.size)
  have hA : ∀ q : Nat, s.heap.size ≤ q → va_A [(h0, .inr (0, [.null, .null, .null, .null, .null, .int 0, .null, .null, .int 0, .int 0, .int 0, .null, .int 0]))] s.heap.size q := fun q h => Or.inr h
  have hP : va_P G.1 pCl [(h0, .inr (0, [.null, .null, .null, .null, .null, .int 0, .null, .null, .int 0, .int 0, .int 0, .null, .int 0]))] s.heap := hP
  generalize va_A [(h0, .inr (0, [.null, .null, .null, .null, .null, .int 0, .null, .null, .int 0, .int 0, .int 0, .null, .int 0]))] s.heap.size = A at hD hE hA ⊢
  have hS : va_S A s.heap s.heap [] := va_S.rf
  have hl := lv_entry ([.ref h0, .ref h1, .ref h2]) (n := 3) (Nat.le_of_ble_eq_true rfl)
  rw [lg_entry_eq]
  generalize (lg_sl ([.ref h0, .ref h1, .ref h2]) ++ List.replicate (3 - (lg_sl ([.ref h0, .ref h1, .ref h2])).length) Slot.unset).toArray = ls at hl ⊢
  have hl : lv_has ls 3 [(0, .ref h0), (1, .ref h1), (2, .ref h2)] := hl
  refine lv_aload_n hx hb dX0_init_0 rfl (lv_at hl 0 rfl) ?_
  refine W.objInit hx hb hown (hq _ pw_1) (hq _ pw_2) (hq _ pw_3) rfl (by rw [hml]; exact hl.1) rfl dX0_init_1 (Nat.le_of_ble_eq_true rfl) (Nat.le_of_ble_eq_true rfl) ?_
  refine W.eq (g2 := F0 m 4 ls []) rfl ?_
  refine lv_aload_n hx hb dX0_init_4 rfl (lv_at hl 0 rfl) ?_
  refine lv_aload_n hx hb dX0_init_5 rfl (lv_at hl 1 rfl) ?_
  refine va_putF (D := G.1) (ci := 0) (v := .ref h1) (ty := (.object "JinjaTongue$Text")) (C := RX0) (T := TX0) (N := 13) hx hb hq pin_wsX00 tyX0 tyX0_ok nmX0 hown hE.1.1 hP hD hS 0 rfl rfl 0 (by decide) (hq _ pw_4) (fun _ h9 => h9) rfl hin rfl (by decide +kernel) rfl rfl (Nat.le_of_ble_eq_true rfl) dX0_init_6 (fun H locs hP hD hS => ?_)
  have hP : va_P G.1 pCl [(h0, .inr (0, [.ref h1, .null, .null, .null, .null, .int 0, .null, .null, .int 0, .int 0, .int 0, .null, .int 0]))] H := hP
  have hD : va_D A [(h0, .inr (0, [.ref h1, .null, .null, .null, .null, .int 0, .null, .null, .int 0, .int 0, .int 0, .null, .int 0]))] := hD
  refine lv_aload_n hx hb dX0_init_9 rfl (lv_at hl 0 rfl) ?_
  refine lv_aload_n hx hb dX0_init_10 rfl (lv_at hl 2 rfl) ?_
  refine va_putF (D := G.1) (ci := 0) (v := .ref h2) (ty := (.object "JinjaTongue$Code")) (C := RX0) (T := TX0) (N := 13) hx hb hq pin_wsX00 tyX0 tyX0_ok nmX0 hown hE.1.1 hP hD hS 0 rfl rfl 1 (by decide) (hq _ pw_5) (fun _ h9 => h9) rfl hin rfl (by decide +kernel) rfl rfl (Nat.le_of_ble_eq_true rfl) dX0_init_11 (fun H locs hP hD hS => ?_)
  have hP : va_P G.1 pCl [(h0, .inr (0, [.ref h1, .ref h2, .null, .null, .null, .int 0, .null, .null, .int 0, .int 0, .int 0, .null, .int 0]))] H := hP
  have hD : va_D A [(h0, .inr (0, [.ref h1, .ref h2, .null, .null, .null, .int 0, .null, .null, .int 0, .int 0, .int 0, .null, .int 0]))] := hD
  refine lv_aload_n hx hb dX0_init_14 rfl (lv_at hl 0 rfl) ?_
  refine lv_bipush (v := 30) hx hb dX0_init_15 (by decide) ?_
  refine pn_newa (G := G) (atype := .int) (a0 := (30, .inl (fun _ => 0))) (N' := 30) hx hb (hq _ pw_6) rfl hE.1.2.1 hP hD hS hA (fun _ => rfl) (by decide) (by decide) (by decide) (Nat.le_of_ble_eq_true rfl) (Nat.le_of_ble_eq_true rfl) dX0_init_17 (fun q1 H hP hD hS => ?_)
  have hP : va_P G.1 pCl [(h0, .inr (0, [.ref h1, .ref h2, .null, .null, .null, .int 0, .null, .null, .int 0, .int 0, .int 0, .null, .int 0])), (q1, .inl (G.2.1 0, 30, .inl (fun _ => 0)))] H := hP
  have hD : va_D A [(h0, .inr (0, [.ref h1, .ref h2, .null, .null, .null, .int 0, .null, .null, .int 0, .int 0, .int 0, .null, .int 0])), (q1, .inl (G.2.1 0, 30, .inl (fun _ => 0)))] := hD
  refine W.widen (k := 1) (n := 30) (Nat.le_of_ble_eq_true rfl) (Nat.le_of_ble_eq_true rfl) ?_
  refine va_putF (D := G.1) (ci := 0) (v := .ref q1) (ty := (.array .int)) (C := RX0) (T := TX0) (N := 13) hx hb hq pin_wsX00 tyX0 tyX0_ok nmX0 hown hE.1.1 hP hD hS 0 rfl rfl 2 (by decide) (hq _ pw_7) (fun _ h9 => h9) rfl hin rfl (by decide +kernel) rfl rfl (Nat.le_of_ble_eq_true rfl) dX0_init_19 (fun H locs hP hD hS => ?_)
  have hP : va_P G.1 pCl [(h0, .inr (0, [.ref h1, .ref h2, .ref q1, .null, .null, .int 0, .null, .null, .int 0, .int 0, .int 0, .null, .int 0])), (q1, .inl (G.2.1 0, 30, .inl (fun _ => 0)))] H := hP
  have hD : va_D A [(h0, .inr (0, [.ref h1, .ref h2, .ref q1, .null, .null, .int 0, .null, .null, .int 0, .int 0, .int 0, .null, .int 0])), (q1, .inl (G.2.1 0, 30, .inl (fun _ => 0)))] := hD
  refine lv_aload_n hx hb dX0_init_22 rfl (lv_at hl 0 rfl) ?_
  refine lv_bipush (v := 30) hx hb dX0_init_23 (by decide) ?_
  refine pn_newa (G := G) (atype := .int) (a0 := (30, .inl (fun _ => 0))) (N' := 30) hx hb (hq _ pw_6) rfl hE.1.2.1 hP hD hS hA (fun _ => rfl) (by decide) (by decide) (by decide) (Nat.le_of_ble_eq_true rfl) (Nat.le_of_ble_eq_true rfl) dX0_init_25 (fun q2 H hP hD hS => ?_)
  have hP : va_P G.1 pCl [(h0, .inr (0, [.ref h1, .ref h2, .ref q1, .null, .null, .int 0, .null, .null, .int 0, .int 0, .int 0, .null, .int 0])), (q1, .inl (G.2.1 0, 30, .inl (fun _ => 0))), (q2, .inl (G.2.1 0, 30, .inl (fun _ => 0)))] H := hP
  have hD : va_D A [(h0, .inr (0, [.ref h1, .ref h2, .ref q1, .null, .null, .int 0, .null, .null, .int 0, .int 0, .int 0, .null, .int 0])), (q1, .inl (G.2.1 0, 30, .inl (fun _ => 0))), (q2, .inl (G.2.1 0, 30, .inl (fun _ => 0)))] := hD
  refine W.widen (k := 2) (n := 60) (Nat.le_of_ble_eq_true rfl) (Nat.le_of_ble_eq_true rfl) ?_
  refine va_putF (D := G.1) (ci := 0) (v := .ref q2) (ty := (.array .int)) (C := RX0) (T := TX0) (N := 13) hx hb hq pin_wsX00 tyX0 tyX0_ok nmX0 hown hE.1.1 hP hD hS 0 rfl rfl 3 (by decide) (hq _ pw_8) (fun _ h9 => h9) rfl hin rfl (by decide +kernel) rfl rfl (Nat.le_of_ble_eq_true rfl) dX0_init_27 (fun H locs hP hD hS => ?_)
  have hP : va_P G.1 pCl [(h0, .inr (0, [.ref h1, .ref h2, .ref q1, .ref q2, .null, .int 0, .null, .null, .int 0, .int 0, .int 0, .null, .int 0])), (q1, .inl (G.2.1 0, 30, .inl (fun _ => 0))), (q2, .inl (G.2.1 0, 30, .inl (fun _ => 0)))] H := hP
  have hD : va_D A [(h0, .inr (0, [.ref h1, .ref h2, .ref q1, .ref q2, .null, .int 0, .null, .null, .int 0, .int 0, .int 0, .null, .int 0])), (q1, .inl (G.2.1 0, 30, .inl (fun _ => 0))), (q2, .inl (G.2.1 0, 30, .inl (fun _ => 0)))] := hD
  refine lv_aload_n hx hb dX0_init_30 rfl (lv_at hl 0 rfl) ?_
  refine lv_bipush (v := 30) hx hb dX0_init_31 (by decide) ?_
  refine pn_newa (G := G) (atype := .int) (a0 := (30, .inl (fun _ => 0))) (N' := 30) hx hb (hq _ pw_6) rfl hE.1.2.1 hP hD hS hA (fun _ => rfl) (by decide) (by decide) (by decide) (Nat.le_of_ble_eq_true rfl) (Nat.le_of_ble_eq_true rfl) dX0_init_33 (fun q3 H hP hD hS => ?_)
  have hP : va_P G.1 pCl [(h0, .inr (0, [.ref h1, .ref h2, .ref q1, .ref q2, .null, .int 0, .null, .null, .int 0, .int 0, .int 0, .null, .int 0])), (q1, .inl (G.2.1 0, 30, .inl (fun _ => 0))), (q2, .inl (G.2.1 0, 30, .inl (fun _ => 0))), (q3, .inl (G.2.1 0, 30, .inl (fun _ => 0)))] H := hP
  have hD : va_D A [(h0, .inr (0, [.ref h1, .ref h2, .ref q1, .ref q2, .null, .int 0, .null, .null, .int 0, .int 0, .int 0, .null, .int 0])), (q1, .inl (G.2.1 0, 30, .inl (fun _ => 0))), (q2, .inl (G.2.1 0, 30, .inl (fun _ => 0))), (q3, .inl (G.2.1 0, 30, .inl (fun _ => 0)))] := hD
  refine W.widen (k := 3) (n := 90) (Nat.le_of_ble_eq_true rfl) (Nat.le_of_ble_eq_true rfl) ?_
  refine va_putF (D := G.1) (ci := 0) (v := .ref q3) (ty := (.array .int)) (C := RX0) (T := TX0) (N := 13) hx hb hq pin_wsX00 tyX0 tyX0_ok nmX0 hown hE.1.1 hP hD hS 0 rfl rfl 4 (by decide) (hq _ pw_9) (fun _ h9 => h9) rfl hin rfl (by decide +kernel) rfl rfl (Nat.le_of_ble_eq_true rfl) dX0_init_35 (fun H locs hP hD hS => ?_)
  have hP : va_P G.1 pCl [(h0, .inr (0, [.ref h1, .ref h2, .ref q1, .ref q2, .ref q3, .int 0, .null, .null, .int 0, .int 0, .int 0, .null, .int 0])), (q1, .inl (G.2.1 0, 30, .inl (fun _ => 0))), (q2, .inl (G.2.1 0, 30, .inl (fun _ => 0))), (q3, .inl (G.2.1 0, 30, .inl (fun _ => 0)))] H := hP
  have hD : va_D A [(h0, .inr (0, [.ref h1, .ref h2, .ref q1, .ref q2, .ref q3, .int 0, .null, .null, .int 0, .int 0, .int 0, .null, .int 0])), (q1, .inl (G.2.1 0, 30, .inl (fun _ => 0))), (q2, .inl (G.2.1 0, 30, .inl (fun _ => 0))), (q3, .inl (G.2.1 0, 30, .inl (fun _ => 0)))] := hD
  refine W.widen (k := 3) (n := 90) (Nat.le_of_ble_eq_true rfl) (Nat.le_of_ble_eq_true rfl) ?_
  exact W.vret hx hb hr (fun t ht hW => ⟨⟨_, ((fun k => match k with | 0 => q1 | 1 => q2 | _ => q3), (fun _ => fun _ => 0), (fun _ => fun _ => 0)), rfl, rfl, by rw [ht]; exact hP.sub [0, 1, 2, 3] rfl, hD.sub [0, 1, 2, 3] (by decide) rfl⟩, hS.F ht⟩) hS.2.2 dX0_init_38
theorem dX3_init_0 : decode cX3_init 0 = .ok (.aload_n 0, 1) := by decide +kernel
theorem dX3_init_1 : decode cX3_init 1 = .ok (.invokespecial 7, 3) := by decide +kernel
theorem dX3_init_4 : decode cX3_init 4 = .ok (.aload_n 0, 1) := by decide +kernel
theorem dX3_init_5 : decode cX3_init 5 = .ok (.sipush 3008, 3) := by decide +kernel
theorem dX3_init_8 : decode cX3_init 8 = .ok (.newarray .long, 2) := by decide +kernel
theorem dX3_init_10 : decode cX3_init 10 = .ok (.putfield 13, 3) := by decide +kernel
theorem dX3_init_13 : decode cX3_init 13 = .ok (.aload_n 0, 1) := by decide +kernel
theorem dX3_init_14 : decode cX3_init 14 = .ok (.sipush 3008, 3) := by decide +kernel
theorem dX3_init_17 : decode cX3_init 17 = .ok (.newarray .long, 2) := by decide +kernel
theorem dX3_init_19 : decode cX3_init 19 = .ok (.putfield 17, 3) := by decide +kernel
theorem dX3_init_22 : decode cX3_init 22 = .ok (.iconst 0, 1) := by decide +kernel
theorem dX3_init_23 : decode cX3_init 23 = .ok (.istore_n 1, 1) := by decide +kernel
theorem dX3_init_24 : decode cX3_init 24 = .ok (.iload_n 1, 1) := by decide +kernel
theorem dX3_init_25 : decode cX3_init 25 = .ok (.bipush 7, 2) := by decide +kernel
theorem dX3_init_27 : decode cX3_init 27 = .ok (.if_icmp .ge 33, 3) := by decide +kernel
theorem dX3_init_30 : decode cX3_init 30 = .ok (.aload_n 0, 1) := by decide +kernel
theorem dX3_init_31 : decode cX3_init 31 = .ok (.getfield 13, 3) := by decide +kernel
theorem dX3_init_34 : decode cX3_init 34 = .ok (.iload_n 1, 1) := by decide +kernel
theorem dX3_init_35 : decode cX3_init 35 = .ok (.sipush 256, 3) := by decide +kernel
theorem dX3_init_38 : decode cX3_init 38 = .ok (.iload_n 1, 1) := by decide +kernel
theorem dX3_init_39 : decode cX3_init 39 = .ok (.ior, 1) := by decide +kernel
theorem dX3_init_40 : decode cX3_init 40 = .ok (.i2l, 1) := by decide +kernel
theorem dX3_init_41 : decode cX3_init 41 = .ok (.lastore, 1) := by decide +kernel
theorem dX3_init_42 : decode cX3_init 42 = .ok (.aload_n 0, 1) := by decide +kernel
theorem dX3_init_43 : decode cX3_init 43 = .ok (.getfield 17, 3) := by decide +kernel
theorem dX3_init_46 : decode cX3_init 46 = .ok (.iload_n 1, 1) := by decide +kernel
theorem dX3_init_47 : decode cX3_init 47 = .ok (.aload_n 0, 1) := by decide +kernel
theorem dX3_init_48 : decode cX3_init 48 = .ok (.getfield 13, 3) := by decide +kernel
theorem dX3_init_51 : decode cX3_init 51 = .ok (.iload_n 1, 1) := by decide +kernel
theorem dX3_init_52 : decode cX3_init 52 = .ok (.laload, 1) := by decide +kernel
theorem dX3_init_53 : decode cX3_init 53 = .ok (.lastore, 1) := by decide +kernel
theorem dX3_init_54 : decode cX3_init 54 = .ok (.iinc 1 1, 3) := by decide +kernel
theorem dX3_init_57 : decode cX3_init 57 = .ok (.goto (-33), 3) := by decide +kernel
theorem dX3_init_60 : decode cX3_init 60 = .ok (.aload_n 0, 1) := by decide +kernel
theorem dX3_init_61 : decode cX3_init 61 = .ok (.bipush 8, 2) := by decide +kernel
theorem dX3_init_63 : decode cX3_init 63 = .ok (.putfield 20, 3) := by decide +kernel
theorem dX3_init_66 : decode cX3_init 66 = .ok (.return_, 1) := by decide +kernel
set_option maxHeartbeats 1000000 in
set_option maxRecDepth 100000 in
/-- Heap() -/
theorem c_Heap_init (l : Launch) (G : pT) (h0 : Nat) : PM l G pX0 yX3_init cX3_init 2 none ({ frames := 2, cells := 2, slots := 6016, locals := 60 }) [.ref h0] [(h0, .inr (3, [.null, .null, .int 0, .int 0, .int 0]))] (fun (v : Option Value) (u : (Nat → Nat) × (Nat → Nat → Int32) × (Nat → Nat → Int64)) => v = none) (fun u => [(h0, .inr (3, [.ref (u.1 0), .ref (u.1 1), .int 8, .int 0, .int 0])), ((u.1 0), .inl (G.2.1 2, 3008, .inr (.inl (u.2.2 0)))), ((u.1 1), .inl (G.2.1 2, 3008, .inr (.inl (u.2.2 1))))]) := by
  intro sz
  refine Met.ofW (cc := cX3_init) (maxL := 2) (ret := none) (by decide) rfl ?_
  intro p e s m args below meth c s₁ B hml hv
  obtain ⟨rfl, hsz, hP, hD0, hE, hX⟩ := hv
  have hx := B.exec
  have hb := B.bytes
  have hr := B.returns
  have hts := atoms_spec (ws := Cond.code yX3_init cX3_init 2 none :: pw) B.pre
  have hq : ∀ w ∈ pw, w.before _ s = true := fun w h => hts w (List.mem_cons_of_mem _ h)
  have hown : s.vm.findClass RX3 = some m.cls := findClass_of_methodNamed B.named
  have hlocks := B.notSynchronized
  have hin : meth.name = "<init>" := (name_of_methodNamed B.named B.method).1
  subst hsz
  have hD := hD0.self (sz := s.heap.size)
  have hA : ∀ q : Nat, s.heap.size ≤ q → va_A [(h0, .inr (3, [.null, .null, .int 0, .int 0, .int 0]))] s.heap.size q := fun q h => Or.inr h
  have hP : va_P G.1 pCl [(h0, .inr (3, [.null, .null, .int 0, .int 0, .int 0]))] s.heap := hP
  generalize va_A [(h0, .inr (3, [.null, .null, .int 0, .int 0, .int 0]))] s.heap.size = A at hD hE hA ⊢
  have hS : va_S A s.heap s.heap [] := va_S.rf
  have hl := lv_entry ([.ref h0]) (n := 2) (Nat.le_of_ble_eq_true rfl)
  rw [lg_entry_eq]
  generalize (lg_sl ([.ref h0]) ++ List.replicate (2 - (lg_sl ([.ref h0])).length) Slot.unset).toArray = ls at hl ⊢
  have hl : lv_has ls 2 [(0, .ref h0)] := hl
  refine lv_aload_n hx hb dX3_init_0 rfl (lv_at hl 0 rfl) ?_
  refine W.objInit hx hb hown (hq _ pw_413) (hq _ pw_2) (hq _ pw_3) rfl (by rw [hml]; exact hl.1) rfl dX3_init_1 (Nat.le_of_ble_eq_true rfl) (Nat.le_of_ble_eq_true rfl) ?_
  refine W.eq (g2 := F0 m 4 ls []) rfl ?_
  refine lv_aload_n hx hb dX3_init_4 rfl (lv_at hl 0 rfl) ?_
  refine lv_sipush (v := 3008) hx hb dX3_init_5 (by decide) ?_
  refine pn_newa (G := G) (atype := .long) (a0 := (3008, .inr (.inl (fun _ => 0)))) (N' := 3008) hx hb (hq _ pw_414) rfl hE.1.2.2.2.1 hP hD hS hA (fun _ => rfl) (by decide) (by decide) (by decide) (Nat.le_of_ble_eq_true rfl) (Nat.le_of_ble_eq_true rfl) dX3_init_8 (fun q1 H hP hD hS => ?_)
  have hP : va_P G.1 pCl [(h0, .inr (3, [.null, .null, .int 0, .int 0, .int 0])), (q1, .inl (G.2.1 2, 3008, .inr (.inl (fun _ => 0))))] H := hP
  have hD : va_D A [(h0, .inr (3, [.null, .null, .int 0, .int 0, .int 0])), (q1, .inl (G.2.1 2, 3008, .inr (.inl (fun _ => 0))))] := hD
  refine W.widen (k := 1) (n := 3008) (Nat.le_of_ble_eq_true rfl) (Nat.le_of_ble_eq_true rfl) ?_
  refine va_put (D := G.1) (ci := 3) (v := .ref q1) (ty := (.array .long)) (C := RX3) (T := TX3) (N := 5) hx hb hq pin_wsX30 tyX3 tyX3_ok nmX3 hown hE.1.1 hP hD hS 0 rfl rfl 0 (by decide) (hq _ pw_415) (fun _ h9 => h9) rfl (by decide +kernel) rfl rfl (Nat.le_of_ble_eq_true rfl) dX3_init_10 (fun H locs hP hD hS => ?_)
  have hP : va_P G.1 pCl [(h0, .inr (3, [.ref q1, .null, .int 0, .int 0, .int 0])), (q1, .inl (G.2.1 2, 3008, .inr (.inl (fun _ => 0))))] H := hP
  have hD : va_D A [(h0, .inr (3, [.ref q1, .null, .int 0, .int 0, .int 0])), (q1, .inl (G.2.1 2, 3008, .inr (.inl (fun _ => 0))))] := hD
  refine lv_aload_n hx hb dX3_init_13 rfl (lv_at hl 0 rfl) ?_
  refine lv_sipush (v := 3008) hx hb dX3_init_14 (by decide) ?_
  refine pn_newa (G := G) (atype := .long) (a0 := (3008, .inr (.inl (fun _ => 0)))) (N' := 3008) hx hb (hq _ pw_414) rfl hE.1.2.2.2.1 hP hD hS hA (fun _ => rfl) (by decide) (by decide) (by decide) (Nat.le_of_ble_eq_true rfl) (Nat.le_of_ble_eq_true rfl) dX3_init_17 (fun q2 H hP hD hS => ?_)
  have hP : va_P G.1 pCl [(h0, .inr (3, [.ref q1, .null, .int 0, .int 0, .int 0])), (q1, .inl (G.2.1 2, 3008, .inr (.inl (fun _ => 0)))), (q2, .inl (G.2.1 2, 3008, .inr (.inl (fun _ => 0))))] H := hP
  have hD : va_D A [(h0, .inr (3, [.ref q1, .null, .int 0, .int 0, .int 0])), (q1, .inl (G.2.1 2, 3008, .inr (.inl (fun _ => 0)))), (q2, .inl (G.2.1 2, 3008, .inr (.inl (fun _ => 0))))] := hD
  refine W.widen (k := 2) (n := 6016) (Nat.le_of_ble_eq_true rfl) (Nat.le_of_ble_eq_true rfl) ?_
  refine va_put (D := G.1) (ci := 3) (v := .ref q2) (ty := (.array .long)) (C := RX3) (T := TX3) (N := 5) hx hb hq pin_wsX30 tyX3 tyX3_ok nmX3 hown hE.1.1 hP hD hS 0 rfl rfl 1 (by decide) (hq _ pw_416) (fun _ h9 => h9) rfl (by decide +kernel) rfl rfl (Nat.le_of_ble_eq_true rfl) dX3_init_19 (fun H locs hP hD hS => ?_)
  have hP : va_P G.1 pCl [(h0, .inr (3, [.ref q1, .ref q2, .int 0, .int 0, .int 0])), (q1, .inl (G.2.1 2, 3008, .inr (.inl (fun _ => 0)))), (q2, .inl (G.2.1 2, 3008, .inr (.inl (fun _ => 0))))] H := hP
  have hD : va_D A [(h0, .inr (3, [.ref q1, .ref q2, .int 0, .int 0, .int 0])), (q1, .inl (G.2.1 2, 3008, .inr (.inl (fun _ => 0)))), (q2, .inl (G.2.1 2, 3008, .inr (.inl (fun _ => 0))))] := hD
  refine lv_iconst (v := 0) hx hb dX3_init_22 (by decide) ?_
  refine lv_istore_n (lv' := [(1, .int 0), (0, .ref h0)]) hx hb dX3_init_23 rfl hl (by decide) rfl (fun ls hl => ?_)
  refine lv_iload_n hx hb dX3_init_24 rfl (lv_at hl 0 rfl) ?_
  refine lv_bipush (v := 7) hx hb dX3_init_25 (by decide) ?_
  refine lv_icmp_ge (tgt := 60) hx hb dX3_init_27 (by decide) (fun c3 => absurd c3 (by decide)) (fun c3 => ?_)
  refine lv_aload_n hx hb dX3_init_30 rfl (lv_at hl 1 rfl) ?_
  refine va_get (D := G.1) (ci := 3) (v := .ref q1) (C := RX3) (T := TX3) (N := 5) hx hb hq pin_wsX30 hown hE.1.1 hP 0 rfl rfl 0 (by decide) (hq _ pw_415) (fun _ h9 => h9) rfl dX3_init_31 ?_
  refine lv_iload_n hx hb dX3_init_34 rfl (lv_at hl 0 rfl) ?_
  refine lv_sipush (v := 256) hx hb dX3_init_35 (by decide) ?_
  refine lv_iload_n hx hb dX3_init_38 rfl (lv_at hl 0 rfl) ?_
  refine lv_ior hx hb dX3_init_39 ?_
  refine lv_topi (fun x4 e5 => ?_)
  obtain rfl : x4 = 256 := e5.trans (by decide)
  refine lv_i2l (v := 256) hx hb dX3_init_40 (by decide) ?_
  refine va_last hx hb hE.1.1 hP hD hS 1 2 rfl rfl (by unfold vp_in; decide) dX3_init_41 (fun H locs hP hD hS => ?_)
  have hP : va_P G.1 pCl [(h0, .inr (3, [.ref q1, .ref q2, .int 0, .int 0, .int 0])), (q1, .inl (G.2.1 2, 3008, .inr (.inl (vp_updL (fun _ => 0) (Int32.toNatClampNeg 0) 256)))), (q2, .inl (G.2.1 2, 3008, .inr (.inl (fun _ => 0))))] H := hP
  have hD : va_D A [(h0, .inr (3, [.ref q1, .ref q2, .int 0, .int 0, .int 0])), (q1, .inl (G.2.1 2, 3008, .inr (.inl (vp_updL (fun _ => 0) (Int32.toNatClampNeg 0) 256)))), (q2, .inl (G.2.1 2, 3008, .inr (.inl (fun _ => 0))))] := hD
  generalize (vp_updL (fun _ => 0) (Int32.toNatClampNeg 0) 256) = g6 at hP hD
  refine lv_aload_n hx hb dX3_init_42 rfl (lv_at hl 1 rfl) ?_
  refine va_get (D := G.1) (ci := 3) (v := .ref q2) (C := RX3) (T := TX3) (N := 5) hx hb hq pin_wsX30 hown hE.1.1 hP 0 rfl rfl 1 (by decide) (hq _ pw_416) (fun _ h9 => h9) rfl dX3_init_43 ?_
  refine lv_iload_n hx hb dX3_init_46 rfl (lv_at hl 0 rfl) ?_
  refine lv_aload_n hx hb dX3_init_47 rfl (lv_at hl 1 rfl) ?_
  refine va_get (D := G.1) (ci := 3) (v := .ref q1) (C := RX3) (T := TX3) (N := 5) hx hb hq pin_wsX30 hown hE.1.1 hP 0 rfl rfl 0 (by decide) (hq _ pw_415) (fun _ h9 => h9) rfl dX3_init_48 ?_
  refine lv_iload_n hx hb dX3_init_51 rfl (lv_at hl 0 rfl) ?_
  refine va_lald hx hb hE.1.1 hP 1 2 rfl rfl (by unfold vp_in; decide) dX3_init_52 ?_
  refine lv_topl (fun x7 e8 => ?_)
  refine va_last hx hb hE.1.1 hP hD hS 2 2 rfl rfl (by unfold vp_in; decide) dX3_init_53 (fun H locs hP hD hS => ?_)
  have hP : va_P G.1 pCl [(h0, .inr (3, [.ref q1, .ref q2, .int 0, .int 0, .int 0])), (q1, .inl (G.2.1 2, 3008, .inr (.inl g6))), (q2, .inl (G.2.1 2, 3008, .inr (.inl (vp_updL (fun _ => 0) (Int32.toNatClampNeg 0) x7))))] H := hP
  have hD : va_D A [(h0, .inr (3, [.ref q1, .ref q2, .int 0, .int 0, .int 0])), (q1, .inl (G.2.1 2, 3008, .inr (.inl g6))), (q2, .inl (G.2.1 2, 3008, .inr (.inl (vp_updL (fun _ => 0) (Int32.toNatClampNeg 0) x7))))] := hD
  generalize (vp_updL (fun _ => 0) (Int32.toNatClampNeg 0) x7) = g9 at hP hD
  refine lv_iinc (v := 1) (lv' := [(1, .int 1), (0, .ref h0)]) hx hb dX3_init_54 hl (k := 0) rfl (by decide) (by decide) rfl (fun ls hl => ?_)
  refine lv_goto (tgt := 24) hx hb dX3_init_57 (by decide) ?_
  refine lv_iload_n hx hb dX3_init_24 rfl (lv_at hl 0 rfl) ?_
  refine lv_bipush (v := 7) hx hb dX3_init_25 (by decide) ?_
  refine lv_icmp_ge (tgt := 60) hx hb dX3_init_27 (by decide) (fun c10 => absurd c10 (by decide)) (fun c10 => ?_)
  refine lv_aload_n hx hb dX3_init_30 rfl (lv_at hl 1 rfl) ?_
  refine va_get (D := G.1) (ci := 3) (v := .ref q1) (C := RX3) (T := TX3) (N := 5) hx hb hq pin_wsX30 hown hE.1.1 hP 0 rfl rfl 0 (by decide) (hq _ pw_415) (fun _ h9 => h9) rfl dX3_init_31 ?_
  refine lv_iload_n hx hb dX3_init_34 rfl (lv_at hl 0 rfl) ?_
  refine lv_sipush (v := 256) hx hb dX3_init_35 (by decide) ?_
  refine lv_iload_n hx hb dX3_init_38 rfl (lv_at hl 0 rfl) ?_
  refine lv_ior hx hb dX3_init_39 ?_
  refine lv_topi (fun x11 e12 => ?_)
  obtain rfl : x11 = 257 := e12.trans (by decide)
  refine lv_i2l (v := 257) hx hb dX3_init_40 (by decide) ?_
  refine va_last hx hb hE.1.1 hP hD hS 1 2 rfl rfl (by unfold vp_in; decide) dX3_init_41 (fun H locs hP hD hS => ?_)
  have hP : va_P G.1 pCl [(h0, .inr (3, [.ref q1, .ref q2, .int 0, .int 0, .int 0])), (q1, .inl (G.2.1 2, 3008, .inr (.inl (vp_updL g6 (Int32.toNatClampNeg 1) 257)))), (q2, .inl (G.2.1 2, 3008, .inr (.inl g9)))] H := hP
  have hD : va_D A [(h0, .inr (3, [.ref q1, .ref q2, .int 0, .int 0, .int 0])), (q1, .inl (G.2.1 2, 3008, .inr (.inl (vp_updL g6 (Int32.toNatClampNeg 1) 257)))), (q2, .inl (G.2.1 2, 3008, .inr (.inl g9)))] := hD
  generalize (vp_updL g6 (Int32.toNatClampNeg 1) 257) = g13 at hP hD
  refine lv_aload_n hx hb dX3_init_42 rfl (lv_at hl 1 rfl) ?_
  refine va_get (D := G.1) (ci := 3) (v := .ref q2) (C := RX3) (T := TX3) (N := 5) hx hb hq pin_wsX30 hown hE.1.1 hP 0 rfl rfl 1 (by decide) (hq _ pw_416) (fun _ h9 => h9) rfl dX3_init_43 ?_
  refine lv_iload_n hx hb dX3_init_46 rfl (lv_at hl 0 rfl) ?_
  refine lv_aload_n hx hb dX3_init_47 rfl (lv_at hl 1 rfl) ?_
  refine va_get (D := G.1) (ci := 3) (v := .ref q1) (C := RX3) (T := TX3) (N := 5) hx hb hq pin_wsX30 hown hE.1.1 hP 0 rfl rfl 0 (by decide) (hq _ pw_415) (fun _ h9 => h9) rfl dX3_init_48 ?_
  refine lv_iload_n hx hb dX3_init_51 rfl (lv_at hl 0 rfl) ?_
  refine va_lald hx hb hE.1.1 hP 1 2 rfl rfl (by unfold vp_in; decide) dX3_init_52 ?_
  refine lv_topl (fun x14 e15 => ?_)
  refine va_last hx hb hE.1.1 hP hD hS 2 2 rfl rfl (by unfold vp_in; decide) dX3_init_53 (fun H locs hP hD hS => ?_)
  have hP : va_P G.1 pCl [(h0, .inr (3, [.ref q1, .ref q2, .int 0, .int 0, .int 0])), (q1, .inl (G.2.1 2, 3008, .inr (.inl g13))), (q2, .inl (G.2.1 2, 3008, .inr (.inl (vp_updL g9 (Int32.toNatClampNeg 1) x14))))] H := hP
  have hD : va_D A [(h0, .inr (3, [.ref q1, .ref q2, .int 0, .int 0, .int 0])), (q1, .inl (G.2.1 2, 3008, .inr (.inl g13))), (q2, .inl (G.2.1 2, 3008, .inr (.inl (vp_updL g9 (Int32.toNatClampNeg 1) x14))))] := hD
  generalize (vp_updL g9 (Int32.toNatClampNeg 1) x14) = g16 at hP hD
  refine lv_iinc (v := 2) (lv' := [(1, .int 2), (0, .ref h0)]) hx hb dX3_init_54 hl (k := 0) rfl (by decide) (by decide) rfl (fun ls hl => ?_)
  refine lv_goto (tgt := 24) hx hb dX3_init_57 (by decide) ?_
  refine lv_iload_n hx hb dX3_init_24 rfl (lv_at hl 0 rfl) ?_
  refine lv_bipush (v := 7) hx hb dX3_init_25 (by decide) ?_
  refine lv_icmp_ge (tgt := 60) hx hb dX3_init_27 (by decide) (fun c17 => absurd c17 (by decide)) (fun c17 => ?_)
  refine lv_aload_n hx hb dX3_init_30 rfl (lv_at hl 1 rfl) ?_
  refine va_get (D := G.1) (ci := 3) (v := .ref q1) (C := RX3) (T := TX3) (N := 5) hx hb hq pin_wsX30 hown hE.1.1 hP 0 rfl rfl 0 (by decide) (hq _ pw_415) (fun _ h9 => h9) rfl dX3_init_31 ?_
  refine lv_iload_n hx hb dX3_init_34 rfl (lv_at hl 0 rfl) ?_
  refine lv_sipush (v := 256) hx hb dX3_init_35 (by decide) ?_
  refine lv_iload_n hx hb dX3_init_38 rfl (lv_at hl 0 rfl) ?_
  refine lv_ior hx hb dX3_init_39 ?_
  refine lv_topi (fun x18 e19 => ?_)
  obtain rfl : x18 = 258 := e19.trans (by decide)
  refine lv_i2l (v := 258) hx hb dX3_init_40 (by decide) ?_
  refine va_last hx hb hE.1.1 hP hD hS 1 2 rfl rfl (by unfold vp_in; decide) dX3_init_41 (fun H locs hP hD hS => ?_)
  have hP : va_P G.1 pCl [(h0, .inr (3, [.ref q1, .ref q2, .int 0, .int 0, .int 0])), (q1, .inl (G.2.1 2, 3008, .inr (.inl (vp_updL g13 (Int32.toNatClampNeg 2) 258)))), (q2, .inl (G.2.1 2, 3008, .inr (.inl g16)))] H := hP
  have hD : va_D A [(h0, .inr (3, [.ref q1, .ref q2, .int 0, .int 0, .int 0])), (q1, .inl (G.2.1 2, 3008, .inr (.inl (vp_updL g13 (Int32.toNatClampNeg 2) 258)))), (q2, .inl (G.2.1 2, 3008, .inr (.inl g16)))] := hD
  generalize (vp_updL g13 (Int32.toNatClampNeg 2) 258) = g20 at hP hD
  refine lv_aload_n hx hb dX3_init_42 rfl (lv_at hl 1 rfl) ?_
  refine va_get (D := G.1) (ci := 3) (v := .ref q2) (C := RX3) (T := TX3) (N := 5) hx hb hq pin_wsX30 hown hE.1.1 hP 0 rfl rfl 1 (by decide) (hq _ pw_416) (fun _ h9 => h9) rfl dX3_init_43 ?_
  refine lv_iload_n hx hb dX3_init_46 rfl (lv_at hl 0 rfl) ?_
  refine lv_aload_n hx hb dX3_init_47 rfl (lv_at hl 1 rfl) ?_
  refine va_get (D := G.1) (ci := 3) (v := .ref q1) (C := RX3) (T := TX3) (N := 5) hx hb hq pin_wsX30 hown hE.1.1 hP 0 rfl rfl 0 (by decide) (hq _ pw_415) (fun _ h9 => h9) rfl dX3_init_48 ?_
  refine lv_iload_n hx hb dX3_init_51 rfl (lv_at hl 0 rfl) ?_
  refine va_lald hx hb hE.1.1 hP 1 2 rfl rfl (by unfold vp_in; decide) dX3_init_52 ?_
  refine lv_topl (fun x21 e22 => ?_)
  refine va_last hx hb hE.1.1 hP hD hS 2 2 rfl rfl (by unfold vp_in; decide) dX3_init_53 (fun H locs hP hD hS => ?_)
  have hP : va_P G.1 pCl [(h0, .inr (3, [.ref q1, .ref q2, .int 0, .int 0, .int 0])), (q1, .inl (G.2.1 2, 3008, .inr (.inl g20))), (q2, .inl (G.2.1 2, 3008, .inr (.inl (vp_updL g16 (Int32.toNatClampNeg 2) x21))))] H := hP
  have hD : va_D A [(h0, .inr (3, [.ref q1, .ref q2, .int 0, .int 0, .int 0])), (q1, .inl (G.2.1 2, 3008, .inr (.inl g20))), (q2, .inl (G.2.1 2, 3008, .inr (.inl (vp_updL g16 (Int32.toNatClampNeg 2) x21))))] := hD
  generalize (vp_updL g16 (Int32.toNatClampNeg 2) x21) = g23 at hP hD
  refine lv_iinc (v := 3) (lv' := [(1, .int 3), (0, .ref h0)]) hx hb dX3_init_54 hl (k := 0) rfl (by decide) (by decide) rfl (fun ls hl => ?_)
  refine lv_goto (tgt := 24) hx hb dX3_init_57 (by decide) ?_
  refine lv_iload_n hx hb dX3_init_24 rfl (lv_at hl 0 rfl) ?_
  refine lv_bipush (v := 7) hx hb dX3_init_25 (by decide) ?_
  refine lv_icmp_ge (tgt := 60) hx hb dX3_init_27 (by decide) (fun c24 => absurd c24 (by decide)) (fun c24 => ?_)
  refine lv_aload_n hx hb dX3_init_30 rfl (lv_at hl 1 rfl) ?_
  refine va_get (D := G.1) (ci := 3) (v := .ref q1) (C := RX3) (T := TX3) (N := 5) hx hb hq pin_wsX30 hown hE.1.1 hP 0 rfl rfl 0 (by decide) (hq _ pw_415) (fun _ h9 => h9) rfl dX3_init_31 ?_
  refine lv_iload_n hx hb dX3_init_34 rfl (lv_at hl 0 rfl) ?_
  refine lv_sipush (v := 256) hx hb dX3_init_35 (by decide) ?_
  refine lv_iload_n hx hb dX3_init_38 rfl (lv_at hl 0 rfl) ?_
  refine lv_ior hx hb dX3_init_39 ?_
  refine lv_topi (fun x25 e26 => ?_)
  obtain rfl : x25 = 259 := e26.trans (by decide)
  refine lv_i2l (v := 259) hx hb dX3_init_40 (by decide) ?_
  refine va_last hx hb hE.1.1 hP hD hS 1 2 rfl rfl (by unfold vp_in; decide) dX3_init_41 (fun H locs hP hD hS => ?_)
  have hP : va_P G.1 pCl [(h0, .inr (3, [.ref q1, .ref q2, .int 0, .int 0, .int 0])), (q1, .inl (G.2.1 2, 3008, .inr (.inl (vp_updL g20 (Int32.toNatClampNeg 3) 259)))), (q2, .inl (G.2.1 2, 3008, .inr (.inl g23)))] H := hP
  have hD : va_D A [(h0, .inr (3, [.ref q1, .ref q2, .int 0, .int 0, .int 0])), (q1, .inl (G.2.1 2, 3008, .inr (.inl (vp_updL g20 (Int32.toNatClampNeg 3) 259)))), (q2, .inl (G.2.1 2, 3008, .inr (.inl g23)))] := hD
  generalize (vp_updL g20 (Int32.toNatClampNeg 3) 259) = g27 at hP hD
  refine lv_aload_n hx hb dX3_init_42 rfl (lv_at hl 1 rfl) ?_
  refine va_get (D := G.1) (ci := 3) (v := .ref q2) (C := RX3) (T := TX3) (N := 5) hx hb hq pin_wsX30 hown hE.1.1 hP 0 rfl rfl 1 (by decide) (hq _ pw_416) (fun _ h9 => h9) rfl dX3_init_43 ?_
  refine lv_iload_n hx hb dX3_init_46 rfl (lv_at hl 0 rfl) ?_
  refine lv_aload_n hx hb dX3_init_47 rfl (lv_at hl 1 rfl) ?_
  refine va_get (D := G.1) (ci := 3) (v := .ref q1) (C := RX3) (T := TX3) (N := 5) hx hb hq pin_wsX30 hown hE.1.1 hP 0 rfl rfl 0 (by decide) (hq _ pw_415) (fun _ h9 => h9) rfl dX3_init_48 ?_
  refine lv_iload_n hx hb dX3_init_51 rfl (lv_at hl 0 rfl) ?_
  refine va_lald hx hb hE.1.1 hP 1 2 rfl rfl (by unfold vp_in; decide) dX3_init_52 ?_
  refine lv_topl (fun x28 e29 => ?_)
  refine va_last hx hb hE.1.1 hP hD hS 2 2 rfl rfl (by unfold vp_in; decide) dX3_init_53 (fun H locs hP hD hS => ?_)
  have hP : va_P G.1 pCl [(h0, .inr (3, [.ref q1, .ref q2, .int 0, .int 0, .int 0])), (q1, .inl (G.2.1 2, 3008, .inr (.inl g27))), (q2, .inl (G.2.1 2, 3008, .inr (.inl (vp_updL g23 (Int32.toNatClampNeg 3) x28))))] H := hP
  have hD : va_D A [(h0, .inr (3, [.ref q1, .ref q2, .int 0, .int 0, .int 0])), (q1, .inl (G.2.1 2, 3008, .inr (.inl g27))), (q2, .inl (G.2.1 2, 3008, .inr (.inl (vp_updL g23 (Int32.toNatClampNeg 3) x28))))] := hD
  generalize (vp_updL g23 (Int32.toNatClampNeg 3) x28) = g30 at hP hD
  refine lv_iinc (v := 4) (lv' := [(1, .int 4), (0, .ref h0)]) hx hb dX3_init_54 hl (k := 0) rfl (by decide) (by decide) rfl (fun ls hl => ?_)
  refine lv_goto (tgt := 24) hx hb dX3_init_57 (by decide) ?_
  refine lv_iload_n hx hb dX3_init_24 rfl (lv_at hl 0 rfl) ?_
  refine lv_bipush (v := 7) hx hb dX3_init_25 (by decide) ?_
  refine lv_icmp_ge (tgt := 60) hx hb dX3_init_27 (by decide) (fun c31 => absurd c31 (by decide)) (fun c31 => ?_)
  refine lv_aload_n hx hb dX3_init_30 rfl (lv_at hl 1 rfl) ?_
  refine va_get (D := G.1) (ci := 3) (v := .ref q1) (C := RX3) (T := TX3) (N := 5) hx hb hq pin_wsX30 hown hE.1.1 hP 0 rfl rfl 0 (by decide) (hq _ pw_415) (fun _ h9 => h9) rfl dX3_init_31 ?_
  refine lv_iload_n hx hb dX3_init_34 rfl (lv_at hl 0 rfl) ?_
  refine lv_sipush (v := 256) hx hb dX3_init_35 (by decide) ?_
  refine lv_iload_n hx hb dX3_init_38 rfl (lv_at hl 0 rfl) ?_
  refine lv_ior hx hb dX3_init_39 ?_
  refine lv_topi (fun x32 e33 => ?_)
  obtain rfl : x32 = 260 := e33.trans (by decide)
  refine lv_i2l (v := 260) hx hb dX3_init_40 (by decide) ?_
  refine va_last hx hb hE.1.1 hP hD hS 1 2 rfl rfl (by unfold vp_in; decide) dX3_init_41 (fun H locs hP hD hS => ?_)
  have hP : va_P G.1 pCl [(h0, .inr (3, [.ref q1, .ref q2, .int 0, .int 0, .int 0])), (q1, .inl (G.2.1 2, 3008, .inr (.inl (vp_updL g27 (Int32.toNatClampNeg 4) 260)))), (q2, .inl (G.2.1 2, 3008, .inr (.inl g30)))] H := hP
  have hD : va_D A [(h0, .inr (3, [.ref q1, .ref q2, .int 0, .int 0, .int 0])), (q1, .inl (G.2.1 2, 3008, .inr (.inl (vp_updL g27 (Int32.toNatClampNeg 4) 260)))), (q2, .inl (G.2.1 2, 3008, .inr (.inl g30)))] := hD
  generalize (vp_updL g27 (Int32.toNatClampNeg 4) 260) = g34 at hP hD
  refine lv_aload_n hx hb dX3_init_42 rfl (lv_at hl 1 rfl) ?_
  refine va_get (D := G.1) (ci := 3) (v := .ref q2) (C := RX3) (T := TX3) (N := 5) hx hb hq pin_wsX30 hown hE.1.1 hP 0 rfl rfl 1 (by decide) (hq _ pw_416) (fun _ h9 => h9) rfl dX3_init_43 ?_
  refine lv_iload_n hx hb dX3_init_46 rfl (lv_at hl 0 rfl) ?_
  refine lv_aload_n hx hb dX3_init_47 rfl (lv_at hl 1 rfl) ?_
  refine va_get (D := G.1) (ci := 3) (v := .ref q1) (C := RX3) (T := TX3) (N := 5) hx hb hq pin_wsX30 hown hE.1.1 hP 0 rfl rfl 0 (by decide) (hq _ pw_415) (fun _ h9 => h9) rfl dX3_init_48 ?_
  refine lv_iload_n hx hb dX3_init_51 rfl (lv_at hl 0 rfl) ?_
  refine va_lald hx hb hE.1.1 hP 1 2 rfl rfl (by unfold vp_in; decide) dX3_init_52 ?_
  refine lv_topl (fun x35 e36 => ?_)
  refine va_last hx hb hE.1.1 hP hD hS 2 2 rfl rfl (by unfold vp_in; decide) dX3_init_53 (fun H locs hP hD hS => ?_)
  have hP : va_P G.1 pCl [(h0, .inr (3, [.ref q1, .ref q2, .int 0, .int 0, .int 0])), (q1, .inl (G.2.1 2, 3008, .inr (.inl g34))), (q2, .inl (G.2.1 2, 3008, .inr (.inl (vp_updL g30 (Int32.toNatClampNeg 4) x35))))] H := hP
  have hD : va_D A [(h0, .inr (3, [.ref q1, .ref q2, .int 0, .int 0, .int 0])), (q1, .inl (G.2.1 2, 3008, .inr (.inl g34))), (q2, .inl (G.2.1 2, 3008, .inr (.inl (vp_updL g30 (Int32.toNatClampNeg 4) x35))))] := hD
  generalize (vp_updL g30 (Int32.toNatClampNeg 4) x35) = g37 at hP hD
  refine lv_iinc (v := 5) (lv' := [(1, .int 5), (0, .ref h0)]) hx hb dX3_init_54 hl (k := 0) rfl (by decide) (by decide) rfl (fun ls hl => ?_)
  refine lv_goto (tgt := 24) hx hb dX3_init_57 (by decide) ?_
  refine lv_iload_n hx hb dX3_init_24 rfl (lv_at hl 0 rfl) ?_
  refine lv_bipush (v := 7) hx hb dX3_init_25 (by decide) ?_
  refine lv_icmp_ge (tgt := 60) hx hb dX3_init_27 (by decide) (fun c38 => absurd c38 (by decide)) (fun c38 => ?_)
  refine lv_aload_n hx hb dX3_init_30 rfl (lv_at hl 1 rfl) ?_
  refine va_get (D := G.1) (ci := 3) (v := .ref q1) (C := RX3) (T := TX3) (N := 5) hx hb hq pin_wsX30 hown hE.1.1 hP 0 rfl rfl 0 (by decide) (hq _ pw_415) (fun _ h9 => h9) rfl dX3_init_31 ?_
  refine lv_iload_n hx hb dX3_init_34 rfl (lv_at hl 0 rfl) ?_
  refine lv_sipush (v := 256) hx hb dX3_init_35 (by decide) ?_
  refine lv_iload_n hx hb dX3_init_38 rfl (lv_at hl 0 rfl) ?_
  refine lv_ior hx hb dX3_init_39 ?_
  refine lv_topi (fun x39 e40 => ?_)
  obtain rfl : x39 = 261 := e40.trans (by decide)
  refine lv_i2l (v := 261) hx hb dX3_init_40 (by decide) ?_
  refine va_last hx hb hE.1.1 hP hD hS 1 2 rfl rfl (by unfold vp_in; decide) dX3_init_41 (fun H locs hP hD hS => ?_)
  have hP : va_P G.1 pCl [(h0, .inr (3, [.ref q1, .ref q2, .int 0, .int 0, .int 0])), (q1, .inl (G.2.1 2, 3008, .inr (.inl (vp_updL g34 (Int32.toNatClampNeg 5) 261)))), (q2, .inl (G.2.1 2, 3008, .inr (.inl g37)))] H := hP
  have hD : va_D A [(h0, .inr (3, [.ref q1, .ref q2, .int 0, .int 0, .int 0])), (q1, .inl (G.2.1 2, 3008, .inr (.inl (vp_updL g34 (Int32.toNatClampNeg 5) 261)))), (q2, .inl (G.2.1 2, 3008, .inr (.inl g37)))] := hD
  generalize (vp_updL g34 (Int32.toNatClampNeg 5) 261) = g41 at hP hD
  refine lv_aload_n hx hb dX3_init_42 rfl (lv_at hl 1 rfl) ?_
  refine va_get (D := G.1) (ci := 3) (v := .ref q2) (C := RX3) (T := TX3) (N := 5) hx hb hq pin_wsX30 hown hE.1.1 hP 0 rfl rfl 1 (by decide) (hq _ pw_416) (fun _ h9 => h9) rfl dX3_init_43 ?_
  refine lv_iload_n hx hb dX3_init_46 rfl (lv_at hl 0 rfl) ?_
  refine lv_aload_n hx hb dX3_init_47 rfl (lv_at hl 1 rfl) ?_
  refine va_get (D := G.1) (ci := 3) (v := .ref q1) (C := RX3) (T := TX3) (N := 5) hx hb hq pin_wsX30 hown hE.1.1 hP 0 rfl rfl 0 (by decide) (hq _ pw_415) (fun _ h9 => h9) rfl dX3_init_48 ?_
  refine lv_iload_n hx hb dX3_init_51 rfl (lv_at hl 0 rfl) ?_
  refine va_lald hx hb hE.1.1 hP 1 2 rfl rfl (by unfold vp_in; decide) dX3_init_52 ?_
  refine lv_topl (fun x42 e43 => ?_)
  refine va_last hx hb hE.1.1 hP hD hS 2 2 rfl rfl (by unfold vp_in; decide) dX3_init_53 (fun H locs hP hD hS => ?_)
  have hP : va_P G.1 pCl [(h0, .inr (3, [.ref q1, .ref q2, .int 0, .int 0, .int 0])), (q1, .inl (G.2.1 2, 3008, .inr (.inl g41))), (q2, .inl (G.2.1 2, 3008, .inr (.inl (vp_updL g37 (Int32.toNatClampNeg 5) x42))))] H := hP
  have hD : va_D A [(h0, .inr (3, [.ref q1, .ref q2, .int 0, .int 0, .int 0])), (q1, .inl (G.2.1 2, 3008, .inr (.inl g41))), (q2, .inl (G.2.1 2, 3008, .inr (.inl (vp_updL g37 (Int32.toNatClampNeg 5) x42))))] := hD
  generalize (vp_updL g37 (Int32.toNatClampNeg 5) x42) = g44 at hP hD
  refine lv_iinc (v := 6) (lv' := [(1, .int 6), (0, .ref h0)]) hx hb dX3_init_54 hl (k := 0) rfl (by decide) (by decide) rfl (fun ls hl => ?_)
  refine lv_goto (tgt := 24) hx hb dX3_init_57 (by decide) ?_
  refine lv_iload_n hx hb dX3_init_24 rfl (lv_at hl 0 rfl) ?_
  refine lv_bipush (v := 7) hx hb dX3_init_25 (by decide) ?_
  refine lv_icmp_ge (tgt := 60) hx hb dX3_init_27 (by decide) (fun c45 => absurd c45 (by decide)) (fun c45 => ?_)
  refine lv_aload_n hx hb dX3_init_30 rfl (lv_at hl 1 rfl) ?_
  refine va_get (D := G.1) (ci := 3) (v := .ref q1) (C := RX3) (T := TX3) (N := 5) hx hb hq pin_wsX30 hown hE.1.1 hP 0 rfl rfl 0 (by decide) (hq _ pw_415) (fun _ h9 => h9) rfl dX3_init_31 ?_
  refine lv_iload_n hx hb dX3_init_34 rfl (lv_at hl 0 rfl) ?_
  refine lv_sipush (v := 256) hx hb dX3_init_35 (by decide) ?_
  refine lv_iload_n hx hb dX3_init_38 rfl (lv_at hl 0 rfl) ?_
  refine lv_ior hx hb dX3_init_39 ?_
  refine lv_topi (fun x46 e47 => ?_)
  obtain rfl : x46 = 262 := e47.trans (by decide)
  refine lv_i2l (v := 262) hx hb dX3_init_40 (by decide) ?_
  refine va_last hx hb hE.1.1 hP hD hS 1 2 rfl rfl (by unfold vp_in; decide) dX3_init_41 (fun H locs hP hD hS => ?_)
  have hP : va_P G.1 pCl [(h0, .inr (3, [.ref q1, .ref q2, .int 0, .int 0, .int 0])), (q1, .inl (G.2.1 2, 3008, .inr (.inl (vp_updL g41 (Int32.toNatClampNeg 6) 262)))), (q2, .inl (G.2.1 2, 3008, .inr (.inl g44)))] H := hP
  have hD : va_D A [(h0, .inr (3, [.ref q1, .ref q2, .int 0, .int 0, .int 0])), (q1, .inl (G.2.1 2, 3008, .inr (.inl (vp_updL g41 (Int32.toNatClampNeg 6) 262)))), (q2, .inl (G.2.1 2, 3008, .inr (.inl g44)))] := hD
  generalize (vp_updL g41 (Int32.toNatClampNeg 6) 262) = g48 at hP hD
  refine lv_aload_n hx hb dX3_init_42 rfl (lv_at hl 1 rfl) ?_
  refine va_get (D := G.1) (ci := 3) (v := .ref q2) (C := RX3) (T := TX3) (N := 5) hx hb hq pin_wsX30 hown hE.1.1 hP 0 rfl rfl 1 (by decide) (hq _ pw_416) (fun _ h9 => h9) rfl dX3_init_43 ?_
  refine lv_iload_n hx hb dX3_init_46 rfl (lv_at hl 0 rfl) ?_
  refine lv_aload_n hx hb dX3_init_47 rfl (lv_at hl 1 rfl) ?_
  refine va_get (D := G.1) (ci := 3) (v := .ref q1) (C := RX3) (T := TX3) (N := 5) hx hb hq pin_wsX30 hown hE.1.1 hP 0 rfl rfl 0 (by decide) (hq _ pw_415) (fun _ h9 => h9) rfl dX3_init_48 ?_
  refine lv_iload_n hx hb dX3_init_51 rfl (lv_at hl 0 rfl) ?_
  refine va_lald hx hb hE.1.1 hP 1 2 rfl rfl (by unfold vp_in; decide) dX3_init_52 ?_
  refine lv_topl (fun x49 e50 => ?_)
  refine va_last hx hb hE.1.1 hP hD hS 2 2 rfl rfl (by unfold vp_in; decide) dX3_init_53 (fun H locs hP hD hS => ?_)
  have hP : va_P G.1 pCl [(h0, .inr (3, [.ref q1, .ref q2, .int 0, .int 0, .int 0])), (q1, .inl (G.2.1 2, 3008, .inr (.inl g48))), (q2, .inl (G.2.1 2, 3008, .inr (.inl (vp_updL g44 (Int32.toNatClampNeg 6) x49))))] H := hP
  have hD : va_D A [(h0, .inr (3, [.ref q1, .ref q2, .int 0, .int 0, .int 0])), (q1, .inl (G.2.1 2, 3008, .inr (.inl g48))), (q2, .inl (G.2.1 2, 3008, .inr (.inl (vp_updL g44 (Int32.toNatClampNeg 6) x49))))] := hD
  generalize (vp_updL g44 (Int32.toNatClampNeg 6) x49) = g51 at hP hD
  refine lv_iinc (v := 7) (lv' := [(1, .int 7), (0, .ref h0)]) hx hb dX3_init_54 hl (k := 0) rfl (by decide) (by decide) rfl (fun ls hl => ?_)
  refine lv_goto (tgt := 24) hx hb dX3_init_57 (by decide) ?_
  refine lv_iload_n hx hb dX3_init_24 rfl (lv_at hl 0 rfl) ?_
  refine lv_bipush (v := 7) hx hb dX3_init_25 (by decide) ?_
  refine lv_icmp_ge (tgt := 60) hx hb dX3_init_27 (by decide) (fun c52 => ?_) (fun c52 => absurd c52 (by decide))
  refine lv_aload_n hx hb dX3_init_60 rfl (lv_at hl 1 rfl) ?_
  refine lv_bipush (v := 8) hx hb dX3_init_61 (by decide) ?_
  refine va_put (D := G.1) (ci := 3) (v := .int 8) (ty := .int) (C := RX3) (T := TX3) (N := 5) hx hb hq pin_wsX30 tyX3 tyX3_ok nmX3 hown hE.1.1 hP hD hS 0 rfl rfl 2 (by decide) (hq _ pw_417) (fun _ h9 => h9) rfl (by decide +kernel) rfl rfl (Nat.le_of_ble_eq_true rfl) dX3_init_63 (fun H locs hP hD hS => ?_)
  have hP : va_P G.1 pCl [(h0, .inr (3, [.ref q1, .ref q2, .int 8, .int 0, .int 0])), (q1, .inl (G.2.1 2, 3008, .inr (.inl g48))), (q2, .inl (G.2.1 2, 3008, .inr (.inl g51)))] H := hP
  have hD : va_D A [(h0, .inr (3, [.ref q1, .ref q2, .int 8, .int 0, .int 0])), (q1, .inl (G.2.1 2, 3008, .inr (.inl g48))), (q2, .inl (G.2.1 2, 3008, .inr (.inl g51)))] := hD
  refine W.widen (k := 2) (n := 6016) (Nat.le_of_ble_eq_true rfl) (Nat.le_of_ble_eq_true rfl) ?_
  exact W.vret hx hb hr (fun t ht hW => ⟨⟨_, ((fun k => match k with | 0 => q1 | _ => q2), (fun _ => fun _ => 0), (fun k => match k with | 0 => g48 | _ => g51)), rfl, rfl, by rw [ht]; exact hP.sub [0, 1, 2] rfl, hD.sub [0, 1, 2] (by decide) rfl⟩, hS.F ht⟩) hS.2.2 dX3_init_66
theorem dX5_init_0 : decode cX5_init 0 = .ok (.aload_n 0, 1) := by decide +kernel
theorem dX5_init_1 : decode cX5_init 1 = .ok (.invokespecial 5, 3) := by decide +kernel
theorem dX5_init_4 : decode cX5_init 4 = .ok (.aload_n 0, 1) := by decide +kernel
theorem dX5_init_5 : decode cX5_init 5 = .ok (.aload_n 1, 1) := by decide +kernel
theorem dX5_init_6 : decode cX5_init 6 = .ok (.putfield 11, 3) := by decide +kernel
theorem dX5_init_9 : decode cX5_init 9 = .ok (.aload_n 0, 1) := by decide +kernel
theorem dX5_init_10 : decode cX5_init 10 = .ok (.new 15, 3) := by decide +kernel
theorem dX5_init_13 : decode cX5_init 13 = .ok (.dup, 1) := by decide +kernel
theorem dX5_init_14 : decode cX5_init 14 = .ok (.invokespecial 17, 3) := by decide +kernel
theorem dX5_init_17 : decode cX5_init 17 = .ok (.putfield 18, 3) := by decide +kernel
theorem dX5_init_20 : decode cX5_init 20 = .ok (.aload_n 0, 1) := by decide +kernel
theorem dX5_init_21 : decode cX5_init 21 = .ok (.sipush 32000, 3) := by decide +kernel
theorem dX5_init_24 : decode cX5_init 24 = .ok (.newarray .long, 2) := by decide +kernel
theorem dX5_init_26 : decode cX5_init 26 = .ok (.putfield 22, 3) := by decide +kernel
theorem dX5_init_29 : decode cX5_init 29 = .ok (.aload_n 0, 1) := by decide +kernel
theorem dX5_init_30 : decode cX5_init 30 = .ok (.sipush 300, 3) := by decide +kernel
theorem dX5_init_33 : decode cX5_init 33 = .ok (.newarray .int, 2) := by decide +kernel
theorem dX5_init_35 : decode cX5_init 35 = .ok (.putfield 26, 3) := by decide +kernel
theorem dX5_init_38 : decode cX5_init 38 = .ok (.aload_n 0, 1) := by decide +kernel
theorem dX5_init_39 : decode cX5_init 39 = .ok (.sipush 200, 3) := by decide +kernel
theorem dX5_init_42 : decode cX5_init 42 = .ok (.newarray .int, 2) := by decide +kernel
theorem dX5_init_44 : decode cX5_init 44 = .ok (.putfield 30, 3) := by decide +kernel
theorem dX5_init_47 : decode cX5_init 47 = .ok (.aload_n 0, 1) := by decide +kernel
theorem dX5_init_48 : decode cX5_init 48 = .ok (.sipush 400, 3) := by decide +kernel
theorem dX5_init_51 : decode cX5_init 51 = .ok (.newarray .int, 2) := by decide +kernel
theorem dX5_init_53 : decode cX5_init 53 = .ok (.putfield 33, 3) := by decide +kernel
theorem dX5_init_56 : decode cX5_init 56 = .ok (.aload_n 0, 1) := by decide +kernel
theorem dX5_init_57 : decode cX5_init 57 = .ok (.bipush 12, 2) := by decide +kernel
theorem dX5_init_59 : decode cX5_init 59 = .ok (.newarray .int, 2) := by decide +kernel
theorem dX5_init_61 : decode cX5_init 61 = .ok (.putfield 36, 3) := by decide +kernel
theorem dX5_init_64 : decode cX5_init 64 = .ok (.return_, 1) := by decide +kernel
theorem hS_X3_init : yX3_init.cls ≠ "java/lang/invoke/MethodHandle" ∧ yX3_init.cls ≠ "java/lang/invoke/VarHandle" ∧ (parseMethodDescriptor yX3_init.desc).map (fun d => d.parameters.length) = some 0 := by decide +kernel
set_option maxHeartbeats 1000000 in
set_option maxRecDepth 100000 in
/-- Machine(code) -/
theorem c_Machine_init (l : Launch) (G : pT) (h0 : Nat) (h1 : Nat) : PM l G pX0 yX5_init cX5_init 2 none ({ frames := 3, cells := 8, slots := 38933, locals := 81 }) [.ref h0, .ref h1] [(h0, .inr (4, [.null, .null, .null, .null, .null, .int 0, .null, .null, .null, .null, .int 0, .int 0, .int 0, .int 0, .long 0, .int 0, .int 0, .int 0, .int 0]))] (fun (v : Option Value) (u : (Nat → Nat) × (Nat → Nat → Int32) × (Nat → Nat → Int64)) => v = none) (fun u => [(h0, .inr (4, [.ref h1, .ref (u.1 0), .ref (u.1 1), .ref (u.1 2), .ref (u.1 3), .int 0, .ref (u.1 4), .ref (u.1 5), .null, .null, .int 0, .int 0, .int 0, .int 0, .long 0, .int 0, .int 0, .int 0, .int 0])), ((u.1 0), .inr (3, [.ref (u.1 6), .ref (u.1 7), .int 8, .int 0, .int 0])), ((u.1 6), .inl (G.2.1 2, 3008, .inr (.inl (u.2.2 0)))), ((u.1 7), .inl (G.2.1 2, 3008, .inr (.inl (u.2.2 1)))), ((u.1 1), .inl (G.2.1 2, 32000, .inr (.inl (fun _ => 0)))), ((u.1 2), .inl (G.2.1 0, 300, .inl (fun _ => 0))), ((u.1 3), .inl (G.2.1 0, 200, .inl (fun _ => 0))), ((u.1 4), .inl (G.2.1 0, 400, .inl (fun _ => 0))), ((u.1 5), .inl (G.2.1 0, 12, .inl (fun _ => 0)))]) := by
  intro sz
  refine Met.ofW (cc := cX5_init) (maxL := 2) (ret := none) (by decide) rfl ?_
  intro p e s m args below meth c s₁ B hml hv
  obtain ⟨rfl, hsz, hP, hD0, hE, hX⟩ := hv
  have hx := B.exec
  have hb := B.bytes
  have hr := B.returns
  have hts := atoms_spec (ws := Cond.code yX5_init cX5_init 2 none :: pw) B.pre
  have hq : ∀ w ∈ pw, w.before _ s = true := fun w h => hts w (List.mem_cons_of_mem _ h)
  have hown : s.vm.findClass RX5 = some m.cls := findClass_of_methodNamed B.named
  have hlocks := B.notSynchronized
  have hin : meth.name = "<init>" := (name_of_methodNamed B.named B.method).1
  subst hsz
  have hD := hD0.self (sz := s.heap.size)
  have hA : ∀ q : Nat, s.heap.size ≤ q → va_A [(h0, .inr (4, [.null, .null, .null, .null, .null, .int 0, .null, .null, .null, .null, .int 0, .int 0, .int 0, .int 0, .long 0, .int 0, .int 0, .int 0, .int 0]))] s.heap.size q := fun q h => Or.inr h
  have hP : va_P G.1 pCl [(h0, .inr (4, [.null, .null, .null, .null, .null, .int 0, .null, .null, .null, .null, .int 0, .int 0, .int 0, .int 0, .long 0, .int 0, .int 0, .int 0, .int 0]))] s.heap := hP
  generalize va_A [(h0, .inr (4, [.null, .null, .null, .null, .null, .int 0, .null, .null, .null, .null, .int 0, .int 0, .int 0, .int 0, .long 0, .int 0, .int 0, .int 0, .int 0]))] s.heap.size = A at hD hE hA ⊢
  have hS : va_S A s.heap s.heap [] := va_S.rf
  have hl := lv_entry ([.ref h0, .ref h1]) (n := 2) (Nat.le_of_ble_eq_true rfl)
  rw [lg_entry_eq]
  generalize (lg_sl ([.ref h0, .ref h1]) ++ List.replicate (2 - (lg_sl ([.ref h0, .ref h1])).length) Slot.unset).toArray = ls at hl ⊢
  have hl : lv_has ls 2 [(0, .ref h0), (1, .ref h1)] := hl
  refine lv_aload_n hx hb dX5_init_0 rfl (lv_at hl 0 rfl) ?_
  refine W.objInit hx hb hown (hq _ pw_469) (hq _ pw_2) (hq _ pw_3) rfl (by rw [hml]; exact hl.1) rfl dX5_init_1 (Nat.le_of_ble_eq_true rfl) (Nat.le_of_ble_eq_true rfl) ?_
  refine W.eq (g2 := F0 m 4 ls []) rfl ?_
  refine lv_aload_n hx hb dX5_init_4 rfl (lv_at hl 0 rfl) ?_
  refine lv_aload_n hx hb dX5_init_5 rfl (lv_at hl 1 rfl) ?_
  refine va_putF (D := G.1) (ci := 4) (v := .ref h1) (ty := (.object "JinjaTongue$Code")) (C := RX5) (T := TX5) (N := 19) hx hb hq pin_wsX50 tyX5 tyX5_ok nmX5 hown hE.1.1 hP hD hS 0 rfl rfl 0 (by decide) (hq _ pw_470) (fun _ h9 => h9) rfl hin rfl (by decide +kernel) rfl rfl (Nat.le_of_ble_eq_true rfl) dX5_init_6 (fun H locs hP hD hS => ?_)
  have hP : va_P G.1 pCl [(h0, .inr (4, [.ref h1, .null, .null, .null, .null, .int 0, .null, .null, .null, .null, .int 0, .int 0, .int 0, .int 0, .long 0, .int 0, .int 0, .int 0, .int 0]))] H := hP
  have hD : va_D A [(h0, .inr (4, [.ref h1, .null, .null, .null, .null, .int 0, .null, .null, .null, .null, .int 0, .int 0, .int 0, .int 0, .long 0, .int 0, .int 0, .int 0, .int 0]))] := hD
  refine lv_aload_n hx hb dX5_init_9 rfl (lv_at hl 0 rfl) ?_
  refine va_new (ci := 3) (fs := [.null, .null, .int 0, .int 0, .int 0]) (C := RX3) (T := TX3) (N := 5) hx hb hq pin_wsX30 tyX3 tyX3_ok hown (hq _ pw_471) (hq _ pw_472) (hq _ pw_440) hE.1.1 hP hD hS hA rfl nw_X3 (Nat.le_of_ble_eq_true rfl) (Nat.le_of_ble_eq_true rfl) dX5_init_10 (fun q1 H hP hD hS => ?_)
  have hP : va_P G.1 pCl [(h0, .inr (4, [.ref h1, .null, .null, .null, .null, .int 0, .null, .null, .null, .null, .int 0, .int 0, .int 0, .int 0, .long 0, .int 0, .int 0, .int 0, .int 0])), (q1, .inr (3, [.null, .null, .int 0, .int 0, .int 0]))] H := hP
  have hD : va_D A [(h0, .inr (4, [.ref h1, .null, .null, .null, .null, .int 0, .null, .null, .null, .null, .int 0, .int 0, .int 0, .int 0, .long 0, .int 0, .int 0, .int 0, .int 0])), (q1, .inr (3, [.null, .null, .int 0, .int 0, .int 0]))] := hD
  refine W.widen (k := 1) (n := 5) (Nat.le_of_ble_eq_true rfl) (Nat.le_of_ble_eq_true rfl) ?_
  refine lv_dup hx hb dX5_init_13 rfl ?_
  refine pc_I (G := G) (As := []) (rest := [.ref q1, .ref h0]) (wr := [(h0, .inr (4, [.ref h1, .null, .null, .null, .null, .int 0, .null, .null, .null, .null, .int 0, .int 0, .int 0, .int 0, .long 0, .int 0, .int 0, .int 0, .int 0]))]) hx hb hml hown hq hE hX pX0_al hP hD hS hA hl.1 (c_Heap_init l G q1) pw_479 pw_480 pw_440 pw_412 rfl hS_X3_init [1] [0] rfl rfl (by decide) (by decide) (by decide) rfl (Nat.le_of_ble_eq_true rfl) dX5_init_14 ⟨Nat.le_of_ble_eq_true rfl, Nat.le_of_ble_eq_true rfl⟩ ⟨Nat.le_of_ble_eq_true rfl, Nat.le_of_ble_eq_true rfl⟩ (fun v4 u2 H locs hw3 hP hD hS => ?_)
  obtain rfl : v4 = none := hw3
  have hP : va_P G.1 pCl [(h0, .inr (4, [.ref h1, .null, .null, .null, .null, .int 0, .null, .null, .null, .null, .int 0, .int 0, .int 0, .int 0, .long 0, .int 0, .int 0, .int 0, .int 0])), (q1, .inr (3, [.ref (u2.1 0), .ref (u2.1 1), .int 8, .int 0, .int 0])), ((u2.1 0), .inl (G.2.1 2, 3008, .inr (.inl (u2.2.2 0)))), ((u2.1 1), .inl (G.2.1 2, 3008, .inr (.inl (u2.2.2 1))))] H := hP
  have hD : va_D A [(h0, .inr (4, [.ref h1, .null, .null, .null, .null, .int 0, .null, .null, .null, .null, .int 0, .int 0, .int 0, .int 0, .long 0, .int 0, .int 0, .int 0, .int 0])), (q1, .inr (3, [.ref (u2.1 0), .ref (u2.1 1), .int 8, .int 0, .int 0])), ((u2.1 0), .inl (G.2.1 2, 3008, .inr (.inl (u2.2.2 0)))), ((u2.1 1), .inl (G.2.1 2, 3008, .inr (.inl (u2.2.2 1))))] := hD
  generalize u2.1 0 = q5 at hP hD
  generalize u2.1 1 = q6 at hP hD
  generalize u2.2.2 0 = g7 at hP hD
  generalize u2.2.2 1 = g8 at hP hD
  refine W.widen (k := 3) (n := 6021) (Nat.le_of_ble_eq_true rfl) (Nat.le_of_ble_eq_true rfl) ?_
  refine W.eq (g2 := F0 m 17 ls [.ref q1, .ref h0]) rfl ?_
  refine va_putF (D := G.1) (ci := 4) (v := .ref q1) (ty := (.object "JinjaTongue$Heap")) (C := RX5) (T := TX5) (N := 19) hx hb hq pin_wsX50 tyX5 tyX5_ok nmX5 hown hE.1.1 hP hD hS 0 rfl rfl 1 (by decide) (hq _ pw_473) (fun _ h9 => h9) rfl hin rfl (by decide +kernel) rfl rfl (Nat.le_of_ble_eq_true rfl) dX5_init_17 (fun H locs hP hD hS => ?_)
  have hP : va_P G.1 pCl [(h0, .inr (4, [.ref h1, .ref q1, .null, .null, .null, .int 0, .null, .null, .null, .null, .int 0, .int 0, .int 0, .int 0, .long 0, .int 0, .int 0, .int 0, .int 0])), (q1, .inr (3, [.ref q5, .ref q6, .int 8, .int 0, .int 0])), (q5, .inl (G.2.1 2, 3008, .inr (.inl g7))), (q6, .inl (G.2.1 2, 3008, .inr (.inl g8)))] H := hP
  have hD : va_D A [(h0, .inr (4, [.ref h1, .ref q1, .null, .null, .null, .int 0, .null, .null, .null, .null, .int 0, .int 0, .int 0, .int 0, .long 0, .int 0, .int 0, .int 0, .int 0])), (q1, .inr (3, [.ref q5, .ref q6, .int 8, .int 0, .int 0])), (q5, .inl (G.2.1 2, 3008, .inr (.inl g7))), (q6, .inl (G.2.1 2, 3008, .inr (.inl g8)))] := hD
  refine lv_aload_n hx hb dX5_init_20 rfl (lv_at hl 0 rfl) ?_
  refine lv_sipush (v := 32000) hx hb dX5_init_21 (by decide) ?_
  refine pn_newa (G := G) (atype := .long) (a0 := (32000, .inr (.inl (fun _ => 0)))) (N' := 32000) hx hb (hq _ pw_414) rfl hE.1.2.2.2.1 hP hD hS hA (fun _ => rfl) (by decide) (by decide) (by decide) (Nat.le_of_ble_eq_true rfl) (Nat.le_of_ble_eq_true rfl) dX5_init_24 (fun q9 H hP hD hS => ?_)
  have hP : va_P G.1 pCl [(h0, .inr (4, [.ref h1, .ref q1, .null, .null, .null, .int 0, .null, .null, .null, .null, .int 0, .int 0, .int 0, .int 0, .long 0, .int 0, .int 0, .int 0, .int 0])), (q1, .inr (3, [.ref q5, .ref q6, .int 8, .int 0, .int 0])), (q5, .inl (G.2.1 2, 3008, .inr (.inl g7))), (q6, .inl (G.2.1 2, 3008, .inr (.inl g8))), (q9, .inl (G.2.1 2, 32000, .inr (.inl (fun _ => 0))))] H := hP
  have hD : va_D A [(h0, .inr (4, [.ref h1, .ref q1, .null, .null, .null, .int 0, .null, .null, .null, .null, .int 0, .int 0, .int 0, .int 0, .long 0, .int 0, .int 0, .int 0, .int 0])), (q1, .inr (3, [.ref q5, .ref q6, .int 8, .int 0, .int 0])), (q5, .inl (G.2.1 2, 3008, .inr (.inl g7))), (q6, .inl (G.2.1 2, 3008, .inr (.inl g8))), (q9, .inl (G.2.1 2, 32000, .inr (.inl (fun _ => 0))))] := hD
  refine W.widen (k := 4) (n := 38021) (Nat.le_of_ble_eq_true rfl) (Nat.le_of_ble_eq_true rfl) ?_
  refine va_putF (D := G.1) (ci := 4) (v := .ref q9) (ty := (.array .long)) (C := RX5) (T := TX5) (N := 19) hx hb hq pin_wsX50 tyX5 tyX5_ok nmX5 hown hE.1.1 hP hD hS 0 rfl rfl 2 (by decide) (hq _ pw_474) (fun _ h9 => h9) rfl hin rfl (by decide +kernel) rfl rfl (Nat.le_of_ble_eq_true rfl) dX5_init_26 (fun H locs hP hD hS => ?_)
  have hP : va_P G.1 pCl [(h0, .inr (4, [.ref h1, .ref q1, .ref q9, .null, .null, .int 0, .null, .null, .null, .null, .int 0, .int 0, .int 0, .int 0, .long 0, .int 0, .int 0, .int 0, .int 0])), (q1, .inr (3, [.ref q5, .ref q6, .int 8, .int 0, .int 0])), (q5, .inl (G.2.1 2, 3008, .inr (.inl g7))), (q6, .inl (G.2.1 2, 3008, .inr (.inl g8))), (q9, .inl (G.2.1 2, 32000, .inr (.inl (fun _ => 0))))] H := hP
  have hD : va_D A [(h0, .inr (4, [.ref h1, .ref q1, .ref q9, .null, .null, .int 0, .null, .null, .null, .null, .int 0, .int 0, .int 0, .int 0, .long 0, .int 0, .int 0, .int 0, .int 0])), (q1, .inr (3, [.ref q5, .ref q6, .int 8, .int 0, .int 0])), (q5, .inl (G.2.1 2, 3008, .inr (.inl g7))), (q6, .inl (G.2.1 2, 3008, .inr (.inl g8))), (q9, .inl (G.2.1 2, 32000, .inr (.inl (fun _ => 0))))] := hD
  refine lv_aload_n hx hb dX5_init_29 rfl (lv_at hl 0 rfl) ?_
  refine lv_sipush (v := 300) hx hb dX5_init_30 (by decide) ?_
  refine pn_newa (G := G) (atype := .int) (a0 := (300, .inl (fun _ => 0))) (N' := 300) hx hb (hq _ pw_6) rfl hE.1.2.1 hP hD hS hA (fun _ => rfl) (by decide) (by decide) (by decide) (Nat.le_of_ble_eq_true rfl) (Nat.le_of_ble_eq_true rfl) dX5_init_33 (fun q10 H hP hD hS => ?_)
  have hP : va_P G.1 pCl [(h0, .inr (4, [.ref h1, .ref q1, .ref q9, .null, .null, .int 0, .null, .null, .null, .null, .int 0, .int 0, .int 0, .int 0, .long 0, .int 0, .int 0, .int 0, .int 0])), (q1, .inr (3, [.ref q5, .ref q6, .int 8, .int 0, .int 0])), (q5, .inl (G.2.1 2, 3008, .inr (.inl g7))), (q6, .inl (G.2.1 2, 3008, .inr (.inl g8))), (q9, .inl (G.2.1 2, 32000, .inr (.inl (fun _ => 0)))), (q10, .inl (G.2.1 0, 300, .inl (fun _ => 0)))] H := hP
  have hD : va_D A [(h0, .inr (4, [.ref h1, .ref q1, .ref q9, .null, .null, .int 0, .null, .null, .null, .null, .int 0, .int 0, .int 0, .int 0, .long 0, .int 0, .int 0, .int 0, .int 0])), (q1, .inr (3, [.ref q5, .ref q6, .int 8, .int 0, .int 0])), (q5, .inl (G.2.1 2, 3008, .inr (.inl g7))), (q6, .inl (G.2.1 2, 3008, .inr (.inl g8))), (q9, .inl (G.2.1 2, 32000, .inr (.inl (fun _ => 0)))), (q10, .inl (G.2.1 0, 300, .inl (fun _ => 0)))] := hD
  refine W.widen (k := 5) (n := 38321) (Nat.le_of_ble_eq_true rfl) (Nat.le_of_ble_eq_true rfl) ?_
  refine va_putF (D := G.1) (ci := 4) (v := .ref q10) (ty := (.array .int)) (C := RX5) (T := TX5) (N := 19) hx hb hq pin_wsX50 tyX5 tyX5_ok nmX5 hown hE.1.1 hP hD hS 0 rfl rfl 3 (by decide) (hq _ pw_475) (fun _ h9 => h9) rfl hin rfl (by decide +kernel) rfl rfl (Nat.le_of_ble_eq_true rfl) dX5_init_35 (fun H locs hP hD hS => ?_)
  have hP : va_P G.1 pCl [(h0, .inr (4, [.ref h1, .ref q1, .ref q9, .ref q10, .null, .int 0, .null, .null, .null, .null, .int 0, .int 0, .int 0, .int 0, .long 0, .int 0, .int 0, .int 0, .int 0])), (q1, .inr (3, [.ref q5, .ref q6, .int 8, .int 0, .int 0])), (q5, .inl (G.2.1 2, 3008, .inr (.inl g7))), (q6, .inl (G.2.1 2, 3008, .inr (.inl g8))), (q9, .inl (G.2.1 2, 32000, .inr (.inl (fun _ => 0)))), (q10, .inl (G.2.1 0, 300, .inl (fun _ => 0)))] H := hP
  have hD : va_D A [(h0, .inr (4, [.ref h1, .ref q1, .ref q9, .ref q10, .null, .int 0, .null, .null, .null, .null, .int 0, .int 0, .int 0, .int 0, .long 0, .int 0, .int 0, .int 0, .int 0])), (q1, .inr (3, [.ref q5, .ref q6, .int 8, .int 0, .int 0])), (q5, .inl (G.2.1 2, 3008, .inr (.inl g7))), (q6, .inl (G.2.1 2, 3008, .inr (.inl g8))), (q9, .inl (G.2.1 2, 32000, .inr (.inl (fun _ => 0)))), (q10, .inl (G.2.1 0, 300, .inl (fun _ => 0)))] := hD
  refine lv_aload_n hx hb dX5_init_38 rfl (lv_at hl 0 rfl) ?_
  refine lv_sipush (v := 200) hx hb dX5_init_39 (by decide) ?_
  refine pn_newa (G := G) (atype := .int) (a0 := (200, .inl (fun _ => 0))) (N' := 200) hx hb (hq _ pw_6) rfl hE.1.2.1 hP hD hS hA (fun _ => rfl) (by decide) (by decide) (by decide) (Nat.le_of_ble_eq_true rfl) (Nat.le_of_ble_eq_true rfl) dX5_init_42 (fun q11 H hP hD hS => ?_)
  have hP : va_P G.1 pCl [(h0, .inr (4, [.ref h1, .ref q1, .ref q9, .ref q10, .null, .int 0, .null, .null, .null, .null, .int 0, .int 0, .int 0, .int 0, .long 0, .int 0, .int 0, .int 0, .int 0])), (q1, .inr (3, [.ref q5, .ref q6, .int 8, .int 0, .int 0])), (q5, .inl (G.2.1 2, 3008, .inr (.inl g7))), (q6, .inl (G.2.1 2, 3008, .inr (.inl g8))), (q9, .inl (G.2.1 2, 32000, .inr (.inl (fun _ => 0)))), (q10, .inl (G.2.1 0, 300, .inl (fun _ => 0))), (q11, .inl (G.2.1 0, 200, .inl (fun _ => 0)))] H := hP
  have hD : va_D A [(h0, .inr (4, [.ref h1, .ref q1, .ref q9, .ref q10, .null, .int 0, .null, .null, .null, .null, .int 0, .int 0, .int 0, .int 0, .long 0, .int 0, .int 0, .int 0, .int 0])), (q1, .inr (3, [.ref q5, .ref q6, .int 8, .int 0, .int 0])), (q5, .inl (G.2.1 2, 3008, .inr (.inl g7))), (q6, .inl (G.2.1 2, 3008, .inr (.inl g8))), (q9, .inl (G.2.1 2, 32000, .inr (.inl (fun _ => 0)))), (q10, .inl (G.2.1 0, 300, .inl (fun _ => 0))), (q11, .inl (G.2.1 0, 200, .inl (fun _ => 0)))] := hD
  refine W.widen (k := 6) (n := 38521) (Nat.le_of_ble_eq_true rfl) (Nat.le_of_ble_eq_true rfl) ?_
  refine va_putF (D := G.1) (ci := 4) (v := .ref q11) (ty := (.array .int)) (C := RX5) (T := TX5) (N := 19) hx hb hq pin_wsX50 tyX5 tyX5_ok nmX5 hown hE.1.1 hP hD hS 0 rfl rfl 4 (by decide) (hq _ pw_476) (fun _ h9 => h9) rfl hin rfl (by decide +kernel) rfl rfl (Nat.le_of_ble_eq_true rfl) dX5_init_44 (fun H locs hP hD hS => ?_)
  have hP : va_P G.1 pCl [(h0, .inr (4, [.ref h1, .ref q1, .ref q9, .ref q10, .ref q11, .int 0, .null, .null, .null, .null, .int 0, .int 0, .int 0, .int 0, .long 0, .int 0, .int 0, .int 0, .int 0])), (q1, .inr (3, [.ref q5, .ref q6, .int 8, .int 0, .int 0])), (q5, .inl (G.2.1 2, 3008, .inr (.inl g7))), (q6, .inl (G.2.1 2, 3008, .inr (.inl g8))), (q9, .inl (G.2.1 2, 32000, .inr (.inl (fun _ => 0)))), (q10, .inl (G.2.1 0, 300, .inl (fun _ => 0))), (q11, .inl (G.2.1 0, 200, .inl (fun _ => 0)))] H := hP
  have hD : va_D A [(h0, .inr (4, [.ref h1, .ref q1, .ref q9, .ref q10, .ref q11, .int 0, .null, .null, .null, .null, .int 0, .int 0, .int 0, .int 0, .long 0, .int 0, .int 0, .int 0, .int 0])), (q1, .inr (3, [.ref q5, .ref q6, .int 8, .int 0, .int 0])), (q5, .inl (G.2.1 2, 3008, .inr (.inl g7))), (q6, .inl (G.2.1 2, 3008, .inr (.inl g8))), (q9, .inl (G.2.1 2, 32000, .inr (.inl (fun _ => 0)))), (q10, .inl (G.2.1 0, 300, .inl (fun _ => 0))), (q11, .inl (G.2.1 0, 200, .inl (fun _ => 0)))] := hD
  refine lv_aload_n hx hb dX5_init_47 rfl (lv_at hl 0 rfl) ?_
  refine lv_sipush (v := 400) hx hb dX5_init_48 (by decide) ?_
  refine pn_newa (G := G) (atype := .int) (a0 := (400, .inl (fun _ => 0))) (N' := 400) hx hb (hq _ pw_6) rfl hE.1.2.1 hP hD hS hA (fun _ => rfl) (by decide) (by decide) (by decide) (Nat.le_of_ble_eq_true rfl) (Nat.le_of_ble_eq_true rfl) dX5_init_51 (fun q12 H hP hD hS => ?_)
  have hP : va_P G.1 pCl [(h0, .inr (4, [.ref h1, .ref q1, .ref q9, .ref q10, .ref q11, .int 0, .null, .null, .null, .null, .int 0, .int 0, .int 0, .int 0, .long 0, .int 0, .int 0, .int 0, .int 0])), (q1, .inr (3, [.ref q5, .ref q6, .int 8, .int 0, .int 0])), (q5, .inl (G.2.1 2, 3008, .inr (.inl g7))), (q6, .inl (G.2.1 2, 3008, .inr (.inl g8))), (q9, .inl (G.2.1 2, 32000, .inr (.inl (fun _ => 0)))), (q10, .inl (G.2.1 0, 300, .inl (fun _ => 0))), (q11, .inl (G.2.1 0, 200, .inl (fun _ => 0))), (q12, .inl (G.2.1 0, 400, .inl (fun _ => 0)))] H := hP
  have hD : va_D A [(h0, .inr (4, [.ref h1, .ref q1, .ref q9, .ref q10, .ref q11, .int 0, .null, .null, .null, .null, .int 0, .int 0, .int 0, .int 0, .long 0, .int 0, .int 0, .int 0, .int 0])), (q1, .inr (3, [.ref q5, .ref q6, .int 8, .int 0, .int 0])), (q5, .inl (G.2.1 2, 3008, .inr (.inl g7))), (q6, .inl (G.2.1 2, 3008, .inr (.inl g8))), (q9, .inl (G.2.1 2, 32000, .inr (.inl (fun _ => 0)))), (q10, .inl (G.2.1 0, 300, .inl (fun _ => 0))), (q11, .inl (G.2.1 0, 200, .inl (fun _ => 0))), (q12, .inl (G.2.1 0, 400, .inl (fun _ => 0)))] := hD
  refine W.widen (k := 7) (n := 38921) (Nat.le_of_ble_eq_true rfl) (Nat.le_of_ble_eq_true rfl) ?_
  refine va_putF (D := G.1) (ci := 4) (v := .ref q12) (ty := (.array .int)) (C := RX5) (T := TX5) (N := 19) hx hb hq pin_wsX50 tyX5 tyX5_ok nmX5 hown hE.1.1 hP hD hS 0 rfl rfl 6 (by decide) (hq _ pw_477) (fun _ h9 => h9) rfl hin rfl (by decide +kernel) rfl rfl (Nat.le_of_ble_eq_true rfl) dX5_init_53 (fun H locs hP hD hS => ?_)
  have hP : va_P G.1 pCl [(h0, .inr (4, [.ref h1, .ref q1, .ref q9, .ref q10, .ref q11, .int 0, .ref q12, .null, .null, .null, .int 0, .int 0, .int 0, .int 0, .long 0, .int 0, .int 0, .int 0, .int 0])), (q1, .inr (3, [.ref q5, .ref q6, .int 8, .int 0, .int 0])), (q5, .inl (G.2.1 2, 3008, .inr (.inl g7))), (q6, .inl (G.2.1 2, 3008, .inr (.inl g8))), (q9, .inl (G.2.1 2, 32000, .inr (.inl (fun _ => 0)))), (q10, .inl (G.2.1 0, 300, .inl (fun _ => 0))), (q11, .inl (G.2.1 0, 200, .inl (fun _ => 0))), (q12, .inl (G.2.1 0, 400, .inl (fun _ => 0)))] H := hP
  have hD : va_D A [(h0, .inr (4, [.ref h1, .ref q1, .ref q9, .ref q10, .ref q11, .int 0, .ref q12, .null, .null, .null, .int 0, .int 0, .int 0, .int 0, .long 0, .int 0, .int 0, .int 0, .int 0])), (q1, .inr (3, [.ref q5, .ref q6, .int 8, .int 0, .int 0])), (q5, .inl (G.2.1 2, 3008, .inr (.inl g7))), (q6, .inl (G.2.1 2, 3008, .inr (.inl g8))), (q9, .inl (G.2.1 2, 32000, .inr (.inl (fun _ => 0)))), (q10, .inl (G.2.1 0, 300, .inl (fun _ => 0))), (q11, .inl (G.2.1 0, 200, .inl (fun _ => 0))), (q12, .inl (G.2.1 0, 400, .inl (fun _ => 0)))] := hD
  refine lv_aload_n hx hb dX5_init_56 rfl (lv_at hl 0 rfl) ?_
  refine lv_bipush (v := 12) hx hb dX5_init_57 (by decide) ?_
  refine pn_newa (G := G) (atype := .int) (a0 := (12, .inl (fun _ => 0))) (N' := 12) hx hb (hq _ pw_6) rfl hE.1.2.1 hP hD hS hA (fun _ => rfl) (by decide) (by decide) (by decide) (Nat.le_of_ble_eq_true rfl) (Nat.le_of_ble_eq_true rfl) dX5_init_59 (fun q13 H hP hD hS => ?_)
  have hP : va_P G.1 pCl [(h0, .inr (4, [.ref h1, .ref q1, .ref q9, .ref q10, .ref q11, .int 0, .ref q12, .null, .null, .null, .int 0, .int 0, .int 0, .int 0, .long 0, .int 0, .int 0, .int 0, .int 0])), (q1, .inr (3, [.ref q5, .ref q6, .int 8, .int 0, .int 0])), (q5, .inl (G.2.1 2, 3008, .inr (.inl g7))), (q6, .inl (G.2.1 2, 3008, .inr (.inl g8))), (q9, .inl (G.2.1 2, 32000, .inr (.inl (fun _ => 0)))), (q10, .inl (G.2.1 0, 300, .inl (fun _ => 0))), (q11, .inl (G.2.1 0, 200, .inl (fun _ => 0))), (q12, .inl (G.2.1 0, 400, .inl (fun _ => 0))), (q13, .inl (G.2.1 0, 12, .inl (fun _ => 0)))] H := hP
  have hD : va_D A [(h0, .inr (4, [.ref h1, .ref q1, .ref q9, .ref q10, .ref q11, .int 0, .ref q12, .null, .null, .null, .int 0, .int 0, .int 0, .int 0, .long 0, .int 0, .int 0, .int 0, .int 0])), (q1, .inr (3, [.ref q5, .ref q6, .int 8, .int 0, .int 0])), (q5, .inl (G.2.1 2, 3008, .inr (.inl g7))), (q6, .inl (G.2.1 2, 3008, .inr (.inl g8))), (q9, .inl (G.2.1 2, 32000, .inr (.inl (fun _ => 0)))), (q10, .inl (G.2.1 0, 300, .inl (fun _ => 0))), (q11, .inl (G.2.1 0, 200, .inl (fun _ => 0))), (q12, .inl (G.2.1 0, 400, .inl (fun _ => 0))), (q13, .inl (G.2.1 0, 12, .inl (fun _ => 0)))] := hD
  refine W.widen (k := 8) (n := 38933) (Nat.le_of_ble_eq_true rfl) (Nat.le_of_ble_eq_true rfl) ?_
  refine va_putF (D := G.1) (ci := 4) (v := .ref q13) (ty := (.array .int)) (C := RX5) (T := TX5) (N := 19) hx hb hq pin_wsX50 tyX5 tyX5_ok nmX5 hown hE.1.1 hP hD hS 0 rfl rfl 7 (by decide) (hq _ pw_478) (fun _ h9 => h9) rfl hin rfl (by decide +kernel) rfl rfl (Nat.le_of_ble_eq_true rfl) dX5_init_61 (fun H locs hP hD hS => ?_)
  have hP : va_P G.1 pCl [(h0, .inr (4, [.ref h1, .ref q1, .ref q9, .ref q10, .ref q11, .int 0, .ref q12, .ref q13, .null, .null, .int 0, .int 0, .int 0, .int 0, .long 0, .int 0, .int 0, .int 0, .int 0])), (q1, .inr (3, [.ref q5, .ref q6, .int 8, .int 0, .int 0])), (q5, .inl (G.2.1 2, 3008, .inr (.inl g7))), (q6, .inl (G.2.1 2, 3008, .inr (.inl g8))), (q9, .inl (G.2.1 2, 32000, .inr (.inl (fun _ => 0)))), (q10, .inl (G.2.1 0, 300, .inl (fun _ => 0))), (q11, .inl (G.2.1 0, 200, .inl (fun _ => 0))), (q12, .inl (G.2.1 0, 400, .inl (fun _ => 0))), (q13, .inl (G.2.1 0, 12, .inl (fun _ => 0)))] H := hP
  have hD : va_D A [(h0, .inr (4, [.ref h1, .ref q1, .ref q9, .ref q10, .ref q11, .int 0, .ref q12, .ref q13, .null, .null, .int 0, .int 0, .int 0, .int 0, .long 0, .int 0, .int 0, .int 0, .int 0])), (q1, .inr (3, [.ref q5, .ref q6, .int 8, .int 0, .int 0])), (q5, .inl (G.2.1 2, 3008, .inr (.inl g7))), (q6, .inl (G.2.1 2, 3008, .inr (.inl g8))), (q9, .inl (G.2.1 2, 32000, .inr (.inl (fun _ => 0)))), (q10, .inl (G.2.1 0, 300, .inl (fun _ => 0))), (q11, .inl (G.2.1 0, 200, .inl (fun _ => 0))), (q12, .inl (G.2.1 0, 400, .inl (fun _ => 0))), (q13, .inl (G.2.1 0, 12, .inl (fun _ => 0)))] := hD
  refine W.widen (k := 8) (n := 38933) (Nat.le_of_ble_eq_true rfl) (Nat.le_of_ble_eq_true rfl) ?_
  exact W.vret hx hb hr (fun t ht hW => ⟨⟨_, ((fun k => match k with | 0 => q1 | 1 => q9 | 2 => q10 | 3 => q11 | 4 => q12 | 5 => q13 | 6 => q5 | _ => q6), (fun _ => fun _ => 0), (fun k => match k with | 0 => g7 | _ => g8)), rfl, rfl, by rw [ht]; exact hP.sub [0, 1, 2, 3, 4, 5, 6, 7, 8] rfl, hD.sub [0, 1, 2, 3, 4, 5, 6, 7, 8] (by decide) rfl⟩, hS.F ht⟩) hS.2.2 dX5_init_64
