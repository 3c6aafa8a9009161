def addL (G : pT) (K : PK) (q fd x : Nat) : PK := kC (kC (kI (kN K x 5 0) 22 x 0) 13 x (some G.2.2.2.2)) fd q (some x)
section AL
variable {G : pT} {K : PK} {q fd x p es : Nat} {it : Nat → Nat}
theorem addL_sm (hx : K.1 x = 0) (hp : ¬ K.1 p = 0) (hq : ¬ p = q) : Sm K (addL G K q fd x) p := by
  have hpx : ¬ p = x := fun z => hp (by rw [z]; exact hx)
  obtain ⟨a1, a2, a3, a4, a5, a6⟩ := kN_ext (s := 5) (n := 0) hx p hp
  exact ⟨a1, fun f => (kI_ne hpx).trans (a2 f), fun f => (kC_ne hq).trans ((kC_ne hpx).trans (a3 f)), a4, a5, a6⟩
theorem addL_I {f : Nat} (hx : K.1 x = 0) (hp : ¬ K.1 p = 0) : (addL G K q fd x).2.1 f p = K.2.1 f p := by
  have hpx : ¬ p = x := fun z => hp (by rw [z]; exact hx)
  exact (kI_ne hpx).trans (((kN_ext (s := 5) (n := 0) hx p hp).2.1) f)
theorem addL_C {f : Nat} (hx : K.1 x = 0) (hp : ¬ K.1 p = 0) (hf : ¬ f = fd) : (addL G K q fd x).2.2.1 f p = K.2.2.1 f p := by
  have hpx : ¬ p = x := fun z => hp (by rw [z]; exact hx)
  exact (kC_of hf).trans ((kC_ne hpx).trans (((kN_ext (s := 5) (n := 0) hx p hp).2.2.1) f))
theorem addL_f : (addL G K q fd x).2.2.1 fd q = some x := kC_eq
theorem addL_ls (hqx : ¬ x = q) : LsC G (addL G K q fd x) x es 0 it 0 := ⟨if_pos rfl, (show (kI (kN K x 5 0) 22 x 0).2.1 23 x = nI 0 from (kI_of (by decide)).trans ((if_pos rfl).trans (show (0 : Int32) = nI 0 by decide))), by omega, Or.inl ⟨(kC_ne hqx).trans kC_eq, rfl, rfl⟩⟩
end AL
theorem dX2_init_0 : decode cX2_init 0 = .ok (.aload_n 0, 1) := by decide +kernel
theorem dX2_init_1 : decode cX2_init 1 = .ok (.invokespecial 3, 3) := by decide +kernel
theorem dX2_init_4 : decode cX2_init 4 = .ok (.aload_n 0, 1) := by decide +kernel
theorem dX2_init_5 : decode cX2_init 5 = .ok (.iload_n 1, 1) := by decide +kernel
theorem dX2_init_6 : decode cX2_init 6 = .ok (.putfield 9, 3) := by decide +kernel
theorem dX2_init_9 : decode cX2_init 9 = .ok (.aload_n 0, 1) := by decide +kernel
theorem dX2_init_10 : decode cX2_init 10 = .ok (.iload_n 2, 1) := by decide +kernel
theorem dX2_init_11 : decode cX2_init 11 = .ok (.putfield 15, 3) := by decide +kernel
theorem dX2_init_14 : decode cX2_init 14 = .ok (.aload_n 0, 1) := by decide +kernel
theorem dX2_init_15 : decode cX2_init 15 = .ok (.iload_n 3, 1) := by decide +kernel
theorem dX2_init_16 : decode cX2_init 16 = .ok (.putfield 18, 3) := by decide +kernel
theorem dX2_init_19 : decode cX2_init 19 = .ok (.aload_n 0, 1) := by decide +kernel
theorem dX2_init_20 : decode cX2_init 20 = .ok (.iload 4, 2) := by decide +kernel
theorem dX2_init_22 : decode cX2_init 22 = .ok (.putfield 21, 3) := by decide +kernel
theorem dX2_init_25 : decode cX2_init 25 = .ok (.aload_n 0, 1) := by decide +kernel
theorem dX2_init_26 : decode cX2_init 26 = .ok (.iconst (-1), 1) := by decide +kernel
theorem dX2_init_27 : decode cX2_init 27 = .ok (.putfield 25, 3) := by decide +kernel
theorem dX2_init_30 : decode cX2_init 30 = .ok (.aload_n 0, 1) := by decide +kernel
theorem dX2_init_31 : decode cX2_init 31 = .ok (.new 28, 3) := by decide +kernel
theorem dX2_init_34 : decode cX2_init 34 = .ok (.dup, 1) := by decide +kernel
theorem dX2_init_35 : decode cX2_init 35 = .ok (.invokespecial 30, 3) := by decide +kernel
theorem dX2_init_38 : decode cX2_init 38 = .ok (.putfield 31, 3) := by decide +kernel
theorem dX2_init_41 : decode cX2_init 41 = .ok (.aload_n 0, 1) := by decide +kernel
theorem dX2_init_42 : decode cX2_init 42 = .ok (.new 28, 3) := by decide +kernel
theorem dX2_init_45 : decode cX2_init 45 = .ok (.dup, 1) := by decide +kernel
theorem dX2_init_46 : decode cX2_init 46 = .ok (.invokespecial 30, 3) := by decide +kernel
theorem dX2_init_49 : decode cX2_init 49 = .ok (.putfield 35, 3) := by decide +kernel
theorem dX2_init_52 : decode cX2_init 52 = .ok (.aload_n 0, 1) := by decide +kernel
theorem dX2_init_53 : decode cX2_init 53 = .ok (.new 28, 3) := by decide +kernel
theorem dX2_init_56 : decode cX2_init 56 = .ok (.dup, 1) := by decide +kernel
theorem dX2_init_57 : decode cX2_init 57 = .ok (.invokespecial 30, 3) := by decide +kernel
theorem dX2_init_60 : decode cX2_init 60 = .ok (.putfield 38, 3) := by decide +kernel
theorem dX2_init_63 : decode cX2_init 63 = .ok (.aload_n 0, 1) := by decide +kernel
theorem dX2_init_64 : decode cX2_init 64 = .ok (.new 28, 3) := by decide +kernel
theorem dX2_init_67 : decode cX2_init 67 = .ok (.dup, 1) := by decide +kernel
theorem dX2_init_68 : decode cX2_init 68 = .ok (.invokespecial 30, 3) := by decide +kernel
theorem dX2_init_71 : decode cX2_init 71 = .ok (.putfield 41, 3) := by decide +kernel
theorem dX2_init_74 : decode cX2_init 74 = .ok (.return_, 1) := by decide +kernel
theorem hS_Jx4a65c_init_da8c8 : yJx4a65c_init_da8c8.cls ≠ "java/lang/invoke/MethodHandle" ∧ yJx4a65c_init_da8c8.cls ≠ "java/lang/invoke/VarHandle" ∧ (parseMethodDescriptor yJx4a65c_init_da8c8.desc).map (fun d => d.parameters.length) = some 0 := by decide +kernel
set_option maxHeartbeats 8000000 in
set_option maxRecDepth 100000 in
theorem D_init (l : Launch) (G : pT) (h0 : Nat) (a : Nat → Nat) (F : Nat → Int32) (R : Nat → Value) (Z : Int64) (B : Nat → Nat → Int32) (J : Nat → Nat → Int64) (K : PK) (w : va_W) (q0 : Nat) (x1 : Int32) (x2 : Int32) (x3 : Int32) (x4 : Nat) (hT0 : K.1 q0 = 4) (hx4 : x4 ≤ 1) (hO : OKP G h0 a F R Z B J K w) : PM l G pX0 yX2_init cX2_init 5 none ({ frames := 5, cells := 4, slots := 12, locals := 120 }) [.ref q0, .int x1, .int x2, .int x3, .int (nI x4)] w (fun (v : Option Value) (u : va_W × (Nat × Nat × Nat × Nat)) => v = none ∧ ((kI (kI (kI (kI (kI K 15 q0 x1) 16 q0 x2) 17 q0 x3) 18 q0 (nI x4)) 19 q0 (-1)).1 u.2.1 = 0) ∧ ((addL G (kI (kI (kI (kI (kI K 15 q0 x1) 16 q0 x2) 17 q0 x3) 18 q0 (nI x4)) 19 q0 (-1)) q0 8 u.2.1).1 u.2.2.1 = 0) ∧ ((addL G (addL G (kI (kI (kI (kI (kI K 15 q0 x1) 16 q0 x2) 17 q0 x3) 18 q0 (nI x4)) 19 q0 (-1)) q0 8 u.2.1) q0 9 u.2.2.1).1 u.2.2.2.1 = 0) ∧ ((addL G (addL G (addL G (kI (kI (kI (kI (kI K 15 q0 x1) 16 q0 x2) 17 q0 x3) 18 q0 (nI x4)) 19 q0 (-1)) q0 8 u.2.1) q0 9 u.2.2.1) q0 11 u.2.2.2.1).1 u.2.2.2.2 = 0) ∧ (OKP G h0 a F R Z B J (addL G (addL G (addL G (addL G (kI (kI (kI (kI (kI K 15 q0 x1) 16 q0 x2) 17 q0 x3) 18 q0 (nI x4)) 19 q0 (-1)) q0 8 u.2.1) q0 9 u.2.2.1) q0 11 u.2.2.2.1) q0 12 u.2.2.2.2) u.1)) (fun u => u.1) := by
  intro sz
  refine Met.ofW (cc := cX2_init) (maxL := 5) (ret := none) (by decide) rfl ?_
  intro p e s m args below meth c s₁ B9 hml hv
  obtain ⟨rfl, hsz, hP, hD0, hE, hX⟩ := hv
  have hx := B9.exec
  have hb := B9.bytes
  have hr := B9.returns
  have hts := atoms_spec (ws := Cond.code yX2_init cX2_init 5 none :: pw) B9.pre
  have hq : ∀ w ∈ pw, w.before _ s = true := fun w h => hts w (List.mem_cons_of_mem _ h)
  have hown : s.vm.findClass RX2 = some m.cls := findClass_of_methodNamed B9.named
  have hlocks := B9.notSynchronized
  have hin : meth.name = "<init>" := (name_of_methodNamed B9.named B9.method).1
  subst hsz
  have hD := hD0.self (sz := s.heap.size)
  have hA : ∀ q : Nat, s.heap.size ≤ q → va_A w s.heap.size q := fun q h => Or.inr h
  generalize va_A w s.heap.size = A at hD hE hA ⊢
  have hS : va_S A s.heap s.heap [] := va_S.rf
  have hl := lv_entry ([.ref q0, .int x1, .int x2, .int x3, .int (nI x4)]) (n := 5) (Nat.le_of_ble_eq_true rfl)
  rw [lg_entry_eq]
  generalize (lg_sl ([.ref q0, .int x1, .int x2, .int x3, .int (nI x4)]) ++ List.replicate (5 - (lg_sl ([.ref q0, .int x1, .int x2, .int x3, .int (nI x4)])).length) Slot.unset).toArray = ls at hl ⊢
  have hl : lv_has ls 5 [(0, .ref q0), (1, .int x1), (2, .int x2), (3, .int x3), (4, .int (nI x4))] := hl
  refine lv_aload_n hx hb dX2_init_0 rfl (lv_at hl 0 rfl) ?_
  refine W.objInit hx hb hown (hq _ pw_399) (hq _ pw_2) (hq _ pw_3) rfl (by rw [hml]; exact hl.1) rfl dX2_init_1 (Nat.le_of_ble_eq_true rfl) (Nat.le_of_ble_eq_true rfl) ?_
  refine W.eq (g2 := F0 m 4 ls []) rfl ?_
  refine lv_aload_n hx hb dX2_init_4 rfl (lv_at hl 0 rfl) ?_
  refine lv_iload_n hx hb dX2_init_5 rfl (lv_at hl 1 rfl) ?_
  refine p_putF (v := .int x1) (ty := .int) (C := RX2) (Tc := TX2) (N := 13) (ci := 2) (K' := (kI K 15 q0 x1)) hx hb hq pin_wsX20 tyX2 tyX2_ok nmX2 hown hE hP hD hS hO (by rw [hT0]; decide) (rep_4 hT0) rfl 0 (by decide) (hq _ pw_400) (fun _ h9 => h9) rfl hin rfl (by decide +kernel) rfl rfl (Nat.le_of_ble_eq_true rfl) rfl (by rw [rep_4 (show (kI K 15 q0 x1).1 q0 = 4 from hT0), pi_15] <;> rfl) (fun p9 hp9 => rep_kI hp9) dX2_init_6 (fun H locs w hP hD hS hO => ?_)
  obtain ⟨K1, hK2⟩ : ∃ z : PK, z = (kI K 15 q0 x1) := ⟨_, rfl⟩
  rw [← hK2] at hO
  have hf3 : K1.1 q0 = 4 := (by rw [hK2]; exact hT0)
  have hf4 : K1.2.1 15 q0 = x1 := by rw [hK2]; exact kI_eq
  refine lv_aload_n hx hb dX2_init_9 rfl (lv_at hl 0 rfl) ?_
  refine lv_iload_n hx hb dX2_init_10 rfl (lv_at hl 2 rfl) ?_
  refine p_putF (v := .int x2) (ty := .int) (C := RX2) (Tc := TX2) (N := 13) (ci := 2) (K' := (kI K1 16 q0 x2)) hx hb hq pin_wsX20 tyX2 tyX2_ok nmX2 hown hE hP hD hS hO (by rw [hf3]; decide) (rep_4 hf3) rfl 1 (by decide) (hq _ pw_401) (fun _ h9 => h9) rfl hin rfl (by decide +kernel) rfl rfl (Nat.le_of_ble_eq_true rfl) rfl (by rw [rep_4 (show (kI K1 16 q0 x2).1 q0 = 4 from hf3), pi_16] <;> rfl) (fun p9 hp9 => rep_kI hp9) dX2_init_11 (fun H locs w hP hD hS hO => ?_)
  obtain ⟨K5, hK6⟩ : ∃ z : PK, z = (kI K1 16 q0 x2) := ⟨_, rfl⟩
  rw [← hK6] at hO
  have hf7 : K5.1 q0 = 4 := (by rw [hK6]; exact hf3)
  have hf8 : K5.2.1 15 q0 = x1 := (by rw [hK6]; exact (kI_of (by decide)).trans hf4)
  have hf9 : K5.2.1 16 q0 = x2 := by rw [hK6]; exact kI_eq
  refine lv_aload_n hx hb dX2_init_14 rfl (lv_at hl 0 rfl) ?_
  refine lv_iload_n hx hb dX2_init_15 rfl (lv_at hl 3 rfl) ?_
  refine p_putF (v := .int x3) (ty := .int) (C := RX2) (Tc := TX2) (N := 13) (ci := 2) (K' := (kI K5 17 q0 x3)) hx hb hq pin_wsX20 tyX2 tyX2_ok nmX2 hown hE hP hD hS hO (by rw [hf7]; decide) (rep_4 hf7) rfl 2 (by decide) (hq _ pw_402) (fun _ h9 => h9) rfl hin rfl (by decide +kernel) rfl rfl (Nat.le_of_ble_eq_true rfl) rfl (by rw [rep_4 (show (kI K5 17 q0 x3).1 q0 = 4 from hf7), pi_17] <;> rfl) (fun p9 hp9 => rep_kI hp9) dX2_init_16 (fun H locs w hP hD hS hO => ?_)
  obtain ⟨K10, hK11⟩ : ∃ z : PK, z = (kI K5 17 q0 x3) := ⟨_, rfl⟩
  rw [← hK11] at hO
  have hf12 : K10.1 q0 = 4 := (by rw [hK11]; exact hf7)
  have hf13 : K10.2.1 15 q0 = x1 := (by rw [hK11]; exact (kI_of (by decide)).trans hf8)
  have hf14 : K10.2.1 16 q0 = x2 := (by rw [hK11]; exact (kI_of (by decide)).trans hf9)
  have hf15 : K10.2.1 17 q0 = x3 := by rw [hK11]; exact kI_eq
  refine lv_aload_n hx hb dX2_init_19 rfl (lv_at hl 0 rfl) ?_
  refine lv_iload hx hb dX2_init_20 (lv_at hl 4 rfl) ?_
  refine p_putF (v := .int (nI x4)) (ty := .boolean) (C := RX2) (Tc := TX2) (N := 13) (ci := 2) (K' := (kI K10 18 q0 (nI x4))) hx hb hq pin_wsX20 tyX2 tyX2_ok nmX2 hown hE hP hD hS hO (by rw [hf12]; decide) (rep_4 hf12) rfl 3 (by decide) (hq _ pw_403) (fun _ h9 => h9) rfl hin rfl (by decide +kernel) (nI_nar hx4) (by rcases (show x4 = 0 ∨ x4 = 1 by omega) with e | e <;> rw [e] <;> rfl) (Nat.le_of_ble_eq_true rfl) rfl (by rw [rep_4 (show (kI K10 18 q0 (nI x4)).1 q0 = 4 from hf12), pi_18] <;> rfl) (fun p9 hp9 => rep_kI hp9) dX2_init_22 (fun H locs w hP hD hS hO => ?_)
  obtain ⟨K16, hK17⟩ : ∃ z : PK, z = (kI K10 18 q0 (nI x4)) := ⟨_, rfl⟩
  rw [← hK17] at hO
  have hf18 : K16.1 q0 = 4 := (by rw [hK17]; exact hf12)
  have hf19 : K16.2.1 15 q0 = x1 := (by rw [hK17]; exact (kI_of (by decide)).trans hf13)
  have hf20 : K16.2.1 16 q0 = x2 := (by rw [hK17]; exact (kI_of (by decide)).trans hf14)
  have hf21 : K16.2.1 17 q0 = x3 := (by rw [hK17]; exact (kI_of (by decide)).trans hf15)
  have hf22 : K16.2.1 18 q0 = (nI x4) := by rw [hK17]; exact kI_eq
  refine lv_aload_n hx hb dX2_init_25 rfl (lv_at hl 0 rfl) ?_
  refine lv_iconst (v := (-1)) hx hb dX2_init_26 (by decide) ?_
  refine p_put (v := .int (-1)) (ty := .int) (C := RX2) (Tc := TX2) (N := 13) (ci := 2) (K' := (kI K16 19 q0 (-1))) hx hb hq pin_wsX20 tyX2 tyX2_ok nmX2 hown hE hP hD hS hO (by rw [hf18]; decide) (rep_4 hf18) rfl 4 (by decide) (hq _ pw_404) (fun _ h9 => h9) rfl (by decide +kernel) rfl rfl (Nat.le_of_ble_eq_true rfl) rfl (by rw [rep_4 (show (kI K16 19 q0 (-1)).1 q0 = 4 from hf18), pi_19] <;> rfl) (fun p9 hp9 => rep_kI hp9) dX2_init_27 (fun H locs w hP hD hS hO => ?_)
  obtain ⟨K23, hK24⟩ : ∃ z : PK, z = (kI K16 19 q0 (-1)) := ⟨_, rfl⟩
  rw [← hK24] at hO
  have hf25 : K23.1 q0 = 4 := (by rw [hK24]; exact hf18)
  have hf26 : K23.2.1 15 q0 = x1 := (by rw [hK24]; exact (kI_of (by decide)).trans hf19)
  have hf27 : K23.2.1 16 q0 = x2 := (by rw [hK24]; exact (kI_of (by decide)).trans hf20)
  have hf28 : K23.2.1 17 q0 = x3 := (by rw [hK24]; exact (kI_of (by decide)).trans hf21)
  have hf29 : K23.2.1 18 q0 = (nI x4) := (by rw [hK24]; exact (kI_of (by decide)).trans hf22)
  have hf30 : K23.2.1 19 q0 = (-1) := by rw [hK24]; exact kI_eq
  refine lv_aload_n hx hb dX2_init_30 rfl (lv_at hl 0 rfl) ?_
  refine p_new (s9 := 5) (C := RJx4a65c) (T := TJx4a65c) (N := 3) (ci := 10) (fs := [.int 0, .null, .int 0]) hx hb hq pin_wsJx4a65c0 tyJx4a65c tyJx4a65c_ok hown (hq _ pw_405) (hq _ pw_406) (hq _ pw_32) hE hP hD hS hA hO rfl nw_Jx4a65c (by decide) (fun q => by rw [rep_5 (show (kN K23 q 5 0).1 q = 5 from if_pos rfl)]; unfold fsList kN; simp only [if_true]; rfl) (by show 0 + 1 ≤ 4; omega) (by show 0 + 3 ≤ 12; omega) dX2_init_31 (fun q31 H w hq32 hP hD hS hO => ?_)
  have hf33 : (kN K23 q31 5 0).1 q0 = 4 := (if_neg (fun z => by have z2 := hf25; rw [z, hq32] at z2; exact absurd z2 (by decide))).trans hf25
  have hf34 : (kN K23 q31 5 0).2.1 15 q0 = x1 := (if_neg (fun z => by have z2 := hf25; rw [z, hq32] at z2; exact absurd z2 (by decide))).trans hf26
  have hf35 : (kN K23 q31 5 0).2.1 16 q0 = x2 := (if_neg (fun z => by have z2 := hf25; rw [z, hq32] at z2; exact absurd z2 (by decide))).trans hf27
  have hf36 : (kN K23 q31 5 0).2.1 17 q0 = x3 := (if_neg (fun z => by have z2 := hf25; rw [z, hq32] at z2; exact absurd z2 (by decide))).trans hf28
  have hf37 : (kN K23 q31 5 0).2.1 18 q0 = (nI x4) := (if_neg (fun z => by have z2 := hf25; rw [z, hq32] at z2; exact absurd z2 (by decide))).trans hf29
  have hf38 : (kN K23 q31 5 0).2.1 19 q0 = (-1) := (if_neg (fun z => by have z2 := hf25; rw [z, hq32] at z2; exact absurd z2 (by decide))).trans hf30
  have hf39 : (kN K23 q31 5 0).1 q31 = 5 := if_pos rfl
  refine W.widen (k := 1) (n := 3) (by show 0 + 1 ≤ 1; omega) (by show 0 + 3 ≤ 3; omega) ?_
  refine lv_dup hx hb dX2_init_34 rfl ?_
  have hO : OKP G h0 a F R Z B J (kN K23 q31 5 0) w := hO.to rfl
  obtain ⟨qr43, hqr44⟩ := p_recv hO (by rw [hf39]; decide) (rep_5 hf39)
  refine pc_I0 (G := G) (As := []) (rest := [.ref q31, .ref q0]) hx hb hml hown hq hE hX pX0_al hP hD hS hA hl.1 (L_init l G h0 a F R Z B J (kN K23 q31 5 0) w q31 hf39 hO) pw_408 pw_409 pw_32 pw_394 rfl hS_Jx4a65c_init_da8c8 rfl (Nat.le_of_ble_eq_true rfl) dX2_init_35 ⟨(by show 1 + 0 ≤ 4; omega), (by show 3 + 0 ≤ 12; omega)⟩ ⟨Nat.le_of_ble_eq_true rfl, Nat.le_of_ble_eq_true rfl⟩ (fun v42 u40 H locs hw41 hP hD hS => ?_)
  obtain ⟨w, _⟩ := u40
  obtain ⟨hw41, hO⟩ := hw41
  obtain rfl : v42 = none := hw41
  have hf45 : (kC (kI (kN K23 q31 5 0) 22 q31 0) 13 q31 (some G.2.2.2.2)).1 q0 = 4 := hf33
  have hf46 : (kC (kI (kN K23 q31 5 0) 22 q31 0) 13 q31 (some G.2.2.2.2)).1 q31 = 5 := hf39
  have hO : OKP G h0 a F R Z B J (kC (kI (kN K23 q31 5 0) 22 q31 0) 13 q31 (some G.2.2.2.2)) w := hO.to rfl
  refine W.widen (k := 1) (n := 3) (by show 1 + 0 ≤ 1; omega) (by show 3 + 0 ≤ 3; omega) ?_
  refine W.eq (g2 := F0 m 38 ls [.ref q31, .ref q0]) rfl ?_
  refine p_putF (v := .ref q31) (ty := (.object "java/util/ArrayList")) (C := RX2) (Tc := TX2) (N := 13) (ci := 2) (K' := (kC (kC (kI (kN K23 q31 5 0) 22 q31 0) 13 q31 (some G.2.2.2.2)) 8 q0 (some q31))) hx hb hq pin_wsX20 tyX2 tyX2_ok nmX2 hown hE hP hD hS hO (by rw [hf45]; decide) (rep_4 hf45) rfl 7 (by decide) (hq _ pw_407) (fun _ h9 => h9) rfl hin rfl (by decide +kernel) rfl rfl (Nat.le_of_ble_eq_true rfl) rfl (by rw [rep_4 (show (kC (kC (kI (kN K23 q31 5 0) 22 q31 0) 13 q31 (some G.2.2.2.2)) 8 q0 (some q31)).1 q0 = 4 from hf45), pc_8] <;> rfl) (fun p9 hp9 => rep_kC hp9) dX2_init_38 (fun H locs w hP hD hS hO => ?_)
  obtain ⟨K47, hK48⟩ : ∃ z : PK, z = (kC (kC (kI (kN K23 q31 5 0) 22 q31 0) 13 q31 (some G.2.2.2.2)) 8 q0 (some q31)) := ⟨_, rfl⟩
  rw [← hK48] at hO
  have hf49 : K47.1 q0 = 4 := (by rw [hK48]; exact hf45)
  have hf50 : K47.1 q31 = 5 := (by rw [hK48]; exact hf46)
  have hf51 : K47.2.2.1 8 q0 = some q31 := by rw [hK48]; exact kC_eq
  refine lv_aload_n hx hb dX2_init_41 rfl (lv_at hl 0 rfl) ?_
  refine p_new (s9 := 5) (C := RJx4a65c) (T := TJx4a65c) (N := 3) (ci := 10) (fs := [.int 0, .null, .int 0]) hx hb hq pin_wsJx4a65c0 tyJx4a65c tyJx4a65c_ok hown (hq _ pw_405) (hq _ pw_406) (hq _ pw_32) hE hP hD hS hA hO rfl nw_Jx4a65c (by decide) (fun q => by rw [rep_5 (show (kN K47 q 5 0).1 q = 5 from if_pos rfl)]; unfold fsList kN; simp only [if_true]; rfl) (by show 1 + 1 ≤ 4; omega) (by show 3 + 3 ≤ 12; omega) dX2_init_42 (fun q52 H w hq53 hP hD hS hO => ?_)
  have hf54 : (kN K47 q52 5 0).1 q0 = 4 := (if_neg (fun z => by have z2 := hf49; rw [z, hq53] at z2; exact absurd z2 (by decide))).trans hf49
  have hf55 : (kN K47 q52 5 0).1 q31 = 5 := (if_neg (fun z => by have z2 := hf50; rw [z, hq53] at z2; exact absurd z2 (by decide))).trans hf50
  have hf56 : (kN K47 q52 5 0).2.2.1 8 q0 = some q31 := (if_neg (fun z => by have z2 := hf49; rw [z, hq53] at z2; exact absurd z2 (by decide))).trans hf51
  have hf57 : (kN K47 q52 5 0).1 q52 = 5 := if_pos rfl
  refine W.widen (k := 2) (n := (3 + 3)) (by show 1 + 1 ≤ 2; omega) (by show 3 + 3 ≤ (3 + 3); omega) ?_
  refine lv_dup hx hb dX2_init_45 rfl ?_
  have hO : OKP G h0 a F R Z B J (kN K47 q52 5 0) w := hO.to rfl
  obtain ⟨qr61, hqr62⟩ := p_recv hO (by rw [hf57]; decide) (rep_5 hf57)
  refine pc_I0 (G := G) (As := []) (rest := [.ref q52, .ref q0]) hx hb hml hown hq hE hX pX0_al hP hD hS hA hl.1 (L_init l G h0 a F R Z B J (kN K47 q52 5 0) w q52 hf57 hO) pw_408 pw_409 pw_32 pw_394 rfl hS_Jx4a65c_init_da8c8 rfl (Nat.le_of_ble_eq_true rfl) dX2_init_46 ⟨(by show 2 + 0 ≤ 4; omega), (by show (3 + 3) + 0 ≤ 12; omega)⟩ ⟨Nat.le_of_ble_eq_true rfl, Nat.le_of_ble_eq_true rfl⟩ (fun v60 u58 H locs hw59 hP hD hS => ?_)
  obtain ⟨w, _⟩ := u58
  obtain ⟨hw59, hO⟩ := hw59
  obtain rfl : v60 = none := hw59
  have hf63 : (kC (kI (kN K47 q52 5 0) 22 q52 0) 13 q52 (some G.2.2.2.2)).1 q0 = 4 := hf54
  have hf64 : (kC (kI (kN K47 q52 5 0) 22 q52 0) 13 q52 (some G.2.2.2.2)).1 q31 = 5 := hf55
  have hf65 : (kC (kI (kN K47 q52 5 0) 22 q52 0) 13 q52 (some G.2.2.2.2)).1 q52 = 5 := hf57
  have hO : OKP G h0 a F R Z B J (kC (kI (kN K47 q52 5 0) 22 q52 0) 13 q52 (some G.2.2.2.2)) w := hO.to rfl
  refine W.widen (k := 2) (n := (3 + 3)) (by show 2 + 0 ≤ 2; omega) (by show (3 + 3) + 0 ≤ (3 + 3); omega) ?_
  refine W.eq (g2 := F0 m 49 ls [.ref q52, .ref q0]) rfl ?_
  refine p_putF (v := .ref q52) (ty := (.object "java/util/ArrayList")) (C := RX2) (Tc := TX2) (N := 13) (ci := 2) (K' := (kC (kC (kI (kN K47 q52 5 0) 22 q52 0) 13 q52 (some G.2.2.2.2)) 9 q0 (some q52))) hx hb hq pin_wsX20 tyX2 tyX2_ok nmX2 hown hE hP hD hS hO (by rw [hf63]; decide) (rep_4 hf63) rfl 8 (by decide) (hq _ pw_148) (fun _ h9 => h9) rfl hin rfl (by decide +kernel) rfl rfl (Nat.le_of_ble_eq_true rfl) rfl (by rw [rep_4 (show (kC (kC (kI (kN K47 q52 5 0) 22 q52 0) 13 q52 (some G.2.2.2.2)) 9 q0 (some q52)).1 q0 = 4 from hf63), pc_9] <;> rfl) (fun p9 hp9 => rep_kC hp9) dX2_init_49 (fun H locs w hP hD hS hO => ?_)
  obtain ⟨K66, hK67⟩ : ∃ z : PK, z = (kC (kC (kI (kN K47 q52 5 0) 22 q52 0) 13 q52 (some G.2.2.2.2)) 9 q0 (some q52)) := ⟨_, rfl⟩
  rw [← hK67] at hO
  have hf68 : K66.1 q0 = 4 := (by rw [hK67]; exact hf63)
  have hf69 : K66.1 q31 = 5 := (by rw [hK67]; exact hf64)
  have hf70 : K66.1 q52 = 5 := (by rw [hK67]; exact hf65)
  have hf71 : K66.2.2.1 9 q0 = some q52 := by rw [hK67]; exact kC_eq
  refine lv_aload_n hx hb dX2_init_52 rfl (lv_at hl 0 rfl) ?_
  refine p_new (s9 := 5) (C := RJx4a65c) (T := TJx4a65c) (N := 3) (ci := 10) (fs := [.int 0, .null, .int 0]) hx hb hq pin_wsJx4a65c0 tyJx4a65c tyJx4a65c_ok hown (hq _ pw_405) (hq _ pw_406) (hq _ pw_32) hE hP hD hS hA hO rfl nw_Jx4a65c (by decide) (fun q => by rw [rep_5 (show (kN K66 q 5 0).1 q = 5 from if_pos rfl)]; unfold fsList kN; simp only [if_true]; rfl) (by show 2 + 1 ≤ 4; omega) (by show (3 + 3) + 3 ≤ 12; omega) dX2_init_53 (fun q72 H w hq73 hP hD hS hO => ?_)
  have hf74 : (kN K66 q72 5 0).1 q0 = 4 := (if_neg (fun z => by have z2 := hf68; rw [z, hq73] at z2; exact absurd z2 (by decide))).trans hf68
  have hf75 : (kN K66 q72 5 0).1 q31 = 5 := (if_neg (fun z => by have z2 := hf69; rw [z, hq73] at z2; exact absurd z2 (by decide))).trans hf69
  have hf76 : (kN K66 q72 5 0).1 q52 = 5 := (if_neg (fun z => by have z2 := hf70; rw [z, hq73] at z2; exact absurd z2 (by decide))).trans hf70
  have hf77 : (kN K66 q72 5 0).2.2.1 9 q0 = some q52 := (if_neg (fun z => by have z2 := hf68; rw [z, hq73] at z2; exact absurd z2 (by decide))).trans hf71
  have hf78 : (kN K66 q72 5 0).1 q72 = 5 := if_pos rfl
  refine W.widen (k := 3) (n := ((3 + 3) + 3)) (by show 2 + 1 ≤ 3; omega) (by show (3 + 3) + 3 ≤ ((3 + 3) + 3); omega) ?_
  refine lv_dup hx hb dX2_init_56 rfl ?_
  have hO : OKP G h0 a F R Z B J (kN K66 q72 5 0) w := hO.to rfl
  obtain ⟨qr82, hqr83⟩ := p_recv hO (by rw [hf78]; decide) (rep_5 hf78)
  refine pc_I0 (G := G) (As := []) (rest := [.ref q72, .ref q0]) hx hb hml hown hq hE hX pX0_al hP hD hS hA hl.1 (L_init l G h0 a F R Z B J (kN K66 q72 5 0) w q72 hf78 hO) pw_408 pw_409 pw_32 pw_394 rfl hS_Jx4a65c_init_da8c8 rfl (Nat.le_of_ble_eq_true rfl) dX2_init_57 ⟨(by show 3 + 0 ≤ 4; omega), (by show ((3 + 3) + 3) + 0 ≤ 12; omega)⟩ ⟨Nat.le_of_ble_eq_true rfl, Nat.le_of_ble_eq_true rfl⟩ (fun v81 u79 H locs hw80 hP hD hS => ?_)
  obtain ⟨w, _⟩ := u79
  obtain ⟨hw80, hO⟩ := hw80
  obtain rfl : v81 = none := hw80
  have hf84 : (kC (kI (kN K66 q72 5 0) 22 q72 0) 13 q72 (some G.2.2.2.2)).1 q0 = 4 := hf74
  have hf85 : (kC (kI (kN K66 q72 5 0) 22 q72 0) 13 q72 (some G.2.2.2.2)).1 q31 = 5 := hf75
  have hf86 : (kC (kI (kN K66 q72 5 0) 22 q72 0) 13 q72 (some G.2.2.2.2)).1 q52 = 5 := hf76
  have hf87 : (kC (kI (kN K66 q72 5 0) 22 q72 0) 13 q72 (some G.2.2.2.2)).1 q72 = 5 := hf78
  have hO : OKP G h0 a F R Z B J (kC (kI (kN K66 q72 5 0) 22 q72 0) 13 q72 (some G.2.2.2.2)) w := hO.to rfl
  refine W.widen (k := 3) (n := ((3 + 3) + 3)) (by show 3 + 0 ≤ 3; omega) (by show ((3 + 3) + 3) + 0 ≤ ((3 + 3) + 3); omega) ?_
  refine W.eq (g2 := F0 m 60 ls [.ref q72, .ref q0]) rfl ?_
  refine p_putF (v := .ref q72) (ty := (.object "java/util/ArrayList")) (C := RX2) (Tc := TX2) (N := 13) (ci := 2) (K' := (kC (kC (kI (kN K66 q72 5 0) 22 q72 0) 13 q72 (some G.2.2.2.2)) 11 q0 (some q72))) hx hb hq pin_wsX20 tyX2 tyX2_ok nmX2 hown hE hP hD hS hO (by rw [hf84]; decide) (rep_4 hf84) rfl 11 (by decide) (hq _ pw_138) (fun _ h9 => h9) rfl hin rfl (by decide +kernel) rfl rfl (Nat.le_of_ble_eq_true rfl) rfl (by rw [rep_4 (show (kC (kC (kI (kN K66 q72 5 0) 22 q72 0) 13 q72 (some G.2.2.2.2)) 11 q0 (some q72)).1 q0 = 4 from hf84), pc_11] <;> rfl) (fun p9 hp9 => rep_kC hp9) dX2_init_60 (fun H locs w hP hD hS hO => ?_)
  obtain ⟨K88, hK89⟩ : ∃ z : PK, z = (kC (kC (kI (kN K66 q72 5 0) 22 q72 0) 13 q72 (some G.2.2.2.2)) 11 q0 (some q72)) := ⟨_, rfl⟩
  rw [← hK89] at hO
  have hf90 : K88.1 q0 = 4 := (by rw [hK89]; exact hf84)
  have hf91 : K88.1 q31 = 5 := (by rw [hK89]; exact hf85)
  have hf92 : K88.1 q52 = 5 := (by rw [hK89]; exact hf86)
  have hf93 : K88.1 q72 = 5 := (by rw [hK89]; exact hf87)
  have hf94 : K88.2.2.1 11 q0 = some q72 := by rw [hK89]; exact kC_eq
  refine lv_aload_n hx hb dX2_init_63 rfl (lv_at hl 0 rfl) ?_
  refine p_new (s9 := 5) (C := RJx4a65c) (T := TJx4a65c) (N := 3) (ci := 10) (fs := [.int 0, .null, .int 0]) hx hb hq pin_wsJx4a65c0 tyJx4a65c tyJx4a65c_ok hown (hq _ pw_405) (hq _ pw_406) (hq _ pw_32) hE hP hD hS hA hO rfl nw_Jx4a65c (by decide) (fun q => by rw [rep_5 (show (kN K88 q 5 0).1 q = 5 from if_pos rfl)]; unfold fsList kN; simp only [if_true]; rfl) (by show 3 + 1 ≤ 4; omega) (by show ((3 + 3) + 3) + 3 ≤ 12; omega) dX2_init_64 (fun q95 H w hq96 hP hD hS hO => ?_)
  have hf97 : (kN K88 q95 5 0).1 q0 = 4 := (if_neg (fun z => by have z2 := hf90; rw [z, hq96] at z2; exact absurd z2 (by decide))).trans hf90
  have hf98 : (kN K88 q95 5 0).1 q31 = 5 := (if_neg (fun z => by have z2 := hf91; rw [z, hq96] at z2; exact absurd z2 (by decide))).trans hf91
  have hf99 : (kN K88 q95 5 0).1 q52 = 5 := (if_neg (fun z => by have z2 := hf92; rw [z, hq96] at z2; exact absurd z2 (by decide))).trans hf92
  have hf100 : (kN K88 q95 5 0).1 q72 = 5 := (if_neg (fun z => by have z2 := hf93; rw [z, hq96] at z2; exact absurd z2 (by decide))).trans hf93
  have hf101 : (kN K88 q95 5 0).2.2.1 11 q0 = some q72 := (if_neg (fun z => by have z2 := hf90; rw [z, hq96] at z2; exact absurd z2 (by decide))).trans hf94
  have hf102 : (kN K88 q95 5 0).1 q95 = 5 := if_pos rfl
  refine W.widen (k := 4) (n := (((3 + 3) + 3) + 3)) (by show 3 + 1 ≤ 4; omega) (by show ((3 + 3) + 3) + 3 ≤ (((3 + 3) + 3) + 3); omega) ?_
  refine lv_dup hx hb dX2_init_67 rfl ?_
  have hO : OKP G h0 a F R Z B J (kN K88 q95 5 0) w := hO.to rfl
  obtain ⟨qr106, hqr107⟩ := p_recv hO (by rw [hf102]; decide) (rep_5 hf102)
  refine pc_I0 (G := G) (As := []) (rest := [.ref q95, .ref q0]) hx hb hml hown hq hE hX pX0_al hP hD hS hA hl.1 (L_init l G h0 a F R Z B J (kN K88 q95 5 0) w q95 hf102 hO) pw_408 pw_409 pw_32 pw_394 rfl hS_Jx4a65c_init_da8c8 rfl (Nat.le_of_ble_eq_true rfl) dX2_init_68 ⟨(by show 4 + 0 ≤ 4; omega), (by show (((3 + 3) + 3) + 3) + 0 ≤ 12; omega)⟩ ⟨Nat.le_of_ble_eq_true rfl, Nat.le_of_ble_eq_true rfl⟩ (fun v105 u103 H locs hw104 hP hD hS => ?_)
  obtain ⟨w, _⟩ := u103
  obtain ⟨hw104, hO⟩ := hw104
  obtain rfl : v105 = none := hw104
  have hf108 : (kC (kI (kN K88 q95 5 0) 22 q95 0) 13 q95 (some G.2.2.2.2)).1 q0 = 4 := hf97
  have hf109 : (kC (kI (kN K88 q95 5 0) 22 q95 0) 13 q95 (some G.2.2.2.2)).1 q31 = 5 := hf98
  have hf110 : (kC (kI (kN K88 q95 5 0) 22 q95 0) 13 q95 (some G.2.2.2.2)).1 q52 = 5 := hf99
  have hf111 : (kC (kI (kN K88 q95 5 0) 22 q95 0) 13 q95 (some G.2.2.2.2)).1 q72 = 5 := hf100
  have hf112 : (kC (kI (kN K88 q95 5 0) 22 q95 0) 13 q95 (some G.2.2.2.2)).1 q95 = 5 := hf102
  have hO : OKP G h0 a F R Z B J (kC (kI (kN K88 q95 5 0) 22 q95 0) 13 q95 (some G.2.2.2.2)) w := hO.to rfl
  refine W.widen (k := 4) (n := (((3 + 3) + 3) + 3)) (by show 4 + 0 ≤ 4; omega) (by show (((3 + 3) + 3) + 3) + 0 ≤ (((3 + 3) + 3) + 3); omega) ?_
  refine W.eq (g2 := F0 m 71 ls [.ref q95, .ref q0]) rfl ?_
  refine p_putF (v := .ref q95) (ty := (.object "java/util/ArrayList")) (C := RX2) (Tc := TX2) (N := 13) (ci := 2) (K' := (kC (kC (kI (kN K88 q95 5 0) 22 q95 0) 13 q95 (some G.2.2.2.2)) 12 q0 (some q95))) hx hb hq pin_wsX20 tyX2 tyX2_ok nmX2 hown hE hP hD hS hO (by rw [hf108]; decide) (rep_4 hf108) rfl 12 (by decide) (hq _ pw_120) (fun _ h9 => h9) rfl hin rfl (by decide +kernel) rfl rfl (Nat.le_of_ble_eq_true rfl) rfl (by rw [rep_4 (show (kC (kC (kI (kN K88 q95 5 0) 22 q95 0) 13 q95 (some G.2.2.2.2)) 12 q0 (some q95)).1 q0 = 4 from hf108), pc_12] <;> rfl) (fun p9 hp9 => rep_kC hp9) dX2_init_71 (fun H locs w hP hD hS hO => ?_)
  obtain ⟨K113, hK114⟩ : ∃ z : PK, z = (kC (kC (kI (kN K88 q95 5 0) 22 q95 0) 13 q95 (some G.2.2.2.2)) 12 q0 (some q95)) := ⟨_, rfl⟩
  rw [← hK114] at hO
  have hf115 : K113.1 q0 = 4 := (by rw [hK114]; exact hf108)
  have hf116 : K113.1 q31 = 5 := (by rw [hK114]; exact hf109)
  have hf117 : K113.1 q52 = 5 := (by rw [hK114]; exact hf110)
  have hf118 : K113.1 q72 = 5 := (by rw [hK114]; exact hf111)
  have hf119 : K113.1 q95 = 5 := (by rw [hK114]; exact hf112)
  have hf120 : K113.2.2.1 12 q0 = some q95 := by rw [hK114]; exact kC_eq
  rw [hK114, hK89, hK67, hK48, hK24, hK17, hK11, hK6, hK2] at hO
  have hz121 : (kI (kI (kI (kI (kI K 15 q0 x1) 16 q0 x2) 17 q0 x3) 18 q0 (nI x4)) 19 q0 (-1)).1 q31 = 0 := (by have z := hq32; simp only [hK2, hK6, hK11, hK17, hK24, hK48, hK67, hK89, hK114] at z; exact z)
  have hz122 : (addL G (kI (kI (kI (kI (kI K 15 q0 x1) 16 q0 x2) 17 q0 x3) 18 q0 (nI x4)) 19 q0 (-1)) q0 8 q31).1 q52 = 0 := (by have z := hq53; simp only [hK2, hK6, hK11, hK17, hK24, hK48, hK67, hK89, hK114] at z; exact z)
  have hz123 : (addL G (addL G (kI (kI (kI (kI (kI K 15 q0 x1) 16 q0 x2) 17 q0 x3) 18 q0 (nI x4)) 19 q0 (-1)) q0 8 q31) q0 9 q52).1 q72 = 0 := (by have z := hq73; simp only [hK2, hK6, hK11, hK17, hK24, hK48, hK67, hK89, hK114] at z; exact z)
  have hz124 : (addL G (addL G (addL G (kI (kI (kI (kI (kI K 15 q0 x1) 16 q0 x2) 17 q0 x3) 18 q0 (nI x4)) 19 q0 (-1)) q0 8 q31) q0 9 q52) q0 11 q72).1 q95 = 0 := (by have z := hq96; simp only [hK2, hK6, hK11, hK17, hK24, hK48, hK67, hK89, hK114] at z; exact z)
  have hO : OKP G h0 a F R Z B J (addL G (addL G (addL G (addL G (kI (kI (kI (kI (kI K 15 q0 x1) 16 q0 x2) 17 q0 x3) 18 q0 (nI x4)) 19 q0 (-1)) q0 8 q31) q0 9 q52) q0 11 q72) q0 12 q95) w := hO.to rfl
  refine W.widen (k := 4) (n := 12) (by omega) (by omega) ?_
  exact W.vret hx hb hr (fun t99 ht99 hW99 => ⟨⟨_, (w, (q31, q52, q72, q95)), rfl, ⟨rfl, hz121, hz122, hz123, hz124, hO⟩, by rw [ht99]; exact hP, hD⟩, hS.F ht99⟩) hS.2.2 dX2_init_74
theorem dX6_init_0 : decode cX6_init 0 = .ok (.aload_n 0, 1) := by decide +kernel
theorem dX6_init_1 : decode cX6_init 1 = .ok (.invokespecial 3, 3) := by decide +kernel
theorem dX6_init_4 : decode cX6_init 4 = .ok (.aload_n 0, 1) := by decide +kernel
theorem dX6_init_5 : decode cX6_init 5 = .ok (.aload_n 1, 1) := by decide +kernel
theorem dX6_init_6 : decode cX6_init 6 = .ok (.putfield 9, 3) := by decide +kernel
theorem dX6_init_9 : decode cX6_init 9 = .ok (.aload_n 0, 1) := by decide +kernel
theorem dX6_init_10 : decode cX6_init 10 = .ok (.iload_n 2, 1) := by decide +kernel
theorem dX6_init_11 : decode cX6_init 11 = .ok (.putfield 15, 3) := by decide +kernel
theorem dX6_init_14 : decode cX6_init 14 = .ok (.aload_n 0, 1) := by decide +kernel
theorem dX6_init_15 : decode cX6_init 15 = .ok (.iload_n 3, 1) := by decide +kernel
theorem dX6_init_16 : decode cX6_init 16 = .ok (.putfield 19, 3) := by decide +kernel
theorem dX6_init_19 : decode cX6_init 19 = .ok (.aload_n 0, 1) := by decide +kernel
theorem dX6_init_20 : decode cX6_init 20 = .ok (.iload 4, 2) := by decide +kernel
theorem dX6_init_22 : decode cX6_init 22 = .ok (.putfield 22, 3) := by decide +kernel
theorem dX6_init_25 : decode cX6_init 25 = .ok (.aload_n 0, 1) := by decide +kernel
theorem dX6_init_26 : decode cX6_init 26 = .ok (.new 25, 3) := by decide +kernel
theorem dX6_init_29 : decode cX6_init 29 = .ok (.dup, 1) := by decide +kernel
theorem dX6_init_30 : decode cX6_init 30 = .ok (.invokespecial 27, 3) := by decide +kernel
theorem dX6_init_33 : decode cX6_init 33 = .ok (.putfield 28, 3) := by decide +kernel
theorem dX6_init_36 : decode cX6_init 36 = .ok (.aload_n 0, 1) := by decide +kernel
theorem dX6_init_37 : decode cX6_init 37 = .ok (.iconst (-1), 1) := by decide +kernel
theorem dX6_init_38 : decode cX6_init 38 = .ok (.putfield 32, 3) := by decide +kernel
theorem dX6_init_41 : decode cX6_init 41 = .ok (.return_, 1) := by decide +kernel
set_option maxHeartbeats 8000000 in
set_option maxRecDepth 100000 in
theorem M_init (l : Launch) (G : pT) (h0 : Nat) (a : Nat → Nat) (F : Nat → Int32) (R : Nat → Value) (Z : Int64) (B : Nat → Nat → Int32) (J : Nat → Nat → Int64) (K : PK) (w : va_W) (q0 : Nat) (o9 : Nat) (x1 : Int32) (x2 : Int32) (x3 : Int32) (hT0 : K.1 q0 = 3) (hO : OKP G h0 a F R Z B J K w) : PM l G pX0 yX6_init cX6_init 5 none ({ frames := 5, cells := 1, slots := 3, locals := 120 }) [.ref q0, .ref o9, .int x1, .int x2, .int x3] w (fun (v : Option Value) (u : va_W × (Nat)) => v = none ∧ ((kI (kI (kI (kC K 5 q0 (some o9)) 6 q0 x1) 7 q0 x2) 8 q0 x3).1 u.2 = 0) ∧ (OKP G h0 a F R Z B J (kI (addL G (kI (kI (kI (kC K 5 q0 (some o9)) 6 q0 x1) 7 q0 x2) 8 q0 x3) q0 6 u.2) 9 q0 (-1)) u.1)) (fun u => u.1) := by
  intro sz
  refine Met.ofW (cc := cX6_init) (maxL := 5) (ret := none) (by decide) rfl ?_
  intro p e s m args below meth c s₁ B9 hml hv
  obtain ⟨rfl, hsz, hP, hD0, hE, hX⟩ := hv
  have hx := B9.exec
  have hb := B9.bytes
  have hr := B9.returns
  have hts := atoms_spec (ws := Cond.code yX6_init cX6_init 5 none :: pw) B9.pre
  have hq : ∀ w ∈ pw, w.before _ s = true := fun w h => hts w (List.mem_cons_of_mem _ h)
  have hown : s.vm.findClass RX6 = some m.cls := findClass_of_methodNamed B9.named
  have hlocks := B9.notSynchronized
  have hin : meth.name = "<init>" := (name_of_methodNamed B9.named B9.method).1
  subst hsz
  have hD := hD0.self (sz := s.heap.size)
  have hA : ∀ q : Nat, s.heap.size ≤ q → va_A w s.heap.size q := fun q h => Or.inr h
  generalize va_A w s.heap.size = A at hD hE hA ⊢
  have hS : va_S A s.heap s.heap [] := va_S.rf
  have hl := lv_entry ([.ref q0, .ref o9, .int x1, .int x2, .int x3]) (n := 5) (Nat.le_of_ble_eq_true rfl)
  rw [lg_entry_eq]
  generalize (lg_sl ([.ref q0, .ref o9, .int x1, .int x2, .int x3]) ++ List.replicate (5 - (lg_sl ([.ref q0, .ref o9, .int x1, .int x2, .int x3])).length) Slot.unset).toArray = ls at hl ⊢
  have hl : lv_has ls 5 [(0, .ref q0), (1, .ref o9), (2, .int x1), (3, .int x2), (4, .int x3)] := hl
  refine lv_aload_n hx hb dX6_init_0 rfl (lv_at hl 0 rfl) ?_
  refine W.objInit hx hb hown (hq _ pw_755) (hq _ pw_2) (hq _ pw_3) rfl (by rw [hml]; exact hl.1) rfl dX6_init_1 (Nat.le_of_ble_eq_true rfl) (Nat.le_of_ble_eq_true rfl) ?_
  refine W.eq (g2 := F0 m 4 ls []) rfl ?_
  refine lv_aload_n hx hb dX6_init_4 rfl (lv_at hl 0 rfl) ?_
  refine lv_aload_n hx hb dX6_init_5 rfl (lv_at hl 1 rfl) ?_
  refine p_putF (v := .ref o9) (ty := (.object "JinjaTongue$Decl")) (C := RX6) (Tc := TX6) (N := 12) (ci := 12) (K' := (kC K 5 q0 (some o9))) hx hb hq pin_wsX60 tyX6 tyX6_ok nmX6 hown hE hP hD hS hO (by rw [hT0]; decide) (rep_3 hT0) rfl 0 (by decide) (hq _ pw_756) (fun _ h9 => h9) rfl hin rfl (by decide +kernel) rfl rfl (Nat.le_of_ble_eq_true rfl) rfl (by rw [rep_3 (show (kC K 5 q0 (some o9)).1 q0 = 3 from hT0), pc_5] <;> rfl) (fun p9 hp9 => rep_kC hp9) dX6_init_6 (fun H locs w hP hD hS hO => ?_)
  obtain ⟨K1, hK2⟩ : ∃ z : PK, z = (kC K 5 q0 (some o9)) := ⟨_, rfl⟩
  rw [← hK2] at hO
  have hf3 : K1.1 q0 = 3 := (by rw [hK2]; exact hT0)
  have hf4 : K1.2.2.1 5 q0 = some o9 := by rw [hK2]; exact kC_eq
  refine lv_aload_n hx hb dX6_init_9 rfl (lv_at hl 0 rfl) ?_
  refine lv_iload_n hx hb dX6_init_10 rfl (lv_at hl 2 rfl) ?_
  refine p_putF (v := .int x1) (ty := .int) (C := RX6) (Tc := TX6) (N := 12) (ci := 12) (K' := (kI K1 6 q0 x1)) hx hb hq pin_wsX60 tyX6 tyX6_ok nmX6 hown hE hP hD hS hO (by rw [hf3]; decide) (rep_3 hf3) rfl 1 (by decide) (hq _ pw_757) (fun _ h9 => h9) rfl hin rfl (by decide +kernel) rfl rfl (Nat.le_of_ble_eq_true rfl) rfl (by rw [rep_3 (show (kI K1 6 q0 x1).1 q0 = 3 from hf3), pi_6] <;> rfl) (fun p9 hp9 => rep_kI hp9) dX6_init_11 (fun H locs w hP hD hS hO => ?_)
  obtain ⟨K5, hK6⟩ : ∃ z : PK, z = (kI K1 6 q0 x1) := ⟨_, rfl⟩
  rw [← hK6] at hO
  have hf7 : K5.1 q0 = 3 := (by rw [hK6]; exact hf3)
  have hf8 : K5.2.2.1 5 q0 = some o9 := (by rw [hK6]; exact hf4)
  have hf9 : K5.2.1 6 q0 = x1 := by rw [hK6]; exact kI_eq
  refine lv_aload_n hx hb dX6_init_14 rfl (lv_at hl 0 rfl) ?_
  refine lv_iload_n hx hb dX6_init_15 rfl (lv_at hl 3 rfl) ?_
  refine p_putF (v := .int x2) (ty := .int) (C := RX6) (Tc := TX6) (N := 12) (ci := 12) (K' := (kI K5 7 q0 x2)) hx hb hq pin_wsX60 tyX6 tyX6_ok nmX6 hown hE hP hD hS hO (by rw [hf7]; decide) (rep_3 hf7) rfl 2 (by decide) (hq _ pw_758) (fun _ h9 => h9) rfl hin rfl (by decide +kernel) rfl rfl (Nat.le_of_ble_eq_true rfl) rfl (by rw [rep_3 (show (kI K5 7 q0 x2).1 q0 = 3 from hf7), pi_7] <;> rfl) (fun p9 hp9 => rep_kI hp9) dX6_init_16 (fun H locs w hP hD hS hO => ?_)
  obtain ⟨K10, hK11⟩ : ∃ z : PK, z = (kI K5 7 q0 x2) := ⟨_, rfl⟩
  rw [← hK11] at hO
  have hf12 : K10.1 q0 = 3 := (by rw [hK11]; exact hf7)
  have hf13 : K10.2.2.1 5 q0 = some o9 := (by rw [hK11]; exact hf8)
  have hf14 : K10.2.1 6 q0 = x1 := (by rw [hK11]; exact (kI_of (by decide)).trans hf9)
  have hf15 : K10.2.1 7 q0 = x2 := by rw [hK11]; exact kI_eq
  refine lv_aload_n hx hb dX6_init_19 rfl (lv_at hl 0 rfl) ?_
  refine lv_iload hx hb dX6_init_20 (lv_at hl 4 rfl) ?_
  refine p_putF (v := .int x3) (ty := .int) (C := RX6) (Tc := TX6) (N := 12) (ci := 12) (K' := (kI K10 8 q0 x3)) hx hb hq pin_wsX60 tyX6 tyX6_ok nmX6 hown hE hP hD hS hO (by rw [hf12]; decide) (rep_3 hf12) rfl 3 (by decide) (hq _ pw_759) (fun _ h9 => h9) rfl hin rfl (by decide +kernel) rfl rfl (Nat.le_of_ble_eq_true rfl) rfl (by rw [rep_3 (show (kI K10 8 q0 x3).1 q0 = 3 from hf12), pi_8] <;> rfl) (fun p9 hp9 => rep_kI hp9) dX6_init_22 (fun H locs w hP hD hS hO => ?_)
  obtain ⟨K16, hK17⟩ : ∃ z : PK, z = (kI K10 8 q0 x3) := ⟨_, rfl⟩
  rw [← hK17] at hO
  have hf18 : K16.1 q0 = 3 := (by rw [hK17]; exact hf12)
  have hf19 : K16.2.2.1 5 q0 = some o9 := (by rw [hK17]; exact hf13)
  have hf20 : K16.2.1 6 q0 = x1 := (by rw [hK17]; exact (kI_of (by decide)).trans hf14)
  have hf21 : K16.2.1 7 q0 = x2 := (by rw [hK17]; exact (kI_of (by decide)).trans hf15)
  have hf22 : K16.2.1 8 q0 = x3 := by rw [hK17]; exact kI_eq
  refine lv_aload_n hx hb dX6_init_25 rfl (lv_at hl 0 rfl) ?_
  refine p_new (s9 := 5) (C := RJx4a65c) (T := TJx4a65c) (N := 3) (ci := 10) (fs := [.int 0, .null, .int 0]) hx hb hq pin_wsJx4a65c0 tyJx4a65c tyJx4a65c_ok hown (hq _ pw_760) (hq _ pw_406) (hq _ pw_32) hE hP hD hS hA hO rfl nw_Jx4a65c (by decide) (fun q => by rw [rep_5 (show (kN K16 q 5 0).1 q = 5 from if_pos rfl)]; unfold fsList kN; simp only [if_true]; rfl) (by show 0 + 1 ≤ 1; omega) (by show 0 + 3 ≤ 3; omega) dX6_init_26 (fun q23 H w hq24 hP hD hS hO => ?_)
  have hf25 : (kN K16 q23 5 0).1 q0 = 3 := (if_neg (fun z => by have z2 := hf18; rw [z, hq24] at z2; exact absurd z2 (by decide))).trans hf18
  have hf26 : (kN K16 q23 5 0).2.2.1 5 q0 = some o9 := (if_neg (fun z => by have z2 := hf18; rw [z, hq24] at z2; exact absurd z2 (by decide))).trans hf19
  have hf27 : (kN K16 q23 5 0).2.1 6 q0 = x1 := (if_neg (fun z => by have z2 := hf18; rw [z, hq24] at z2; exact absurd z2 (by decide))).trans hf20
  have hf28 : (kN K16 q23 5 0).2.1 7 q0 = x2 := (if_neg (fun z => by have z2 := hf18; rw [z, hq24] at z2; exact absurd z2 (by decide))).trans hf21
  have hf29 : (kN K16 q23 5 0).2.1 8 q0 = x3 := (if_neg (fun z => by have z2 := hf18; rw [z, hq24] at z2; exact absurd z2 (by decide))).trans hf22
  have hf30 : (kN K16 q23 5 0).1 q23 = 5 := if_pos rfl
  refine W.widen (k := 1) (n := 3) (by show 0 + 1 ≤ 1; omega) (by show 0 + 3 ≤ 3; omega) ?_
  refine lv_dup hx hb dX6_init_29 rfl ?_
  have hO : OKP G h0 a F R Z B J (kN K16 q23 5 0) w := hO.to rfl
  obtain ⟨qr34, hqr35⟩ := p_recv hO (by rw [hf30]; decide) (rep_5 hf30)
  refine pc_I0 (G := G) (As := []) (rest := [.ref q23, .ref q0]) hx hb hml hown hq hE hX pX0_al hP hD hS hA hl.1 (L_init l G h0 a F R Z B J (kN K16 q23 5 0) w q23 hf30 hO) pw_763 pw_409 pw_32 pw_394 rfl hS_Jx4a65c_init_da8c8 rfl (Nat.le_of_ble_eq_true rfl) dX6_init_30 ⟨(by show 1 + 0 ≤ 1; omega), (by show 3 + 0 ≤ 3; omega)⟩ ⟨Nat.le_of_ble_eq_true rfl, Nat.le_of_ble_eq_true rfl⟩ (fun v33 u31 H locs hw32 hP hD hS => ?_)
  obtain ⟨w, _⟩ := u31
  obtain ⟨hw32, hO⟩ := hw32
  obtain rfl : v33 = none := hw32
  have hf36 : (kC (kI (kN K16 q23 5 0) 22 q23 0) 13 q23 (some G.2.2.2.2)).1 q0 = 3 := hf25
  have hf37 : (kC (kI (kN K16 q23 5 0) 22 q23 0) 13 q23 (some G.2.2.2.2)).1 q23 = 5 := hf30
  have hO : OKP G h0 a F R Z B J (kC (kI (kN K16 q23 5 0) 22 q23 0) 13 q23 (some G.2.2.2.2)) w := hO.to rfl
  refine W.widen (k := 1) (n := 3) (by show 1 + 0 ≤ 1; omega) (by show 3 + 0 ≤ 3; omega) ?_
  refine W.eq (g2 := F0 m 33 ls [.ref q23, .ref q0]) rfl ?_
  refine p_putF (v := .ref q23) (ty := (.object "java/util/ArrayList")) (C := RX6) (Tc := TX6) (N := 12) (ci := 12) (K' := (kC (kC (kI (kN K16 q23 5 0) 22 q23 0) 13 q23 (some G.2.2.2.2)) 6 q0 (some q23))) hx hb hq pin_wsX60 tyX6 tyX6_ok nmX6 hown hE hP hD hS hO (by rw [hf36]; decide) (rep_3 hf36) rfl 4 (by decide) (hq _ pw_761) (fun _ h9 => h9) rfl hin rfl (by decide +kernel) rfl rfl (Nat.le_of_ble_eq_true rfl) rfl (by rw [rep_3 (show (kC (kC (kI (kN K16 q23 5 0) 22 q23 0) 13 q23 (some G.2.2.2.2)) 6 q0 (some q23)).1 q0 = 3 from hf36), pc_6] <;> rfl) (fun p9 hp9 => rep_kC hp9) dX6_init_33 (fun H locs w hP hD hS hO => ?_)
  obtain ⟨K38, hK39⟩ : ∃ z : PK, z = (kC (kC (kI (kN K16 q23 5 0) 22 q23 0) 13 q23 (some G.2.2.2.2)) 6 q0 (some q23)) := ⟨_, rfl⟩
  rw [← hK39] at hO
  have hf40 : K38.1 q0 = 3 := (by rw [hK39]; exact hf36)
  have hf41 : K38.1 q23 = 5 := (by rw [hK39]; exact hf37)
  have hf42 : K38.2.2.1 6 q0 = some q23 := by rw [hK39]; exact kC_eq
  refine lv_aload_n hx hb dX6_init_36 rfl (lv_at hl 0 rfl) ?_
  refine lv_iconst (v := (-1)) hx hb dX6_init_37 (by decide) ?_
  refine p_put (v := .int (-1)) (ty := .int) (C := RX6) (Tc := TX6) (N := 12) (ci := 12) (K' := (kI K38 9 q0 (-1))) hx hb hq pin_wsX60 tyX6 tyX6_ok nmX6 hown hE hP hD hS hO (by rw [hf40]; decide) (rep_3 hf40) rfl 6 (by decide) (hq _ pw_762) (fun _ h9 => h9) rfl (by decide +kernel) rfl rfl (Nat.le_of_ble_eq_true rfl) rfl (by rw [rep_3 (show (kI K38 9 q0 (-1)).1 q0 = 3 from hf40), pi_9] <;> rfl) (fun p9 hp9 => rep_kI hp9) dX6_init_38 (fun H locs w hP hD hS hO => ?_)
  obtain ⟨K43, hK44⟩ : ∃ z : PK, z = (kI K38 9 q0 (-1)) := ⟨_, rfl⟩
  rw [← hK44] at hO
  have hf45 : K43.1 q0 = 3 := (by rw [hK44]; exact hf40)
  have hf46 : K43.1 q23 = 5 := (by rw [hK44]; exact hf41)
  have hf47 : K43.2.2.1 6 q0 = some q23 := (by rw [hK44]; exact hf42)
  have hf48 : K43.2.1 9 q0 = (-1) := by rw [hK44]; exact kI_eq
  rw [hK44, hK39, hK17, hK11, hK6, hK2] at hO
  have hz49 : (kI (kI (kI (kC K 5 q0 (some o9)) 6 q0 x1) 7 q0 x2) 8 q0 x3).1 q23 = 0 := (by have z := hq24; simp only [hK2, hK6, hK11, hK17, hK39, hK44] at z; exact z)
  have hO : OKP G h0 a F R Z B J (kI (addL G (kI (kI (kI (kC K 5 q0 (some o9)) 6 q0 x1) 7 q0 x2) 8 q0 x3) q0 6 q23) 9 q0 (-1)) w := hO.to rfl
  refine W.widen (k := 1) (n := 3) (by omega) (by omega) ?_
  exact W.vret hx hb hr (fun t99 ht99 hW99 => ⟨⟨_, (w, q23), rfl, ⟨rfl, hz49, hO⟩, by rw [ht99]; exact hP, hD⟩, hS.F ht99⟩) hS.2.2 dX6_init_41
