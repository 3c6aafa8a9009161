theorem dX9_init_0 : decode cX9_init 0 = .ok (.aload_n 0, 1) := by decide +kernel
theorem dX9_init_1 : decode cX9_init 1 = .ok (.invokespecial 3, 3) := by decide +kernel
theorem dX9_init_4 : decode cX9_init 4 = .ok (.aload_n 0, 1) := by decide +kernel
theorem dX9_init_5 : decode cX9_init 5 = .ok (.aload_n 1, 1) := by decide +kernel
theorem dX9_init_6 : decode cX9_init 6 = .ok (.putfield 9, 3) := by decide +kernel
theorem dX9_init_9 : decode cX9_init 9 = .ok (.aload_n 0, 1) := by decide +kernel
theorem dX9_init_10 : decode cX9_init 10 = .ok (.bipush 37, 2) := by decide +kernel
theorem dX9_init_12 : decode cX9_init 12 = .ok (.anewarray 15, 3) := by decide +kernel
theorem dX9_init_15 : decode cX9_init 15 = .ok (.putfield 17, 3) := by decide +kernel
theorem dX9_init_18 : decode cX9_init 18 = .ok (.aload_n 0, 1) := by decide +kernel
theorem dX9_init_19 : decode cX9_init 19 = .ok (.new 21, 3) := by decide +kernel
theorem dX9_init_22 : decode cX9_init 22 = .ok (.dup, 1) := by decide +kernel
theorem dX9_init_23 : decode cX9_init 23 = .ok (.invokespecial 23, 3) := by decide +kernel
theorem dX9_init_26 : decode cX9_init 26 = .ok (.putfield 24, 3) := by decide +kernel
theorem dX9_init_29 : decode cX9_init 29 = .ok (.iconst 0, 1) := by decide +kernel
theorem dX9_init_30 : decode cX9_init 30 = .ok (.istore_n 2, 1) := by decide +kernel
theorem dX9_init_31 : decode cX9_init 31 = .ok (.iload_n 2, 1) := by decide +kernel
theorem dX9_init_32 : decode cX9_init 32 = .ok (.bipush 7, 2) := by decide +kernel
theorem dX9_init_34 : decode cX9_init 34 = .ok (.if_icmp .ge 29, 3) := by decide +kernel
theorem dX9_init_63 : decode cX9_init 63 = .ok (.aload_n 0, 1) := by decide +kernel
theorem dX9_init_64 : decode cX9_init 64 = .ok (.bipush 7, 2) := by decide +kernel
theorem dX9_init_66 : decode cX9_init 66 = .ok (.putfield 33, 3) := by decide +kernel
theorem dX9_init_69 : decode cX9_init 69 = .ok (.aload_n 0, 1) := by decide +kernel
theorem dX9_init_70 : decode cX9_init 70 = .ok (.ldc 37, 2) := by decide +kernel
theorem dX9_init_72 : decode cX9_init 72 = .ok (.putfield 38, 3) := by decide +kernel
theorem dX9_init_75 : decode cX9_init 75 = .ok (.return_, 1) := by decide +kernel
theorem dX9_init_37 : decode cX9_init 37 = .ok (.aload_n 0, 1) := by decide +kernel
theorem dX9_init_38 : decode cX9_init 38 = .ok (.getfield 17, 3) := by decide +kernel
theorem dX9_init_41 : decode cX9_init 41 = .ok (.iload_n 2, 1) := by decide +kernel
theorem dX9_init_42 : decode cX9_init 42 = .ok (.new 15, 3) := by decide +kernel
theorem dX9_init_45 : decode cX9_init 45 = .ok (.dup, 1) := by decide +kernel
theorem dX9_init_46 : decode cX9_init 46 = .ok (.iload_n 2, 1) := by decide +kernel
theorem dX9_init_47 : decode cX9_init 47 = .ok (.bipush 29, 2) := by decide +kernel
theorem dX9_init_49 : decode cX9_init 49 = .ok (.iload_n 2, 1) := by decide +kernel
theorem dX9_init_50 : decode cX9_init 50 = .ok (.iadd, 1) := by decide +kernel
theorem dX9_init_51 : decode cX9_init 51 = .ok (.iconst (-1), 1) := by decide +kernel
theorem dX9_init_52 : decode cX9_init 52 = .ok (.iconst 0, 1) := by decide +kernel
theorem dX9_init_53 : decode cX9_init 53 = .ok (.invokespecial 30, 3) := by decide +kernel
theorem dX9_init_56 : decode cX9_init 56 = .ok (.aastore, 1) := by decide +kernel
theorem dX9_init_57 : decode cX9_init 57 = .ok (.iinc 2 1, 3) := by decide +kernel
theorem dX9_init_60 : decode cX9_init 60 = .ok (.goto (-29), 3) := by decide +kernel
set_option maxHeartbeats 40000000 in
set_option maxRecDepth 100000 in
theorem G_init (l : Launch) (G : pT) (h0 : Nat) (a : Nat → Nat) (F : Nat → Int32) (R : Nat → Value) (Z : Int64) (B : Nat → Nat → Int32) (J : Nat → Nat → Int64) (K : PK) (w : va_W) (pq : Nat) (g : Nat → Nat → Nat) (h70 : K.1 pq = 7) (hon : ∀ q : Nat, ¬ q = pq → K.1 q = 0) (hO : OKP G h0 a F R Z B J K w) : PM l G pX0 yX9_init cX9_init 3 none ({ frames := 6, cells := 40, slots := 220, locals := 144 }) [.ref pq, .ref (a 1)] w (fun (v : Option Value) (u : va_W × (PK × (Nat → Nat → Nat) × Nat × Nat)) => v = none ∧ (WPr G u.2.1 u.2.2.1) ∧ (PgS G u.2.1 u.2.2.1 (a 1) pq u.2.2.2.1 u.2.2.2.2 7 0 0 (fun _ => 0) 0) ∧ (PzK G u.2.1 u.2.2.1 0 (fun _ => 0) none) ∧ (∀ q : Nat, ¬ u.2.1.1 q = 1) ∧ (OKP G h0 a F R Z B J u.2.1 u.1)) (fun u => u.1) := by
  intro sz
  refine Met.ofW (cc := cX9_init) (maxL := 3) (ret := none) (by decide) rfl ?_
  intro p e s m args below meth c s₁ B9 hml hv
  obtain ⟨rfl, hsz, hP, hD0, hE, hX⟩ := hv
  have hx := B9.exec
  have hb := B9.bytes
  have hr := B9.returns
  have hts := atoms_spec (ws := Cond.code yX9_init cX9_init 3 none :: pw) B9.pre
  have hq : ∀ w ∈ pw, w.before _ s = true := fun w h => hts w (List.mem_cons_of_mem _ h)
  have hown : s.vm.findClass RX9 = some m.cls := findClass_of_methodNamed B9.named
  have hlocks := B9.notSynchronized
  have hin : meth.name = "<init>" := (name_of_methodNamed B9.named B9.method).1
  subst hsz
  have hD := hD0.self (sz := s.heap.size)
  have hA : ∀ q : Nat, s.heap.size ≤ q → va_A w s.heap.size q := fun q h => Or.inr h
  generalize va_A w s.heap.size = A at hD hE hA ⊢
  have hS : va_S A s.heap s.heap [] := va_S.rf
  have hl := lv_entry ([.ref pq, .ref (a 1)]) (n := 3) (Nat.le_of_ble_eq_true rfl)
  rw [lg_entry_eq]
  generalize (lg_sl ([.ref pq, .ref (a 1)]) ++ List.replicate (3 - (lg_sl ([.ref pq, .ref (a 1)])).length) Slot.unset).toArray = ls at hl ⊢
  have hl : lv_has ls 3 [(0, .ref pq), (1, .ref (a 1))] := hl
  refine lv_aload_n hx hb dX9_init_0 rfl (lv_at hl 0 rfl) ?_
  refine W.objInit hx hb hown (hq _ pw_1077) (hq _ pw_2) (hq _ pw_3) rfl (by rw [hml]; exact hl.1) rfl dX9_init_1 (Nat.le_of_ble_eq_true rfl) (Nat.le_of_ble_eq_true rfl) ?_
  refine W.eq (g2 := F0 m 4 ls []) rfl ?_
  refine lv_aload_n hx hb dX9_init_4 rfl (lv_at hl 0 rfl) ?_
  refine lv_aload_n hx hb dX9_init_5 rfl (lv_at hl 1 rfl) ?_
  refine p_putF (v := .ref (a 1)) (ty := (.object "JinjaTongue$Text")) (C := RX9) (Tc := TX9) (N := 5) (ci := 6) (K' := (kC K 18 pq (some (a 1)))) hx hb hq pin_wsX90 tyX9 tyX9_ok nmX9 hown hE hP hD hS hO (by rw [h70]; decide) (rep_7 h70) rfl 0 (by decide) (hq _ pw_784) (fun _ h9 => h9) rfl hin rfl (by decide +kernel) rfl rfl (Nat.le_of_ble_eq_true rfl) rfl (by rw [rep_7 (show (kC K 18 pq (some (a 1))).1 pq = 7 from h70), pc_18] <;> rfl) (fun p9 hp9 => rep_kC hp9) dX9_init_6 (fun H locs w hP hD hS hO => ?_)
  obtain ⟨K1, hK2⟩ : ∃ z : PK, z = (kC K 18 pq (some (a 1))) := ⟨_, rfl⟩
  rw [← hK2] at hO
  have hf3 : K1.1 pq = 7 := (by rw [hK2]; exact h70)
  have hf4 : K1.2.2.1 18 pq = some (a 1) := by rw [hK2]; exact kC_eq
  refine lv_aload_n hx hb dX9_init_9 rfl (lv_at hl 0 rfl) ?_
  refine lv_bipush (v := 37) hx hb dX9_init_10 (by decide) ?_
  refine p_new8 hx hb hown (hq _ pw_782) hE hP hD hS hA hO (by decide) (by decide) (by show 0 + 1 ≤ 40; omega) (by show 0 + 37 ≤ 220; omega) dX9_init_12 (fun q5 H w hq6 hP hD hS hO => ?_)
  have hf7 : (kN K1 q5 8 37).1 pq = 7 := (if_neg (fun z => by have z2 := hf3; rw [z, hq6] at z2; exact absurd z2 (by decide))).trans hf3
  have hf8 : (kN K1 q5 8 37).2.2.1 18 pq = some (a 1) := (if_neg (fun z => by have z2 := hf3; rw [z, hq6] at z2; exact absurd z2 (by decide))).trans hf4
  have hf9 : (kN K1 q5 8 37).1 q5 = 8 := if_pos rfl
  refine W.widen (k := 1) (n := 37) (by show 0 + 1 ≤ 1; omega) (by show 0 + 37 ≤ 37; omega) ?_
  refine p_putF (v := .ref q5) (ty := (.array (.object "JinjaTongue$Decl"))) (C := RX9) (Tc := TX9) (N := 5) (ci := 6) (K' := (kC (kN K1 q5 8 37) 14 pq (some q5))) hx hb hq pin_wsX90 tyX9 tyX9_ok nmX9 hown hE hP hD hS hO (by rw [hf7]; decide) (rep_7 hf7) rfl 1 (by decide) (hq _ pw_15) (fun _ h9 => h9) rfl hin rfl (by decide +kernel) rfl rfl (Nat.le_of_ble_eq_true rfl) rfl (by rw [rep_7 (show (kC (kN K1 q5 8 37) 14 pq (some q5)).1 pq = 7 from hf7), pc_14] <;> rfl) (fun p9 hp9 => rep_kC hp9) dX9_init_15 (fun H locs w hP hD hS hO => ?_)
  obtain ⟨K10, hK11⟩ : ∃ z : PK, z = (kC (kN K1 q5 8 37) 14 pq (some q5)) := ⟨_, rfl⟩
  rw [← hK11] at hO
  have hf12 : K10.1 pq = 7 := (by rw [hK11]; exact hf7)
  have hf13 : K10.2.2.1 18 pq = some (a 1) := (by rw [hK11]; exact (kC_of (by decide)).trans hf8)
  have hf14 : K10.1 q5 = 8 := (by rw [hK11]; exact hf9)
  have hf15 : K10.2.2.1 14 pq = some q5 := by rw [hK11]; exact kC_eq
  refine lv_aload_n hx hb dX9_init_18 rfl (lv_at hl 0 rfl) ?_
  refine p_new (s9 := 5) (C := RJx4a65c) (T := TJx4a65c) (N := 3) (ci := 10) (fs := [.int 0, .null, .int 0]) hx hb hq pin_wsJx4a65c0 tyJx4a65c tyJx4a65c_ok hown (hq _ pw_1078) (hq _ pw_406) (hq _ pw_32) hE hP hD hS hA hO rfl nw_Jx4a65c (by decide) (fun q => by rw [rep_5 (show (kN K10 q 5 0).1 q = 5 from if_pos rfl)]; unfold fsList kN; simp only [if_true]; rfl) (by show 1 + 1 ≤ 40; omega) (by show 37 + 3 ≤ 220; omega) dX9_init_19 (fun q16 H w hq17 hP hD hS hO => ?_)
  have hf18 : (kN K10 q16 5 0).1 pq = 7 := (if_neg (fun z => by have z2 := hf12; rw [z, hq17] at z2; exact absurd z2 (by decide))).trans hf12
  have hf19 : (kN K10 q16 5 0).2.2.1 18 pq = some (a 1) := (if_neg (fun z => by have z2 := hf12; rw [z, hq17] at z2; exact absurd z2 (by decide))).trans hf13
  have hf20 : (kN K10 q16 5 0).1 q5 = 8 := (if_neg (fun z => by have z2 := hf14; rw [z, hq17] at z2; exact absurd z2 (by decide))).trans hf14
  have hf21 : (kN K10 q16 5 0).2.2.1 14 pq = some q5 := (if_neg (fun z => by have z2 := hf12; rw [z, hq17] at z2; exact absurd z2 (by decide))).trans hf15
  have hf22 : (kN K10 q16 5 0).1 q16 = 5 := if_pos rfl
  refine W.widen (k := 2) (n := (37 + 3)) (by show 1 + 1 ≤ 2; omega) (by show 37 + 3 ≤ (37 + 3); omega) ?_
  refine lv_dup hx hb dX9_init_22 rfl ?_
  have hO : OKP G h0 a F R Z B J (kN K10 q16 5 0) w := hO.to rfl
  obtain ⟨qr26, hqr27⟩ := p_recv hO (by rw [hf22]; decide) (rep_5 hf22)
  refine pc_I0 (G := G) (As := []) (rest := [.ref q16, .ref pq]) hx hb hml hown hq hE hX pX0_al hP hD hS hA hl.1 (L_init l G h0 a F R Z B J (kN K10 q16 5 0) w q16 hf22 hO) pw_1081 pw_409 pw_32 pw_394 rfl hS_Jx4a65c_init_da8c8 rfl (Nat.le_of_ble_eq_true rfl) dX9_init_23 ⟨(by show 2 + 0 ≤ 40; omega), (by show (37 + 3) + 0 ≤ 220; omega)⟩ ⟨Nat.le_of_ble_eq_true rfl, Nat.le_of_ble_eq_true rfl⟩ (fun v25 u23 H locs hw24 hP hD hS => ?_)
  obtain ⟨w, _⟩ := u23
  obtain ⟨hw24, hO⟩ := hw24
  obtain rfl : v25 = none := hw24
  have hf28 : (kC (kI (kN K10 q16 5 0) 22 q16 0) 13 q16 (some G.2.2.2.2)).1 pq = 7 := hf18
  have hf29 : (kC (kI (kN K10 q16 5 0) 22 q16 0) 13 q16 (some G.2.2.2.2)).1 q5 = 8 := hf20
  have hf30 : (kC (kI (kN K10 q16 5 0) 22 q16 0) 13 q16 (some G.2.2.2.2)).1 q16 = 5 := hf22
  have hO : OKP G h0 a F R Z B J (kC (kI (kN K10 q16 5 0) 22 q16 0) 13 q16 (some G.2.2.2.2)) w := hO.to rfl
  refine W.widen (k := 2) (n := (37 + 3)) (by show 2 + 0 ≤ 2; omega) (by show (37 + 3) + 0 ≤ (37 + 3); omega) ?_
  refine W.eq (g2 := F0 m 26 ls [.ref q16, .ref pq]) rfl ?_
  refine p_putF (v := .ref q16) (ty := (.object "java/util/ArrayList")) (C := RX9) (Tc := TX9) (N := 5) (ci := 6) (K' := (kC (kC (kI (kN K10 q16 5 0) 22 q16 0) 13 q16 (some G.2.2.2.2)) 15 pq (some q16))) hx hb hq pin_wsX90 tyX9 tyX9_ok nmX9 hown hE hP hD hS hO (by rw [hf28]; decide) (rep_7 hf28) rfl 3 (by decide) (hq _ pw_514) (fun _ h9 => h9) rfl hin rfl (by decide +kernel) rfl rfl (Nat.le_of_ble_eq_true rfl) rfl (by rw [rep_7 (show (kC (kC (kI (kN K10 q16 5 0) 22 q16 0) 13 q16 (some G.2.2.2.2)) 15 pq (some q16)).1 pq = 7 from hf28), pc_15] <;> rfl) (fun p9 hp9 => rep_kC hp9) dX9_init_26 (fun H locs w hP hD hS hO => ?_)
  obtain ⟨K31, hK32⟩ : ∃ z : PK, z = (kC (kC (kI (kN K10 q16 5 0) 22 q16 0) 13 q16 (some G.2.2.2.2)) 15 pq (some q16)) := ⟨_, rfl⟩
  rw [← hK32] at hO
  have hf33 : K31.1 pq = 7 := (by rw [hK32]; exact hf28)
  have hf34 : K31.1 q5 = 8 := (by rw [hK32]; exact hf29)
  have hf35 : K31.1 q16 = 5 := (by rw [hK32]; exact hf30)
  have hf36 : K31.2.2.1 15 pq = some q16 := by rw [hK32]; exact kC_eq
  rw [hK32, hK11, hK2] at hO
  change OKP G h0 a F R Z B J (addL G (kC (kN (kC K 18 pq (some (a 1))) q5 8 37) 14 pq (some q5)) pq 15 q16) w at hO
  have hni := PgI.nil (G := G) (g := g) (ax := a 1) h70 hon (by have z := hq6; simp only [hK2, hK11, hK32] at z; exact z) (by have z := hq17; simp only [hK2, hK11, hK32] at z; exact z)
  have hty0 : ∀ p : Nat, (addL G (kC (kN (kC K 18 pq (some (a 1))) q5 8 37) 14 pq (some q5)) pq 15 q16).1 p = 5 ∨ (addL G (kC (kN (kC K 18 pq (some (a 1))) q5 8 37) 14 pq (some q5)) pq 15 q16).1 p = 8 ∨ (addL G (kC (kN (kC K 18 pq (some (a 1))) q5 8 37) 14 pq (some q5)) pq 15 q16).1 p = 7 ∨ (addL G (kC (kN (kC K 18 pq (some (a 1))) q5 8 37) 14 pq (some q5)) pq 15 q16).1 p = 0 := fun p => by
    show (if p = q16 then 5 else if p = q5 then 8 else K.1 p) = 5 ∨ (if p = q16 then 5 else if p = q5 then 8 else K.1 p) = 8 ∨ (if p = q16 then 5 else if p = q5 then 8 else K.1 p) = 7 ∨ (if p = q16 then 5 else if p = q5 then 8 else K.1 p) = 0
    by_cases z1 : p = q16
    · simp only [if_pos z1]; exact Or.inl trivial
    · by_cases z2 : p = q5
      · simp only [if_neg z1, if_pos z2]; exact Or.inr (Or.inl trivial)
      · simp only [if_neg z1, if_neg z2]; by_cases z3 : p = pq
        · rw [z3, h70]; exact Or.inr (Or.inr (Or.inl rfl))
        · rw [hon p z3]; exact Or.inr (Or.inr (Or.inr rfl))
  have hpz0 : PzK G (addL G (kC (kN (kC K 18 pq (some (a 1))) q5 8 37) 14 pq (some q5)) pq 15 q16) (gP g q16) 0 (fun _ => 0) none := PzK.nil (fun p hp => by have z := hty0 p; omega) (fun p hp => by have z := hty0 p; omega)
  have hnn0 : ∀ q : Nat, ¬ (addL G (kC (kN (kC K 18 pq (some (a 1))) q5 8 37) 14 pq (some q5)) pq 15 q16).1 q = 1 := fun p hp => by have z := hty0 p; omega
  refine lv_iconst (v := 0) hx hb dX9_init_29 (by decide) ?_
  refine lv_istore_n (lv' := [(2, .int 0), (0, .ref pq), (1, .ref (a 1))]) hx hb dX9_init_30 rfl hl (by decide) rfl (fun ls hl => ?_)
  have loop_2 : ∀ (n_2 : Nat) (i2 : Nat) (K2 : PK) (g2 : Nat → Nat → Nat) (dr2 : Nat) (ml2 : Nat) (H : Heap) (locs : List Loc) (ls : Array Slot) (w : va_W), i2 ≤ 7 → 7 + 1 ≤ i2 + n_2 → (PgI G K2 g2 (a 1) pq dr2 ml2 i2) → (WPr G K2 g2) → (PzK G K2 g2 0 (fun _ => 0) none) → (∀ q : Nat, ¬ K2.1 q = 1) → va_P G.1 pCl w H → va_D A w → va_S A s.heap H locs → OKP G h0 a F R Z B J K2 w → lv_has ls 3 [(2, .int (nI i2)), (1, .ref (a 1)), (0, .ref pq)] → W p l e (headSpec (Cond.code yX9_init cX9_init 3 none :: pw) ({ frames := 6, cells := 40, slots := 220, locals := 144 } : Room)).room s m ([.ref pq, .ref (a 1)] : List Value).toArray below meth c H locs (2 + 5 * i2) (40 + 25 * i2) (MQ below (pQ G A (fun (v : Option Value) (u : va_W × (PK × (Nat → Nat → Nat) × Nat × Nat)) => v = none ∧ (WPr G u.2.1 u.2.2.1) ∧ (PgS G u.2.1 u.2.2.1 (a 1) pq u.2.2.2.1 u.2.2.2.2 7 0 0 (fun _ => 0) 0) ∧ (PzK G u.2.1 u.2.2.1 0 (fun _ => 0) none) ∧ (∀ q : Nat, ¬ u.2.1.1 q = 1) ∧ (OKP G h0 a F R Z B J u.2.1 u.1)) (fun u => u.1)) ([.ref pq, .ref (a 1)] : List Value).toArray s ({ frames := 6, cells := 40, slots := 220, locals := 144 } : Room).cells ({ frames := 6, cells := 40, slots := 220, locals := 144 } : Room).slots A) (F0 m 31 ls []) := by
    intro n_2
    induction n_2 with
    | zero => intro i2 K2 g2 dr2 ml2 H locs ls w hk_2 hn_2; omega
    | succ n_2 ih_2 =>
      intro i2 K2 g2 dr2 ml2 H locs ls w hk_2 hn_2 hpi2 hwp2 hpz2 hnn2 hP hD hS hO hl
      have hp1 := hpi2.1.1
      have hp3 := hpi2.1.2.2.1
      have hp4 := hpi2.1.2.2.2.1
      refine lv_iload_n hx hb dX9_init_31 rfl (lv_at hl 0 rfl) ?_
      refine lv_bipush (v := 7) hx hb dX9_init_32 (by decide) ?_
      refine lv_icmp_ge (tgt := 63) hx hb dX9_init_34 (by decide) (fun c37 => ?_) (fun c37 => ?_)
      · have n38 : 7 ≤ i2 := (nI_leI (a := 7) (b := i2) (by omega) (by omega)).mp c37
        refine lv_aload_n hx hb dX9_init_63 rfl (lv_at hl 2 rfl) ?_
        refine lv_bipush (v := 7) hx hb dX9_init_64 (by decide) ?_
        refine p_put (v := .int 7) (ty := .int) (C := RX9) (Tc := TX9) (N := 5) (ci := 6) (K' := (kI K2 24 pq 7)) hx hb hq pin_wsX90 tyX9 tyX9_ok nmX9 hown hE hP hD hS hO (by rw [hp1]; decide) (rep_7 hp1) rfl 2 (by decide) (hq _ pw_14) (fun _ h9 => h9) rfl (by decide +kernel) rfl rfl (Nat.le_of_ble_eq_true rfl) rfl (by rw [rep_7 (show (kI K2 24 pq 7).1 pq = 7 from hp1), pi_24] <;> rfl) (fun p9 hp9 => rep_kI hp9) dX9_init_66 (fun H locs w hP hD hS hO => ?_)
        obtain ⟨K39, hK40⟩ : ∃ z : PK, z = (kI K2 24 pq 7) := ⟨_, rfl⟩
        rw [← hK40] at hO
        have hf41 : K39.1 pq = 7 := (by rw [hK40]; exact hp1)
        have hf42 : K39.2.2.1 14 pq = some dr2 := (by rw [hK40]; exact hp3)
        have hf43 : K39.1 dr2 = 8 := (by rw [hK40]; exact hp4)
        have hf44 : K39.2.1 24 pq = 7 := by rw [hK40]; exact kI_eq
        refine lv_aload_n hx hb dX9_init_69 rfl (lv_at hl 2 rfl) ?_
        refine lv_ldc (v := 2147483647) hx hb hown (hq _ pw_1079) dX9_init_70 ?_
        refine p_put (v := .int 2147483647) (ty := .int) (C := RX9) (Tc := TX9) (N := 5) (ci := 6) (K' := (kI K39 25 pq 2147483647)) hx hb hq pin_wsX90 tyX9 tyX9_ok nmX9 hown hE hP hD hS hO (by rw [hf41]; decide) (rep_7 hf41) rfl 4 (by decide) (hq _ pw_1080) (fun _ h9 => h9) rfl (by decide +kernel) rfl rfl (Nat.le_of_ble_eq_true rfl) rfl (by rw [rep_7 (show (kI K39 25 pq 2147483647).1 pq = 7 from hf41), pi_25] <;> rfl) (fun p9 hp9 => rep_kI hp9) dX9_init_72 (fun H locs w hP hD hS hO => ?_)
        obtain ⟨K45, hK46⟩ : ∃ z : PK, z = (kI K39 25 pq 2147483647) := ⟨_, rfl⟩
        rw [← hK46] at hO
        have hf47 : K45.1 pq = 7 := (by rw [hK46]; exact hf41)
        have hf48 : K45.2.2.1 14 pq = some dr2 := (by rw [hK46]; exact hf42)
        have hf49 : K45.1 dr2 = 8 := (by rw [hK46]; exact hf43)
        have hf50 : K45.2.1 24 pq = 7 := (by rw [hK46]; exact (kI_of (by decide)).trans hf44)
        have hf51 : K45.2.1 25 pq = 2147483647 := by rw [hK46]; exact kI_eq
        have hi7 : i2 = 7 := by omega
        have hfi := PgI.fin (v := (2147483647 : Int32)) (hi7 ▸ hpi2) hwp2
        rw [← hK40, ← hK46] at hfi
        have hz52 : WPr G K45 g2 := hfi.2
        have hz53 : PgS G K45 g2 (a 1) pq dr2 ml2 7 0 0 (fun _ => 0) 0 := hfi.1
        have hz54 : PzK G K45 g2 0 (fun _ => 0) none := (by rw [hK46, hK40]; exact PzK.kI (PzK.kI hpz2 (by decide)) (by decide))
        have hz55 : ∀ q : Nat, ¬ K45.1 q = 1 := (by rw [hK46, hK40]; exact hnn2)
        have hO : OKP G h0 a F R Z B J K45 w := hO.to rfl
        refine W.widen (k := 40) (n := 220) (by omega) (by omega) ?_
        exact W.vret hx hb hr (fun t99 ht99 hW99 => ⟨⟨_, (w, (K45, g2, dr2, ml2)), rfl, ⟨rfl, hz52, hz53, hz54, hz55, hO⟩, by rw [ht99]; exact hP, hD⟩, hS.F ht99⟩) hS.2.2 dX9_init_75
      · have n56 : ¬ (7 ≤ i2) := fun h9 => c37 ((nI_leI (a := 7) (b := i2) (by omega) (by omega)).mpr h9)
        refine lv_aload_n hx hb dX9_init_37 rfl (lv_at hl 2 rfl) ?_
        refine p_get (v := .ref dr2) (C := RX9) (Tc := TX9) (N := 5) (ci := 6) hx hb hq pin_wsX90 hown hE hP hO (by rw [hp1]; decide) (rep_7 hp1) rfl 1 (by decide) (hq _ pw_15) (fun _ h9 => h9) (congrArg (fun z => some (va_rf z)) hp3) dX9_init_38 ?_
        refine lv_iload_n hx hb dX9_init_41 rfl (lv_at hl 0 rfl) ?_
        refine p_new (s9 := 4) (C := RX2) (T := TX2) (N := 13) (ci := 2) (fs := [.int 0, .int 0, .int 0, .int 0, .int 0, .int 0, .int 0, .null, .null, .null, .long 0, .null, .null]) hx hb hq pin_wsX20 tyX2 tyX2_ok hown (hq _ pw_782) (hq _ pw_783) (hq _ pw_146) hE hP hD hS hA hO rfl nw_X2 (by decide) (fun q => by rw [rep_4 (show (kN K2 q 4 0).1 q = 4 from if_pos rfl)]; unfold fsDecl kN; simp only [if_true]; rfl) (by show (2 + 5 * i2) + 1 ≤ 40; omega) (by show (40 + 25 * i2) + 13 ≤ 220; omega) dX9_init_42 (fun q57 H w hq58 hP hD hS hO => ?_)
        have hf59 : (kN K2 q57 4 0).1 pq = 7 := (if_neg (fun z => by have z2 := hp1; rw [z, hq58] at z2; exact absurd z2 (by decide))).trans hp1
        have hf60 : (kN K2 q57 4 0).2.2.1 14 pq = some dr2 := (if_neg (fun z => by have z2 := hp1; rw [z, hq58] at z2; exact absurd z2 (by decide))).trans hp3
        have hf61 : (kN K2 q57 4 0).1 dr2 = 8 := (if_neg (fun z => by have z2 := hp4; rw [z, hq58] at z2; exact absurd z2 (by decide))).trans hp4
        have hf62 : (kN K2 q57 4 0).1 q57 = 4 := if_pos rfl
        refine W.widen (k := ((2 + 5 * i2) + 1)) (n := ((40 + 25 * i2) + 13)) (by show (2 + 5 * i2) + 1 ≤ ((2 + 5 * i2) + 1); omega) (by show (40 + 25 * i2) + 13 ≤ ((40 + 25 * i2) + 13); omega) ?_
        refine lv_dup hx hb dX9_init_45 rfl ?_
        refine lv_iload_n hx hb dX9_init_46 rfl (lv_at hl 0 rfl) ?_
        refine lv_bipush (v := 29) hx hb dX9_init_47 (by decide) ?_
        refine lv_iload_n hx hb dX9_init_49 rfl (lv_at hl 0 rfl) ?_
        refine lv_iadd hx hb dX9_init_50 ?_
        refine lv_topi (fun x63 e64 => ?_)
        obtain rfl : x63 = nI (29 + i2) := e64.trans (nI_add (29) (i2))
        refine lv_iconst (v := (-1)) hx hb dX9_init_51 (by decide) ?_
        refine lv_iconst (v := 0) hx hb dX9_init_52 (by decide) ?_
        have hO : OKP G h0 a F R Z B J (kN K2 q57 4 0) w := hO.to rfl
        obtain ⟨qr68, hqr69⟩ := p_recv hO (by rw [hf62]; decide) (rep_4 hf62)
        refine pc_I0 (G := G) (As := [.int (nI i2), .int (nI (29 + i2)), .int (-1), .int (nI 0)]) (rest := [.ref q57, .int (nI i2), .ref dr2]) hx hb hml hown hq hE hX pX0_al hP hD hS hA hl.1 (D_init l G h0 a F R Z B J (kN K2 q57 4 0) w q57 (nI i2) (nI (29 + i2)) (-1) 0 hf62 (by decide) hO) pw_786 pw_787 pw_146 pw_410 rfl hS_X2_init rfl (Nat.le_of_ble_eq_true rfl) dX9_init_53 ⟨(by show ((2 + 5 * i2) + 1) + 4 ≤ 40; omega), (by show ((40 + 25 * i2) + 13) + 12 ≤ 220; omega)⟩ ⟨Nat.le_of_ble_eq_true rfl, Nat.le_of_ble_eq_true rfl⟩ (fun v67 u65 H locs hw66 hP hD hS => ?_)
        obtain ⟨w, f70, f71, f72, f73⟩ := u65
        obtain ⟨hw66, h74, h75, h76, h77, hO⟩ := hw66
        have h74 : (kI (kI (kI (kI (kI (kN K2 q57 4 0) 15 q57 (nI i2)) 16 q57 (nI (29 + i2))) 17 q57 (-1)) 18 q57 (nI 0)) 19 q57 (-1)).1 f70 = 0 := h74
        have h75 : (addL G (kI (kI (kI (kI (kI (kN K2 q57 4 0) 15 q57 (nI i2)) 16 q57 (nI (29 + i2))) 17 q57 (-1)) 18 q57 (nI 0)) 19 q57 (-1)) q57 8 f70).1 f71 = 0 := h75
        have h76 : (addL G (addL G (kI (kI (kI (kI (kI (kN K2 q57 4 0) 15 q57 (nI i2)) 16 q57 (nI (29 + i2))) 17 q57 (-1)) 18 q57 (nI 0)) 19 q57 (-1)) q57 8 f70) q57 9 f71).1 f72 = 0 := h76
        have h77 : (addL G (addL G (addL G (kI (kI (kI (kI (kI (kN K2 q57 4 0) 15 q57 (nI i2)) 16 q57 (nI (29 + i2))) 17 q57 (-1)) 18 q57 (nI 0)) 19 q57 (-1)) q57 8 f70) q57 9 f71) q57 11 f72).1 f73 = 0 := h77
        obtain rfl : v67 = none := hw66
        have hO : OKP G h0 a F R Z B J (addL G (addL G (addL G (addL G (kI (kI (kI (kI (kI (kN K2 q57 4 0) 15 q57 (nI i2)) 16 q57 (nI (29 + i2))) 17 q57 (-1)) 18 q57 (nI 0)) 19 q57 (-1)) q57 8 f70) q57 9 f71) q57 11 f72) q57 12 f73) w := hO.to rfl
        refine W.widen (k := (((2 + 5 * i2) + 1) + 4)) (n := (((40 + 25 * i2) + 13) + 12)) (by show ((2 + 5 * i2) + 1) + 4 ≤ (((2 + 5 * i2) + 1) + 4); omega) (by show ((40 + 25 * i2) + 13) + 12 ≤ (((40 + 25 * i2) + 13) + 12); omega) ?_
        refine W.eq (g2 := F0 m 56 ls [.ref q57, .int (nI i2), .ref dr2]) rfl ?_
        change OKP G h0 a F R Z B J (mkD G K2 q57 (nI i2) (nI (29 + i2)) (-1) (nI 0) f70 f71 f72 f73) w at hO
        have hmd := WPr.decl (x1 := (nI i2)) (x2 := (nI (29 + i2))) (x3 := (-1)) (x4 := (nI 0)) (bt := bti i2) hwp2 hq58 h74 h75 h76 h77 (fun _ => by decide)
        obtain ⟨K78, hK79⟩ : ∃ z : PK, z = (mkD G K2 q57 (nI i2) (nI (29 + i2)) (-1) (nI 0) f70 f71 f72 f73) := ⟨_, rfl⟩
        rw [← hK79] at hO
        rw [← hK79] at hmd
        obtain ⟨hm1, hm2, hm3, hm4, hm5, hm6, hm7, hm8, hm9, hmg, hm10⟩ := hmd
        have hf80 : K78.1 dr2 = 8 := (hm2 dr2 (by rw [hp4]; decide)).1.1.trans hp4
        refine p_ast8 (Tc := TX2) (N := 13) (ci := 2) hx hb hE hP hD hS hO hf80 (by rw [hm3]; decide) (rep_4 hm3) rfl (vp_in_nI (by omega) (by omega)) dX9_init_56 (fun H locs w hP hD hS hO => ?_)
        rw [nI_clamp (show i2 < 2 ^ 31 by omega)] at hO
        obtain ⟨K81, hK82⟩ : ∃ z : PK, z = (kE K78 dr2 (va_up (K78.2.2.2.2.1 dr2) i2 (some q57))) := ⟨_, rfl⟩
        rw [← hK82] at hO
        have hf83 : K81.1 q57 = 4 := (by rw [hK82]; exact hm3)
        have hf84 : K81.1 dr2 = 8 := (by rw [hK82]; exact hf80)
        have hpu := PgI.push hpi2 hwp2.2.2.1 hm2 hm10 hm1 (by omega) hm3 ⟨hm4, hmg.1⟩ ⟨hm6, hm8⟩ ⟨hm7, hm9⟩ hmg.2
        rw [← hK82] at hpu
        have hpz9 : PzK G K81 (gD g2 q57 f70 f71 f72 f73 (bti i2)) 0 (fun _ => 0) none := by rw [hK82]; exact PzK.kE (PzK.push hpz2 hwp2 hm2 hm10 hm3 ⟨hm6, hm8⟩ ⟨hm7, hm9⟩) ((hm2 dr2 (by rw [hp4]; decide)).1.1.trans hp4)
        have hnn9 : ∀ q : Nat, ¬ K81.1 q = 1 := by
          rw [hK82]
          intro p hp
          have hp : _ = 1 := hp
          rcases Nat.eq_zero_or_pos (K2.1 p) with z | z
          · rcases hm10 p z with y | y | y
            · exact absurd (y.symm.trans hp) (by decide)
            · rw [y] at hp; exact absurd (hm3.symm.trans hp) (by decide)
            · exact absurd (y.symm.trans hp) (by decide)
          · exact hnn2 p ((hm2 p (by omega)).1.1.symm.trans hp)
        refine lv_iinc (v := (nI (i2 + 1))) (lv' := [(2, .int (nI (i2 + 1))), (1, .ref (a 1)), (0, .ref pq)]) hx hb dX9_init_57 hl (k := 0) rfl (nI_1 i2) (by decide) rfl (fun ls hl => ?_)
        refine lv_goto (tgt := 31) hx hb dX9_init_60 (by decide) ?_
        refine W.widen (k := (2 + 5 * (i2 + 1))) (n := (40 + 25 * (i2 + 1))) (by show (((2 + 5 * i2) + 1) + 4) ≤ _; omega) (by show (((40 + 25 * i2) + 13) + 12) ≤ _; omega) ?_
        have hO : OKP G h0 a F R Z B J K81 w := hO.to rfl
        exact ih_2 (i2 + 1) K81 (gD g2 q57 f70 f71 f72 f73 (bti i2)) dr2 ml2 _ _ _ _ (by omega) (by omega) hpu.1 hpu.2 hpz9 hnn9 hP hD hS hO (lv_sub hl [0, 1, 2] rfl)
  refine W.widen (k := (2 + 5 * 0)) (n := (40 + 25 * 0)) (by show 2 ≤ _; omega) (by show (37 + 3) ≤ _; omega) ?_
  have hO : OKP G h0 a F R Z B J (addL G (kC (kN (kC K 18 pq (some (a 1))) q5 8 37) 14 pq (some q5)) pq 15 q16) w := hO.to rfl
  exact loop_2 (7 + 1) 0 (addL G (kC (kN (kC K 18 pq (some (a 1))) q5 8 37) 14 pq (some q5)) pq 15 q16) (gP g q16) q5 q16 _ _ _ _ (by omega) (by omega) hni.1 hni.2 hpz0 hnn0 hP hD hS hO (lv_sub hl [0, 2, 1] rfl)
