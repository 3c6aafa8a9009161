theorem mn_l {tp n : Nat} (h : tp ≤ n) (hn : n < 2 ^ 31) : (if nI n < nI tp then nI n else nI tp) = nI tp := if_neg (fun q => by have z := (nI_ltI (a := n) (b := tp) (by omega) (by omega)).mp q; omega)
theorem mx_l {tp : Nat} (h : tp < 2 ^ 31) : (if (0 : Int32) < nI tp then nI tp else 0) = nI tp := by
  by_cases q : (0 : Int32) < nI tp
  · exact if_pos q
  · have z : ¬ (0 < tp) := fun w => q ((nI_ltI (a := 0) (b := tp) (by omega) (by omega)).mpr w)
    have z2 : tp = 0 := by omega
    rw [if_neg q, z2]; rfl
theorem gt_nn {r : Int32} {n : Nat} (hn : n < 2 ^ 31) (h : ¬ r ≤ nI n) : ¬ r < 0 := fun q => h (by
  rw [Int32.le_iff_toInt_le, nI_toInt hn]
  rw [Int32.lt_iff_toInt_lt] at q
  have z : (0 : Int32).toInt = 0 := by decide
  omega)
theorem dJ7_fill_53178_0 : decode cJ7_fill_53178 0 = .ok (.iconst 0, 1) := by decide +kernel
theorem dJ7_fill_53178_1 : decode cJ7_fill_53178 1 = .ok (.istore_n 2, 1) := by decide +kernel
theorem dJ7_fill_53178_2 : decode cJ7_fill_53178 2 = .ok (.aload_n 0, 1) := by decide +kernel
theorem dJ7_fill_53178_3 : decode cJ7_fill_53178 3 = .ok (.arraylength, 1) := by decide +kernel
theorem dJ7_fill_53178_4 : decode cJ7_fill_53178 4 = .ok (.istore_n 3, 1) := by decide +kernel
theorem dJ7_fill_53178_5 : decode cJ7_fill_53178 5 = .ok (.iload_n 2, 1) := by decide +kernel
theorem dJ7_fill_53178_6 : decode cJ7_fill_53178 6 = .ok (.iload_n 3, 1) := by decide +kernel
theorem dJ7_fill_53178_7 : decode cJ7_fill_53178 7 = .ok (.if_icmp .ge 13, 3) := by decide +kernel
theorem dJ7_fill_53178_20 : decode cJ7_fill_53178 20 = .ok (.return_, 1) := by decide +kernel
theorem dJ7_fill_53178_10 : decode cJ7_fill_53178 10 = .ok (.aload_n 0, 1) := by decide +kernel
theorem dJ7_fill_53178_11 : decode cJ7_fill_53178 11 = .ok (.iload_n 2, 1) := by decide +kernel
theorem dJ7_fill_53178_12 : decode cJ7_fill_53178 12 = .ok (.iload_n 1, 1) := by decide +kernel
theorem dJ7_fill_53178_13 : decode cJ7_fill_53178 13 = .ok (.iastore, 1) := by decide +kernel
theorem dJ7_fill_53178_14 : decode cJ7_fill_53178 14 = .ok (.iinc 2 1, 3) := by decide +kernel
theorem dJ7_fill_53178_17 : decode cJ7_fill_53178 17 = .ok (.goto (-12), 3) := by decide +kernel
set_option maxHeartbeats 2000000 in
set_option maxRecDepth 100000 in
theorem K_fill15 (l : Launch) (G : pT) (h0 : Nat) (a : Nat → Nat) (F : Nat → Int32) (R : Nat → Value) (Z : Int64) (B : Nat → Nat → Int32) (J : Nat → Nat → Int64) (T : Nat → Nat) (Pi : Nat → va_E → Prop) (w : va_W) (x : Int32) (hO : OKW G h0 a F R Z B J T Pi w) : PM l G pX0 yJ7_fill_53178 cJ7_fill_53178 4 none ({ frames := 2, cells := 0, slots := 0, locals := 60 }) [.ref (a 15), .int x] w (fun (v : Option Value) (u : va_W × ((Nat → Int32))) => v = none ∧ (∀ j : Nat, j < 256 → u.2 j = x) ∧ (OKW G h0 a F R Z (updA B 15 u.2) J T Pi u.1)) (fun u => u.1) := by
  intro sz
  refine Met.ofW (cc := cJ7_fill_53178) (maxL := 4) (ret := none) (by decide) rfl ?_
  intro p e s m args below meth c s₁ B9 hml hv
  obtain ⟨rfl, hsz, hP, hD0, hE, hX⟩ := hv
  have hx := B9.exec
  have hb := B9.bytes
  have hr := B9.returns
  have hts := atoms_spec (ws := Cond.code yJ7_fill_53178 cJ7_fill_53178 4 none :: pw) B9.pre
  have hq : ∀ w ∈ pw, w.before _ s = true := fun w h => hts w (List.mem_cons_of_mem _ h)
  have hown : s.vm.findClass RJ7 = some m.cls := findClass_of_methodNamed B9.named
  have hlocks := B9.notSynchronized
  subst hsz
  have hD := hD0.self (sz := s.heap.size)
  have hA : ∀ q : Nat, s.heap.size ≤ q → va_A w s.heap.size q := fun q h => Or.inr h
  generalize va_A w s.heap.size = A at hD hE hA ⊢
  have hS : va_S A s.heap s.heap [] := va_S.rf
  have hl := lv_entry ([.ref (a 15), .int x]) (n := 4) (Nat.le_of_ble_eq_true rfl)
  rw [lg_entry_eq]
  generalize (lg_sl ([.ref (a 15), .int x]) ++ List.replicate (4 - (lg_sl ([.ref (a 15), .int x])).length) Slot.unset).toArray = ls at hl ⊢
  have hl : lv_has ls 4 [(0, .ref (a 15)), (1, .int x)] := hl
  refine lv_iconst (v := 0) hx hb dJ7_fill_53178_0 (by decide) ?_
  refine lv_istore_n (lv' := [(2, .int 0), (0, .ref (a 15)), (1, .int x)]) hx hb dJ7_fill_53178_1 rfl hl (by decide) rfl (fun ls hl => ?_)
  refine lv_aload_n hx hb dJ7_fill_53178_2 rfl (lv_at hl 1 rfl) ?_
  refine c_len (n := 0) (t0 := 0) (v := 256) hx hb hE hP hO 12 (sg_12 G h0 a _ _ _ _ _) rfl rfl dJ7_fill_53178_3 ?_
  refine lv_istore_n (lv' := [(3, .int 256), (2, .int 0), (0, .ref (a 15)), (1, .int x)]) hx hb dJ7_fill_53178_4 rfl hl (by decide) rfl (fun ls hl => ?_)
  have loop_i : ∀ (n_i : Nat) (i2 : Nat) (f2 : Nat → Int32) (H : Heap) (locs : List Loc) (ls : Array Slot) (w : va_W), i2 ≤ 256 → 256 + 1 ≤ i2 + n_i → (∀ j : Nat, j < i2 → f2 j = x) → va_P G.1 pCl w H → va_D A w → va_S A s.heap H locs → OKW G h0 a F R Z (updA B 15 f2) J T Pi w → lv_has ls 4 [(3, .int 256), (2, .int (nI i2)), (1, .int x), (0, .ref (a 15))] → W p l e (headSpec (Cond.code yJ7_fill_53178 cJ7_fill_53178 4 none :: pw) ({ frames := 2, cells := 0, slots := 0, locals := 60 } : Room)).room s m ([.ref (a 15), .int x] : List Value).toArray below meth c H locs 0 0 (MQ below (pQ G A (fun (v : Option Value) (u : va_W × ((Nat → Int32))) => v = none ∧ (∀ j : Nat, j < 256 → u.2 j = x) ∧ (OKW G h0 a F R Z (updA B 15 u.2) J T Pi u.1)) (fun u => u.1)) ([.ref (a 15), .int x] : List Value).toArray s ({ frames := 2, cells := 0, slots := 0, locals := 60 } : Room).cells ({ frames := 2, cells := 0, slots := 0, locals := 60 } : Room).slots A) (F0 m 5 ls []) := by
    intro n_i
    induction n_i with
    | zero => intro i2 f2 H locs ls w hk_i hn_i; omega
    | succ n_i ih_i =>
      intro i2 f2 H locs ls w hk_i hn_i hf2 hP hD hS hO hl
      refine lv_iload_n hx hb dJ7_fill_53178_5 rfl (lv_at hl 1 rfl) ?_
      refine lv_iload_n hx hb dJ7_fill_53178_6 rfl (lv_at hl 0 rfl) ?_
      refine lv_icmp_ge (tgt := 20) hx hb dJ7_fill_53178_7 (by decide) (fun c1 => ?_) (fun c1 => ?_)
      · have n2 : 256 ≤ i2 := (nI_leI (a := 256) (b := i2) (by omega) (by omega)).mp c1
        have hz3 : ∀ j : Nat, j < 256 → f2 j = x := (fun j h => hf2 j (by omega))
        have hO : OKW G h0 a F R Z (updA B 15 f2) J T Pi w := hO.to rfl
        exact W.vret hx hb hr (fun t99 ht99 hW99 => ⟨⟨_, (w, f2), rfl, ⟨rfl, hz3, hO⟩, by rw [ht99]; exact hP, hD⟩, hS.F ht99⟩) hS.2.2 dJ7_fill_53178_20
      · have n4 : ¬ (256 ≤ i2) := fun h9 => c1 ((nI_leI (a := 256) (b := i2) (by omega) (by omega)).mpr h9)
        refine lv_aload_n hx hb dJ7_fill_53178_10 rfl (lv_at hl 3 rfl) ?_
        refine lv_iload_n hx hb dJ7_fill_53178_11 rfl (lv_at hl 1 rfl) ?_
        refine lv_iload_n hx hb dJ7_fill_53178_12 rfl (lv_at hl 2 rfl) ?_
        refine c_sti (f := f2) (n := 256) (t0 := 0) hx hb hE hP hD hS hO 12 (sg_12 G h0 a _ _ _ _ _) rfl (vp_in_nI (by omega) (by decide)) (sb_15 G h0 a _ _ _ _ _ _) dJ7_fill_53178_13 (fun H locs w hP hD hS hO => ?_)
        rw [(nI_clamp (show i2 < 2 ^ 31 by omega))] at hO
        refine lv_iinc (v := (nI (i2 + 1))) (lv' := [(2, .int (nI (i2 + 1))), (3, .int 256), (1, .int x), (0, .ref (a 15))]) hx hb dJ7_fill_53178_14 hl (k := 1) rfl (nI_1 i2) (by decide) rfl (fun ls hl => ?_)
        refine lv_goto (tgt := 5) hx hb dJ7_fill_53178_17 (by decide) ?_
        have hO : OKW G h0 a F R Z (updA B 15 (upd f2 i2 x)) J T Pi w := hO.to rfl
        exact ih_i (i2 + 1) (upd f2 i2 x) _ _ _ _ (by omega) (by omega) (all_upd (p := fun _ z => z = x) hf2 rfl) hP hD hS hO (lv_sub hl [1, 0, 2, 3] rfl)
  have hO : OKW G h0 a F R Z (updA B 15 (B 15)) J T Pi w := hO.to rfl
  exact loop_i (256 + 1) 0 (B 15) _ _ _ _ (by omega) (by omega) (fun j h => absurd h (by omega)) hP hD hS hO (lv_sub hl [0, 1, 3, 2] rfl)
theorem dX10_learnBuiltIn_0 : decode cX10_learnBuiltIn 0 = .ok (.aload_n 0, 1) := by decide +kernel
theorem dX10_learnBuiltIn_1 : decode cX10_learnBuiltIn 1 = .ok (.iconst 0, 1) := by decide +kernel
theorem dX10_learnBuiltIn_2 : decode cX10_learnBuiltIn 2 = .ok (.putfield 100, 3) := by decide +kernel
theorem dX10_learnBuiltIn_5 : decode cX10_learnBuiltIn 5 = .ok (.aload_n 0, 1) := by decide +kernel
theorem dX10_learnBuiltIn_6 : decode cX10_learnBuiltIn 6 = .ok (.getfield 60, 3) := by decide +kernel
theorem dX10_learnBuiltIn_9 : decode cX10_learnBuiltIn 9 = .ok (.iconst (-1), 1) := by decide +kernel
theorem dX10_learnBuiltIn_10 : decode cX10_learnBuiltIn 10 = .ok (.invokestatic 103, 3) := by decide +kernel
theorem dX10_learnBuiltIn_13 : decode cX10_learnBuiltIn 13 = .ok (.iconst 0, 1) := by decide +kernel
theorem dX10_learnBuiltIn_14 : decode cX10_learnBuiltIn 14 = .ok (.istore_n 1, 1) := by decide +kernel
theorem dX10_learnBuiltIn_15 : decode cX10_learnBuiltIn 15 = .ok (.iconst 0, 1) := by decide +kernel
theorem dX10_learnBuiltIn_16 : decode cX10_learnBuiltIn 16 = .ok (.istore_n 2, 1) := by decide +kernel
theorem dX10_learnBuiltIn_17 : decode cX10_learnBuiltIn 17 = .ok (.iload_n 2, 1) := by decide +kernel
theorem dX10_learnBuiltIn_18 : decode cX10_learnBuiltIn 18 = .ok (.aload_n 0, 1) := by decide +kernel
theorem dX10_learnBuiltIn_19 : decode cX10_learnBuiltIn 19 = .ok (.getfield 23, 3) := by decide +kernel
theorem dX10_learnBuiltIn_22 : decode cX10_learnBuiltIn 22 = .ok (.if_icmp .ge 33, 3) := by decide +kernel
theorem dX10_learnBuiltIn_55 : decode cX10_learnBuiltIn 55 = .ok (.return_, 1) := by decide +kernel
theorem dX10_learnBuiltIn_25 : decode cX10_learnBuiltIn 25 = .ok (.aload_n 0, 1) := by decide +kernel
theorem dX10_learnBuiltIn_26 : decode cX10_learnBuiltIn 26 = .ok (.getfield 27, 3) := by decide +kernel
theorem dX10_learnBuiltIn_29 : decode cX10_learnBuiltIn 29 = .ok (.iload_n 2, 1) := by decide +kernel
theorem dX10_learnBuiltIn_30 : decode cX10_learnBuiltIn 30 = .ok (.baload, 1) := by decide +kernel
theorem dX10_learnBuiltIn_31 : decode cX10_learnBuiltIn 31 = .ok (.bipush 32, 2) := by decide +kernel
theorem dX10_learnBuiltIn_33 : decode cX10_learnBuiltIn 33 = .ok (.if_icmp .ne 16, 3) := by decide +kernel
theorem dX10_learnBuiltIn_49 : decode cX10_learnBuiltIn 49 = .ok (.iinc 2 1, 3) := by decide +kernel
theorem dX10_learnBuiltIn_52 : decode cX10_learnBuiltIn 52 = .ok (.goto (-35), 3) := by decide +kernel
theorem dX10_learnBuiltIn_36 : decode cX10_learnBuiltIn 36 = .ok (.aload_n 0, 1) := by decide +kernel
theorem dX10_learnBuiltIn_37 : decode cX10_learnBuiltIn 37 = .ok (.iload_n 1, 1) := by decide +kernel
theorem dX10_learnBuiltIn_38 : decode cX10_learnBuiltIn 38 = .ok (.iload_n 2, 1) := by decide +kernel
theorem dX10_learnBuiltIn_39 : decode cX10_learnBuiltIn 39 = .ok (.iload_n 1, 1) := by decide +kernel
theorem dX10_learnBuiltIn_40 : decode cX10_learnBuiltIn 40 = .ok (.isub, 1) := by decide +kernel
theorem dX10_learnBuiltIn_41 : decode cX10_learnBuiltIn 41 = .ok (.invokevirtual 109, 3) := by decide +kernel
theorem dX10_learnBuiltIn_44 : decode cX10_learnBuiltIn 44 = .ok (.pop, 1) := by decide +kernel
theorem dX10_learnBuiltIn_45 : decode cX10_learnBuiltIn 45 = .ok (.iload_n 2, 1) := by decide +kernel
theorem dX10_learnBuiltIn_46 : decode cX10_learnBuiltIn 46 = .ok (.iconst 1, 1) := by decide +kernel
theorem dX10_learnBuiltIn_47 : decode cX10_learnBuiltIn 47 = .ok (.iadd, 1) := by decide +kernel
theorem dX10_learnBuiltIn_48 : decode cX10_learnBuiltIn 48 = .ok (.istore_n 1, 1) := by decide +kernel
theorem hS_J7_fill_53178 : yJ7_fill_53178.cls ≠ "java/lang/invoke/MethodHandle" ∧ yJ7_fill_53178.cls ≠ "java/lang/invoke/VarHandle" ∧ (parseMethodDescriptor yJ7_fill_53178.desc).map (fun d => d.parameters.length) = some 2 := by decide +kernel
set_option maxHeartbeats 6000000 in
set_option maxRecDepth 100000 in
theorem K_learn (l : Launch) (G : pT) (h0 : Nat) (a : Nat → Nat) (F : Nat → Int32) (R : Nat → Value) (Z : Int64) (B : Nat → Nat → Int32) (J : Nat → Nat → Int64) (T : Nat → Nat) (Pi : Nat → va_E → Prop) (w : va_W) (hO : OKW G h0 a F R Z B J T Pi w) : PM l G pX0 yX10_learnBuiltIn cX10_learnBuiltIn 3 none ({ frames := 4, cells := 0, slots := 0, locals := 110 }) [.ref (a 1)] w (fun (v : Option Value) (u : va_W × (Nat × (Nat → Int32) × (Nat → Int32) × (Nat → Int32) × (Nat → Int32))) => v = none ∧ (NmR u.2.1 u.2.2.1 u.2.2.2.1 u.2.2.2.2.1 u.2.2.2.2.2) ∧ (OKW G h0 a (upd F 3 (nI u.2.1)) R Z (updA (updA (updA (updA B 12 u.2.2.1) 13 u.2.2.2.1) 14 u.2.2.2.2.1) 15 u.2.2.2.2.2) J T Pi u.1)) (fun u => u.1) := by
  intro sz
  refine Met.ofW (cc := cX10_learnBuiltIn) (maxL := 3) (ret := none) (by decide) rfl ?_
  intro p e s m args below meth c s₁ B9 hml hv
  obtain ⟨rfl, hsz, hP, hD0, hE, hX⟩ := hv
  have hx := B9.exec
  have hb := B9.bytes
  have hr := B9.returns
  have hts := atoms_spec (ws := Cond.code yX10_learnBuiltIn cX10_learnBuiltIn 3 none :: pw) B9.pre
  have hq : ∀ w ∈ pw, w.before _ s = true := fun w h => hts w (List.mem_cons_of_mem _ h)
  have hown : s.vm.findClass RX10 = some m.cls := findClass_of_methodNamed B9.named
  have hlocks := B9.notSynchronized
  subst hsz
  have hD := hD0.self (sz := s.heap.size)
  have hA : ∀ q : Nat, s.heap.size ≤ q → va_A w s.heap.size q := fun q h => Or.inr h
  generalize va_A w s.heap.size = A at hD hE hA ⊢
  have hS : va_S A s.heap s.heap [] := va_S.rf
  have hl := lv_entry ([.ref (a 1)]) (n := 3) (Nat.le_of_ble_eq_true rfl)
  rw [lg_entry_eq]
  generalize (lg_sl ([.ref (a 1)]) ++ List.replicate (3 - (lg_sl ([.ref (a 1)])).length) Slot.unset).toArray = ls at hl ⊢
  have hl : lv_has ls 3 [(0, .ref (a 1))] := hl
  refine lv_aload_n hx hb dX10_learnBuiltIn_0 rfl (lv_at hl 0 rfl) ?_
  refine lv_iconst (v := 0) hx hb dX10_learnBuiltIn_1 (by decide) ?_
  refine c_put (v := .int 0) (ty := .int) (C := RX10) (Tc := TX10) (N := 15) (ci := 7) hx hb hq pin_wsX100 tyX10 tyX10_ok nmX10 hown hE hP hD hS hO 2 (sg_2 G h0 a _ _ _ _ _) rfl 13 (by decide) (hq _ pw_1255) (fun _ h9 => h9) rfl (by decide +kernel) rfl rfl (Nat.le_of_ble_eq_true rfl) (sf_3 G h0 a _ _ _ _ _ 0) dX10_learnBuiltIn_2 (fun H locs w hP hD hS hO => ?_)
  refine lv_aload_n hx hb dX10_learnBuiltIn_5 rfl (lv_at hl 0 rfl) ?_
  refine c_get (v := .ref (a 15)) (C := RX10) (Tc := TX10) (N := 15) (ci := 7) hx hb hq pin_wsX100 hown hE hP hO 2 (sg_2 G h0 a _ _ _ _ _) rfl 12 (by decide) (hq _ pw_1248) (fun _ h9 => h9) rfl dX10_learnBuiltIn_6 ?_
  refine lv_iconst (v := (-1)) hx hb dX10_learnBuiltIn_9 (by decide) ?_
  have hO : OKW G h0 a (upd F 3 0) R Z B J T Pi w := hO.to rfl
  refine pc_S0 (G := G) (As := [.ref (a 15), .int (-1)]) (rest := []) hx hb hml hown hq hE hX pX0_al hP hD hS hA hl.1 (K_fill15 l G h0 a (upd F 3 0) R Z B J T Pi w (-1) hO) (gS pw_1260 pw_508 pw_433 pw_499) hS_J7_fill_53178 rfl (Nat.le_of_ble_eq_true rfl) dX10_learnBuiltIn_10 ⟨Nat.le_of_ble_eq_true rfl, Nat.le_of_ble_eq_true rfl⟩ ⟨Nat.le_of_ble_eq_true rfl, Nat.le_of_ble_eq_true rfl⟩ (fun v3 u1 H locs hw2 hP hD hS => ?_)
  obtain ⟨w, f4⟩ := u1
  obtain ⟨hw2, h5, hO⟩ := hw2
  have h5 : ∀ j : Nat, j < 256 → f4 j = (-1) := h5
  obtain rfl : v3 = none := hw2
  have hO : OKW G h0 a (upd F 3 0) R Z (updA B 15 f4) J T Pi w := hO.to rfl
  refine W.widen (k := 0) (n := 0) (Nat.le_of_ble_eq_true rfl) (Nat.le_of_ble_eq_true rfl) ?_
  refine W.eq (g2 := F0 m 13 ls []) rfl ?_
  have hnm0 : NmR 0 (B 12) (B 13) (B 14) f4 := ⟨by omega, fun i h => absurd h (by omega), fun i h => absurd h (by omega), fun b h => Or.inl (h5 b h)⟩
  refine lv_iconst (v := 0) hx hb dX10_learnBuiltIn_13 (by decide) ?_
  refine lv_istore_n (lv' := [(1, .int 0), (0, .ref (a 1))]) hx hb dX10_learnBuiltIn_14 rfl hl (by decide) rfl (fun ls hl => ?_)
  refine lv_iconst (v := 0) hx hb dX10_learnBuiltIn_15 (by decide) ?_
  refine lv_istore_n (lv' := [(2, .int 0), (1, .int 0), (0, .ref (a 1))]) hx hb dX10_learnBuiltIn_16 rfl hl (by decide) rfl (fun ls hl => ?_)
  have loop_i : ∀ (n_i : Nat) (i2 : Nat) (s2 : Nat) (nm2 : Nat) (ns2 : Nat → Int32) (nl2 : Nat → Int32) (nn2 : Nat → Int32) (bk2 : Nat → Int32) (H : Heap) (locs : List Loc) (ls : Array Slot) (w : va_W), i2 ≤ 220 → 220 + 1 ≤ i2 + n_i → (s2 ≤ i2) → (NmR nm2 ns2 nl2 nn2 bk2) → va_P G.1 pCl w H → va_D A w → va_S A s.heap H locs → OKW G h0 a (upd F 3 (nI nm2)) R Z (updA (updA (updA (updA B 12 ns2) 13 nl2) 14 nn2) 15 bk2) J T Pi w → lv_has ls 3 [(2, .int (nI i2)), (1, .int (nI s2)), (0, .ref (a 1))] → W p l e (headSpec (Cond.code yX10_learnBuiltIn cX10_learnBuiltIn 3 none :: pw) ({ frames := 4, cells := 0, slots := 0, locals := 110 } : Room)).room s m ([.ref (a 1)] : List Value).toArray below meth c H locs 0 0 (MQ below (pQ G A (fun (v : Option Value) (u : va_W × (Nat × (Nat → Int32) × (Nat → Int32) × (Nat → Int32) × (Nat → Int32))) => v = none ∧ (NmR u.2.1 u.2.2.1 u.2.2.2.1 u.2.2.2.2.1 u.2.2.2.2.2) ∧ (OKW G h0 a (upd F 3 (nI u.2.1)) R Z (updA (updA (updA (updA B 12 u.2.2.1) 13 u.2.2.2.1) 14 u.2.2.2.2.1) 15 u.2.2.2.2.2) J T Pi u.1)) (fun u => u.1)) ([.ref (a 1)] : List Value).toArray s ({ frames := 4, cells := 0, slots := 0, locals := 110 } : Room).cells ({ frames := 4, cells := 0, slots := 0, locals := 110 } : Room).slots A) (F0 m 17 ls []) := by
    intro n_i
    induction n_i with
    | zero => intro i2 s2 nm2 ns2 nl2 nn2 bk2 H locs ls w hk_i hn_i; omega
    | succ n_i ih_i =>
      intro i2 s2 nm2 ns2 nl2 nn2 bk2 H locs ls w hk_i hn_i hs2 hnm2 hP hD hS hO hl
      refine lv_iload_n hx hb dX10_learnBuiltIn_17 rfl (lv_at hl 0 rfl) ?_
      refine lv_aload_n hx hb dX10_learnBuiltIn_18 rfl (lv_at hl 2 rfl) ?_
      refine c_get (v := .int 220) (C := RX10) (Tc := TX10) (N := 15) (ci := 7) hx hb hq pin_wsX100 hown hE hP hO 2 (sg_2 G h0 a _ _ _ _ _) rfl 1 (by decide) (hq _ pw_1243) (fun _ h9 => h9) rfl dX10_learnBuiltIn_19 ?_
      refine lv_icmp_ge (tgt := 55) hx hb dX10_learnBuiltIn_22 (by decide) (fun c6 => ?_) (fun c6 => ?_)
      · have n7 : 220 ≤ i2 := (nI_leI (a := 220) (b := i2) (by omega) (by omega)).mp c6
        have hz8 : NmR nm2 ns2 nl2 nn2 bk2 := hnm2
        have hO : OKW G h0 a (upd F 3 (nI nm2)) R Z (updA (updA (updA (updA B 12 ns2) 13 nl2) 14 nn2) 15 bk2) J T Pi w := hO.to rfl
        exact W.vret hx hb hr (fun t99 ht99 hW99 => ⟨⟨_, (w, (nm2, ns2, nl2, nn2, bk2)), rfl, ⟨rfl, hz8, hO⟩, by rw [ht99]; exact hP, hD⟩, hS.F ht99⟩) hS.2.2 dX10_learnBuiltIn_55
      · have n9 : ¬ (220 ≤ i2) := fun h9 => c6 ((nI_leI (a := 220) (b := i2) (by omega) (by omega)).mpr h9)
        refine lv_aload_n hx hb dX10_learnBuiltIn_25 rfl (lv_at hl 2 rfl) ?_
        refine c_get (v := .ref (a 6)) (C := RX10) (Tc := TX10) (N := 15) (ci := 7) hx hb hq pin_wsX100 hown hE hP hO 2 (sg_2 G h0 a _ _ _ _ _) rfl 0 (by decide) (hq _ pw_1234) (fun _ h9 => h9) rfl dX10_learnBuiltIn_26 ?_
        refine lv_iload_n hx hb dX10_learnBuiltIn_29 rfl (lv_at hl 0 rfl) ?_
        refine c_ldb (f := (B 6)) (n := 5220) (t0 := 1) hx hb hE hP hO 3 (sg_3 G h0 a _ _ _ _ _) rfl (vp_in_nI (by omega) (by decide)) dX10_learnBuiltIn_30 ?_
        rw [(nI_clamp (show i2 < 2 ^ 31 by omega))]
        refine lv_topi (fun x10 e11 => ?_)
        refine lv_bipush (v := 32) hx hb dX10_learnBuiltIn_31 (by decide) ?_
        refine lv_icmp_ne (tgt := 49) hx hb dX10_learnBuiltIn_33 (by decide) (fun c12 => ?_) (fun c12 => ?_)
        · refine lv_iinc (v := (nI (i2 + 1))) (lv' := [(2, .int (nI (i2 + 1))), (1, .int (nI s2)), (0, .ref (a 1))]) hx hb dX10_learnBuiltIn_49 hl (k := 0) rfl (nI_1 i2) (by decide) rfl (fun ls hl => ?_)
          refine lv_goto (tgt := 17) hx hb dX10_learnBuiltIn_52 (by decide) ?_
          have hO : OKW G h0 a (upd F 3 (nI nm2)) R Z (updA (updA (updA (updA B 12 ns2) 13 nl2) 14 nn2) 15 bk2) J T Pi w := hO.to rfl
          exact ih_i (i2 + 1) s2 nm2 ns2 nl2 nn2 bk2 _ _ _ _ (by omega) (by omega) (by omega) hnm2 hP hD hS hO (lv_sub hl [0, 1, 2] rfl)
        · refine lv_aload_n hx hb dX10_learnBuiltIn_36 rfl (lv_at hl 2 rfl) ?_
          refine lv_iload_n hx hb dX10_learnBuiltIn_37 rfl (lv_at hl 1 rfl) ?_
          refine lv_iload_n hx hb dX10_learnBuiltIn_38 rfl (lv_at hl 0 rfl) ?_
          refine lv_iload_n hx hb dX10_learnBuiltIn_39 rfl (lv_at hl 1 rfl) ?_
          refine lv_isub hx hb dX10_learnBuiltIn_40 ?_
          refine lv_topi (fun x13 e14 => ?_)
          obtain rfl : x13 = nI (i2 - s2) := e14.trans (nI_subN (a := s2) (b := i2) (by omega))
          have hO : OKW G h0 a (upd (upd F 3 (nI nm2)) 3 (nI nm2)) R Z (updA (updA (updA (updA (updA (updA (updA (updA B 12 ns2) 13 nl2) 14 nn2) 15 bk2) 12 ns2) 13 nl2) 14 nn2) 15 bk2) J T Pi w := hO.to rfl
          obtain ⟨_, qr18, hqr19⟩ := hO.2.1 2 _ (sg_2 G h0 a _ _ _ _ _)
          refine pc_V0 (G := G) (As := [.int (nI s2), .int (nI (i2 - s2))]) (rest := []) hx hb hml hown hq hE hX pX0_al hP hD hS hA hl.1 (K_nameOf l G h0 a (upd F 3 (nI nm2)) R Z (updA (updA (updA (updA B 12 ns2) 13 nl2) 14 nn2) 15 bk2) J T Pi w s2 (i2 - s2) nm2 ns2 nl2 nn2 bk2 (by omega) hnm2 hO) (gV pw_1261 pw_1262 pw_1263 pw_59 pw_1254) hV_X10_nameOf qr18 7 hqr19 rfl rfl rfl (Nat.le_of_ble_eq_true rfl) dX10_learnBuiltIn_41 ⟨Nat.le_of_ble_eq_true rfl, Nat.le_of_ble_eq_true rfl⟩ ⟨Nat.le_of_ble_eq_true rfl, Nat.le_of_ble_eq_true rfl⟩ (fun v17 u15 H locs hw16 hP hD hS => ?_)
          obtain ⟨w, nm20, ns21, nl22, nn23, bk24, r25⟩ := u15
          obtain ⟨hw16, h26, hO⟩ := hw16
          have h26 : NmR nm20 ns21 nl22 nn23 bk24 := h26
          obtain rfl : v17 = some (.int r25) := hw16
          have hO : OKW G h0 a (upd F 3 (nI nm20)) R Z (updA (updA (updA (updA B 12 ns21) 13 nl22) 14 nn23) 15 bk24) J T Pi w := hO.to rfl
          refine W.widen (k := 0) (n := 0) (Nat.le_of_ble_eq_true rfl) (Nat.le_of_ble_eq_true rfl) ?_
          refine W.eq (g2 := F0 m 44 ls [.int r25]) rfl ?_
          refine lv_pop hx hb dX10_learnBuiltIn_44 rfl ?_
          refine lv_iload_n hx hb dX10_learnBuiltIn_45 rfl (lv_at hl 0 rfl) ?_
          refine lv_iconst (v := 1) hx hb dX10_learnBuiltIn_46 (by decide) ?_
          refine lv_iadd hx hb dX10_learnBuiltIn_47 ?_
          refine lv_topi (fun x27 e28 => ?_)
          obtain rfl : x27 = nI (i2 + 1) := e28.trans (nI_add (i2) (1))
          refine lv_istore_n (lv' := [(1, .int (nI (i2 + 1))), (2, .int (nI i2)), (0, .ref (a 1))]) hx hb dX10_learnBuiltIn_48 rfl hl (by decide) rfl (fun ls hl => ?_)
          refine lv_iinc (v := (nI (i2 + 1))) (lv' := [(2, .int (nI (i2 + 1))), (1, .int (nI (i2 + 1))), (0, .ref (a 1))]) hx hb dX10_learnBuiltIn_49 hl (k := 1) rfl (nI_1 i2) (by decide) rfl (fun ls hl => ?_)
          refine lv_goto (tgt := 17) hx hb dX10_learnBuiltIn_52 (by decide) ?_
          have hO : OKW G h0 a (upd F 3 (nI nm20)) R Z (updA (updA (updA (updA B 12 ns21) 13 nl22) 14 nn23) 15 bk24) J T Pi w := hO.to rfl
          exact ih_i (i2 + 1) (i2 + 1) nm20 ns21 nl22 nn23 bk24 _ _ _ _ (by omega) (by omega) (by omega) h26 hP hD hS hO (lv_sub hl [0, 1, 2] rfl)
  have hO : OKW G h0 a (upd F 3 (nI 0)) R Z (updA (updA (updA (updA B 12 (B 12)) 13 (B 13)) 14 (B 14)) 15 f4) J T Pi w := hO.to rfl
  exact loop_i (220 + 1) 0 0 0 (B 12) (B 13) (B 14) f4 _ _ _ _ (by omega) (by omega) (by omega) hnm0 hP hD hS hO (lv_sub hl [0, 1, 2] rfl)
theorem dX10_split_0 : decode cX10_split 0 = .ok (.aload_n 0, 1) := by decide +kernel
theorem dX10_split_1 : decode cX10_split 1 = .ok (.iconst 0, 1) := by decide +kernel
theorem dX10_split_2 : decode cX10_split 2 = .ok (.iload_n 2, 1) := by decide +kernel
theorem dX10_split_3 : decode cX10_split 3 = .ok (.aload_n 1, 1) := by decide +kernel
theorem dX10_split_4 : decode cX10_split 4 = .ok (.arraylength, 1) := by decide +kernel
theorem dX10_split_5 : decode cX10_split 5 = .ok (.sipush 5000, 3) := by decide +kernel
theorem dX10_split_8 : decode cX10_split 8 = .ok (.invokestatic 67, 3) := by decide +kernel
theorem dX10_split_11 : decode cX10_split 11 = .ok (.invokestatic 67, 3) := by decide +kernel
theorem dX10_split_14 : decode cX10_split 14 = .ok (.invokestatic 73, 3) := by decide +kernel
theorem dX10_split_17 : decode cX10_split 17 = .ok (.putfield 76, 3) := by decide +kernel
theorem dX10_split_20 : decode cX10_split 20 = .ok (.aload_n 1, 1) := by decide +kernel
theorem dX10_split_21 : decode cX10_split 21 = .ok (.iconst 0, 1) := by decide +kernel
theorem dX10_split_22 : decode cX10_split 22 = .ok (.aload_n 0, 1) := by decide +kernel
theorem dX10_split_23 : decode cX10_split 23 = .ok (.getfield 27, 3) := by decide +kernel
theorem dX10_split_26 : decode cX10_split 26 = .ok (.aload_n 0, 1) := by decide +kernel
theorem dX10_split_27 : decode cX10_split 27 = .ok (.getfield 23, 3) := by decide +kernel
theorem dX10_split_30 : decode cX10_split 30 = .ok (.aload_n 0, 1) := by decide +kernel
theorem dX10_split_31 : decode cX10_split 31 = .ok (.getfield 76, 3) := by decide +kernel
theorem dX10_split_34 : decode cX10_split 34 = .ok (.invokestatic 78, 3) := by decide +kernel
theorem dX10_split_37 : decode cX10_split 37 = .ok (.aload_n 0, 1) := by decide +kernel
theorem dX10_split_38 : decode cX10_split 38 = .ok (.iconst 0, 1) := by decide +kernel
theorem dX10_split_39 : decode cX10_split 39 = .ok (.putfield 84, 3) := by decide +kernel
theorem dX10_split_42 : decode cX10_split 42 = .ok (.aload_n 0, 1) := by decide +kernel
theorem dX10_split_43 : decode cX10_split 43 = .ok (.iconst 0, 1) := by decide +kernel
theorem dX10_split_44 : decode cX10_split 44 = .ok (.putfield 87, 3) := by decide +kernel
theorem dX10_split_47 : decode cX10_split 47 = .ok (.aload_n 0, 1) := by decide +kernel
theorem dX10_split_48 : decode cX10_split 48 = .ok (.invokevirtual 90, 3) := by decide +kernel
theorem dX10_split_51 : decode cX10_split 51 = .ok (.aload_n 0, 1) := by decide +kernel
theorem dX10_split_52 : decode cX10_split 52 = .ok (.iconst 0, 1) := by decide +kernel
theorem dX10_split_53 : decode cX10_split 53 = .ok (.invokevirtual 93, 3) := by decide +kernel
theorem dX10_split_56 : decode cX10_split 56 = .ok (.istore_n 3, 1) := by decide +kernel
theorem dX10_split_57 : decode cX10_split 57 = .ok (.iconst 0, 1) := by decide +kernel
theorem dX10_split_58 : decode cX10_split 58 = .ok (.istore 4, 2) := by decide +kernel
theorem dX10_split_60 : decode cX10_split 60 = .ok (.iload 4, 2) := by decide +kernel
theorem dX10_split_62 : decode cX10_split 62 = .ok (.aload_n 0, 1) := by decide +kernel
theorem dX10_split_63 : decode cX10_split 63 = .ok (.getfield 76, 3) := by decide +kernel
theorem dX10_split_66 : decode cX10_split 66 = .ok (.if_icmp .ge 44, 3) := by decide +kernel
theorem dX10_split_110 : decode cX10_split 110 = .ok (.return_, 1) := by decide +kernel
theorem dX10_split_69 : decode cX10_split 69 = .ok (.iload_n 3, 1) := by decide +kernel
theorem dX10_split_70 : decode cX10_split 70 = .ok (.aload_n 0, 1) := by decide +kernel
theorem dX10_split_71 : decode cX10_split 71 = .ok (.getfield 76, 3) := by decide +kernel
theorem dX10_split_74 : decode cX10_split 74 = .ok (.if_icmp .ge 36, 3) := by decide +kernel
theorem dX10_split_77 : decode cX10_split 77 = .ok (.aload_n 0, 1) := by decide +kernel
theorem dX10_split_78 : decode cX10_split 78 = .ok (.iload_n 3, 1) := by decide +kernel
theorem dX10_split_79 : decode cX10_split 79 = .ok (.invokevirtual 97, 3) := by decide +kernel
theorem dX10_split_82 : decode cX10_split 82 = .ok (.istore 5, 2) := by decide +kernel
theorem dX10_split_84 : decode cX10_split 84 = .ok (.iload 5, 2) := by decide +kernel
theorem dX10_split_86 : decode cX10_split 86 = .ok (.iload_n 3, 1) := by decide +kernel
theorem dX10_split_87 : decode cX10_split 87 = .ok (.if_icmp .le 12, 3) := by decide +kernel
theorem dX10_split_99 : decode cX10_split 99 = .ok (.aload_n 0, 1) := by decide +kernel
theorem dX10_split_100 : decode cX10_split 100 = .ok (.getfield 76, 3) := by decide +kernel
theorem dX10_split_103 : decode cX10_split 103 = .ok (.istore_n 3, 1) := by decide +kernel
theorem dX10_split_104 : decode cX10_split 104 = .ok (.iinc 4 1, 3) := by decide +kernel
theorem dX10_split_107 : decode cX10_split 107 = .ok (.goto (-47), 3) := by decide +kernel
theorem dX10_split_90 : decode cX10_split 90 = .ok (.aload_n 0, 1) := by decide +kernel
theorem dX10_split_91 : decode cX10_split 91 = .ok (.iload 5, 2) := by decide +kernel
theorem dX10_split_93 : decode cX10_split 93 = .ok (.invokevirtual 93, 3) := by decide +kernel
theorem dX10_split_96 : decode cX10_split 96 = .ok (.goto 7, 3) := by decide +kernel
theorem hV_X10_learnBuiltIn : yX10_learnBuiltIn.cls = RX10 ∧ yX10_learnBuiltIn.cls ≠ "java/lang/invoke/MethodHandle" ∧ yX10_learnBuiltIn.cls ≠ "java/lang/invoke/VarHandle" ∧ (parseMethodDescriptor yX10_learnBuiltIn.desc).map (fun d => d.parameters.length) = some 0 := by decide +kernel
theorem hV_X10_pastBlanks : yX10_pastBlanks.cls = RX10 ∧ yX10_pastBlanks.cls ≠ "java/lang/invoke/MethodHandle" ∧ yX10_pastBlanks.cls ≠ "java/lang/invoke/VarHandle" ∧ (parseMethodDescriptor yX10_pastBlanks.desc).map (fun d => d.parameters.length) = some 1 := by decide +kernel
theorem hV_X10_addToken : yX10_addToken.cls = RX10 ∧ yX10_addToken.cls ≠ "java/lang/invoke/MethodHandle" ∧ yX10_addToken.cls ≠ "java/lang/invoke/VarHandle" ∧ (parseMethodDescriptor yX10_addToken.desc).map (fun d => d.parameters.length) = some 1 := by decide +kernel
set_option maxHeartbeats 10000000 in
set_option maxRecDepth 100000 in
theorem K_split (l : Launch) (G : pT) (h0 : Nat) (a : Nat → Nat) (F : Nat → Int32) (R : Nat → Value) (Z : Int64) (B : Nat → Nat → Int32) (J : Nat → Nat → Int64) (T : Nat → Nat) (Pi : Nat → va_E → Prop) (w : va_W) (tp : Nat) (htp : tp ≤ 5000) (hft : sb_Fit (B 0)) (hO : OKW G h0 a F R Z B J T Pi w) : PM l G pX0 yX10_split cX10_split 6 none ({ frames := 8, cells := 0, slots := 0, locals := 192 }) [.ref (a 1), .ref (a 0), .int (nI tp)] w (fun (v : Option Value) (u : va_W × (Nat × (Nat → Int32) × (Nat → Int32) × (Nat → Int32) × (Nat → Int32) × (Nat → Int32) × Nat × (Nat → Int32) × (Nat → Int32) × (Nat → Int32) × (Nat → Int32) × (Nat → Int32))) => v = none ∧ (u.2.1 ≤ tp) ∧ (NmR u.2.2.2.2.2.2.2.1 u.2.2.2.2.2.2.2.2.1 u.2.2.2.2.2.2.2.2.2.1 u.2.2.2.2.2.2.2.2.2.2.1 u.2.2.2.2.2.2.2.2.2.2.2.1) ∧ (OKW G h0 a (upd (upd (upd (upd F 1 (nI tp)) 2 (nI u.2.1)) 3 (nI u.2.2.2.2.2.2.2.1)) 4 0) R Z (updA (updA (updA (updA (updA (updA (updA (updA (updA (updA B 6 u.2.2.2.2.2.2.2.2.2.2.2.2) 7 u.2.2.1) 8 u.2.2.2.1) 9 u.2.2.2.2.1) 10 u.2.2.2.2.2.1) 11 u.2.2.2.2.2.2.1) 12 u.2.2.2.2.2.2.2.2.1) 13 u.2.2.2.2.2.2.2.2.2.1) 14 u.2.2.2.2.2.2.2.2.2.2.1) 15 u.2.2.2.2.2.2.2.2.2.2.2.1) J T Pi u.1)) (fun u => u.1) := by
  intro sz
  refine Met.ofW (cc := cX10_split) (maxL := 6) (ret := none) (by decide) rfl ?_
  intro p e s m args below meth c s₁ B9 hml hv
  obtain ⟨rfl, hsz, hP, hD0, hE, hX⟩ := hv
  have hx := B9.exec
  have hb := B9.bytes
  have hr := B9.returns
  have hts := atoms_spec (ws := Cond.code yX10_split cX10_split 6 none :: pw) B9.pre
  have hq : ∀ w ∈ pw, w.before _ s = true := fun w h => hts w (List.mem_cons_of_mem _ h)
  have hown : s.vm.findClass RX10 = some m.cls := findClass_of_methodNamed B9.named
  have hlocks := B9.notSynchronized
  subst hsz
  have hD := hD0.self (sz := s.heap.size)
  have hA : ∀ q : Nat, s.heap.size ≤ q → va_A w s.heap.size q := fun q h => Or.inr h
  generalize va_A w s.heap.size = A at hD hE hA ⊢
  have hS : va_S A s.heap s.heap [] := va_S.rf
  have hl := lv_entry ([.ref (a 1), .ref (a 0), .int (nI tp)]) (n := 6) (Nat.le_of_ble_eq_true rfl)
  rw [lg_entry_eq]
  generalize (lg_sl ([.ref (a 1), .ref (a 0), .int (nI tp)]) ++ List.replicate (6 - (lg_sl ([.ref (a 1), .ref (a 0), .int (nI tp)])).length) Slot.unset).toArray = ls at hl ⊢
  have hl : lv_has ls 6 [(0, .ref (a 1)), (1, .ref (a 0)), (2, .int (nI tp))] := hl
  refine lv_aload_n hx hb dX10_split_0 rfl (lv_at hl 0 rfl) ?_
  refine lv_iconst (v := 0) hx hb dX10_split_1 (by decide) ?_
  refine lv_iload_n hx hb dX10_split_2 rfl (lv_at hl 2 rfl) ?_
  refine lv_aload_n hx hb dX10_split_3 rfl (lv_at hl 1 rfl) ?_
  refine c_len (n := 0) (t0 := 1) (v := 5000) hx hb hE hP hO 1 (sg_1 G h0 a _ _ _ _ _) rfl rfl dX10_split_4 ?_
  refine lv_sipush (v := 5000) hx hb dX10_split_5 (by decide) ?_
  refine va_mmin (own := RX10) hx hb (by rw [hml]; exact hl.1.symm) hown (hq _ pw_1291) (hq _ pw_420) (hq _ pw_52) (hq _ pw_421) (Nat.le_of_ble_eq_true rfl) (Nat.le_of_ble_eq_true rfl) (Nat.le_of_ble_eq_true rfl) (Nat.le_of_ble_eq_true rfl) dX10_split_8 ?_
  refine lv_topi (fun x1 e2 => ?_)
  obtain rfl : x1 = 5000 := e2.trans (by decide)
  refine va_mmin (own := RX10) hx hb (by rw [hml]; exact hl.1.symm) hown (hq _ pw_1291) (hq _ pw_420) (hq _ pw_52) (hq _ pw_421) (Nat.le_of_ble_eq_true rfl) (Nat.le_of_ble_eq_true rfl) (Nat.le_of_ble_eq_true rfl) (Nat.le_of_ble_eq_true rfl) dX10_split_11 ?_
  refine lv_topi (fun x3 e4 => ?_)
  obtain rfl : x3 = nI tp := e4.trans (mn_l (n := 5000) (by omega) (by omega))
  refine va_mmax (own := RX10) hx hb (by rw [hml]; exact hl.1.symm) hown (hq _ pw_1292) (hq _ pw_51) (hq _ pw_52) (hq _ pw_53) (Nat.le_of_ble_eq_true rfl) (Nat.le_of_ble_eq_true rfl) (Nat.le_of_ble_eq_true rfl) (Nat.le_of_ble_eq_true rfl) dX10_split_14 ?_
  refine lv_topi (fun x5 e6 => ?_)
  obtain rfl : x5 = nI tp := e6.trans (mx_l (by omega))
  refine c_put (v := .int (nI tp)) (ty := .int) (C := RX10) (Tc := TX10) (N := 15) (ci := 7) hx hb hq pin_wsX100 tyX10 tyX10_ok nmX10 hown hE hP hD hS hO 2 (sg_2 G h0 a _ _ _ _ _) rfl 2 (by decide) (hq _ pw_47) (fun _ h9 => h9) rfl (by decide +kernel) rfl rfl (Nat.le_of_ble_eq_true rfl) (sf_1 G h0 a _ _ _ _ _ (nI tp)) dX10_split_17 (fun H locs w hP hD hS hO => ?_)
  refine lv_aload_n hx hb dX10_split_20 rfl (lv_at hl 1 rfl) ?_
  refine lv_iconst (v := 0) hx hb dX10_split_21 (by decide) ?_
  refine lv_aload_n hx hb dX10_split_22 rfl (lv_at hl 0 rfl) ?_
  refine c_get (v := .ref (a 6)) (C := RX10) (Tc := TX10) (N := 15) (ci := 7) hx hb hq pin_wsX100 hown hE hP hO 2 (sg_2 G h0 a _ _ _ _ _) rfl 0 (by decide) (hq _ pw_1234) (fun _ h9 => h9) rfl dX10_split_23 ?_
  refine lv_aload_n hx hb dX10_split_26 rfl (lv_at hl 0 rfl) ?_
  refine c_get (v := .int 220) (C := RX10) (Tc := TX10) (N := 15) (ci := 7) hx hb hq pin_wsX100 hown hE hP hO 2 (sg_2 G h0 a _ _ _ _ _) rfl 1 (by decide) (hq _ pw_1243) (fun _ h9 => h9) rfl dX10_split_27 ?_
  refine lv_aload_n hx hb dX10_split_30 rfl (lv_at hl 0 rfl) ?_
  refine c_get (v := .int (nI tp)) (C := RX10) (Tc := TX10) (N := 15) (ci := 7) hx hb hq pin_wsX100 hown hE hP hO 2 (sg_2 G h0 a _ _ _ _ _) rfl 2 (by decide) (hq _ pw_47) (fun _ h9 => h9) rfl dX10_split_31 ?_
  refine c_copyb (own := RX10) hx hb (by rw [hml]; exact hl.1.symm) hown (hq _ pw_1293) (hq _ pw_461) (hq _ pw_462) (hq _ pw_463) hE hP hD hS hO 1 3 (sg_1 G h0 a _ _ _ _ _) (sg_3 G h0 a _ _ _ _ _) (by decide) (by decide) (nI_pos (by omega)) (by rw [nI_clamp (show tp < 2 ^ 31 by omega)]; show 0 + tp ≤ _; omega) (by rw [nI_clamp (show tp < 2 ^ 31 by omega)]; show 220 + tp ≤ _; omega) hft (Nat.le_of_ble_eq_true rfl) (by decide) (sb_6 G h0 a _ _ _ _ _ _) dX10_split_34 (fun H locs w hP hD hS hO => ?_)
  generalize va_cpy _ _ _ _ _ = by9 at hO
  have hO : OKW G h0 a (upd F 1 (nI tp)) R Z (updA B 6 by9) J T Pi w := hO.to rfl
  refine lv_aload_n hx hb dX10_split_37 rfl (lv_at hl 0 rfl) ?_
  refine lv_iconst (v := 0) hx hb dX10_split_38 (by decide) ?_
  refine c_put (v := .int 0) (ty := .int) (C := RX10) (Tc := TX10) (N := 15) (ci := 7) hx hb hq pin_wsX100 tyX10 tyX10_ok nmX10 hown hE hP hD hS hO 2 (sg_2 G h0 a _ _ _ _ _) rfl 8 (by decide) (hq _ pw_37) (fun _ h9 => h9) rfl (by decide +kernel) rfl rfl (Nat.le_of_ble_eq_true rfl) (sf_2 G h0 a _ _ _ _ _ 0) dX10_split_39 (fun H locs w hP hD hS hO => ?_)
  refine lv_aload_n hx hb dX10_split_42 rfl (lv_at hl 0 rfl) ?_
  refine lv_iconst (v := 0) hx hb dX10_split_43 (by decide) ?_
  refine c_put (v := .int 0) (ty := .int) (C := RX10) (Tc := TX10) (N := 15) (ci := 7) hx hb hq pin_wsX100 tyX10 tyX10_ok nmX10 hown hE hP hD hS hO 2 (sg_2 G h0 a _ _ _ _ _) rfl 14 (by decide) (hq _ pw_48) (fun _ h9 => h9) rfl (by decide +kernel) rfl rfl (Nat.le_of_ble_eq_true rfl) (sf_4 G h0 a _ _ _ _ _ 0) dX10_split_44 (fun H locs w hP hD hS hO => ?_)
  refine lv_aload_n hx hb dX10_split_47 rfl (lv_at hl 0 rfl) ?_
  have hO : OKW G h0 a (upd (upd (upd F 1 (nI tp)) 2 0) 4 0) R Z (updA B 6 by9) J T Pi w := hO.to rfl
  obtain ⟨_, qr10, hqr11⟩ := hO.2.1 2 _ (sg_2 G h0 a _ _ _ _ _)
  refine pc_V0 (G := G) (As := []) (rest := []) hx hb hml hown hq hE hX pX0_al hP hD hS hA hl.1 (K_learn l G h0 a (upd (upd (upd F 1 (nI tp)) 2 0) 4 0) R Z (updA B 6 by9) J T Pi w hO) (gV pw_1294 pw_1295 pw_1296 pw_59 pw_1259) hV_X10_learnBuiltIn qr10 7 hqr11 rfl rfl rfl (Nat.le_of_ble_eq_true rfl) dX10_split_48 ⟨Nat.le_of_ble_eq_true rfl, Nat.le_of_ble_eq_true rfl⟩ ⟨Nat.le_of_ble_eq_true rfl, Nat.le_of_ble_eq_true rfl⟩ (fun v9 u7 H locs hw8 hP hD hS => ?_)
  obtain ⟨w, nm12, ns13, nl14, nn15, bk16⟩ := u7
  obtain ⟨hw8, h17, hO⟩ := hw8
  have h17 : NmR nm12 ns13 nl14 nn15 bk16 := h17
  obtain rfl : v9 = none := hw8
  have hO : OKW G h0 a (upd (upd (upd (upd F 1 (nI tp)) 2 0) 3 (nI nm12)) 4 0) R Z (updA (updA (updA (updA (updA B 6 by9) 12 ns13) 13 nl14) 14 nn15) 15 bk16) J T Pi w := hO.to rfl
  refine W.widen (k := 0) (n := 0) (Nat.le_of_ble_eq_true rfl) (Nat.le_of_ble_eq_true rfl) ?_
  refine W.eq (g2 := F0 m 51 ls []) rfl ?_
  refine lv_aload_n hx hb dX10_split_51 rfl (lv_at hl 0 rfl) ?_
  refine lv_iconst (v := 0) hx hb dX10_split_52 (by decide) ?_
  have hO : OKW G h0 a (upd (upd (upd (upd (upd F 1 (nI tp)) 2 0) 3 (nI nm12)) 4 0) 1 (nI tp)) R Z (updA (updA (updA (updA (updA B 6 by9) 12 ns13) 13 nl14) 14 nn15) 15 bk16) J T Pi w := hO.to rfl
  obtain ⟨_, qr21, hqr22⟩ := hO.2.1 2 _ (sg_2 G h0 a _ _ _ _ _)
  refine pc_V0 (G := G) (As := [.int (nI 0)]) (rest := []) hx hb hml hown hq hE hX pX0_al hP hD hS hA hl.1 (K_pastBlanks l G h0 a (upd (upd (upd (upd F 1 (nI tp)) 2 0) 3 (nI nm12)) 4 0) R Z (updA (updA (updA (updA (updA B 6 by9) 12 ns13) 13 nl14) 14 nn15) 15 bk16) J T Pi w 0 tp (by omega) (by omega) hO) (gV pw_1297 pw_1298 pw_1299 pw_59 pw_1265) hV_X10_pastBlanks qr21 7 hqr22 rfl rfl rfl (Nat.le_of_ble_eq_true rfl) dX10_split_53 ⟨Nat.le_of_ble_eq_true rfl, Nat.le_of_ble_eq_true rfl⟩ ⟨Nat.le_of_ble_eq_true rfl, Nat.le_of_ble_eq_true rfl⟩ (fun v20 u18 H locs hw19 hP hD hS => ?_)
  obtain ⟨w, k23⟩ := u18
  obtain ⟨hw19, h24, h25, hO⟩ := hw19
  have h24 : k23 ≤ tp := h24
  have h25 : k23 = tp ∨ 0 ≤ k23 := h25
  obtain rfl : v20 = some (.int (nI k23)) := hw19
  have hO : OKW G h0 a (upd (upd (upd (upd F 1 (nI tp)) 2 0) 3 (nI nm12)) 4 0) R Z (updA (updA (updA (updA (updA B 6 by9) 12 ns13) 13 nl14) 14 nn15) 15 bk16) J T Pi w := hO.to rfl
  refine W.widen (k := 0) (n := 0) (Nat.le_of_ble_eq_true rfl) (Nat.le_of_ble_eq_true rfl) ?_
  refine W.eq (g2 := F0 m 56 ls [.int (nI k23)]) rfl ?_
  refine lv_istore_n (lv' := [(3, .int (nI k23)), (0, .ref (a 1)), (1, .ref (a 0)), (2, .int (nI tp))]) hx hb dX10_split_56 rfl hl (by decide) rfl (fun ls hl => ?_)
  refine lv_iconst (v := 0) hx hb dX10_split_57 (by decide) ?_
  refine lv_istore (lv' := [(4, .int 0), (3, .int (nI k23)), (0, .ref (a 1)), (1, .ref (a 0)), (2, .int (nI tp))]) hx hb dX10_split_58 hl (by decide) rfl (fun ls hl => ?_)
  have loop_n : ∀ (n_n : Nat) (n2 : Nat) (at2 : Nat) (sz2 : Nat) (nm2 : Nat) (by2 : Nat → Int32) (g1 : Nat → Int32) (g2 : Nat → Int32) (g3 : Nat → Int32) (g4 : Nat → Int32) (g5 : Nat → Int32) (ns2 : Nat → Int32) (nl2 : Nat → Int32) (nn2 : Nat → Int32) (bk2 : Nat → Int32) (H : Heap) (locs : List Loc) (ls : Array Slot) (w : va_W), n2 ≤ tp → tp + 1 ≤ n2 + n_n → (at2 ≤ tp) → (sz2 ≤ n2) → (NmR nm2 ns2 nl2 nn2 bk2) → va_P G.1 pCl w H → va_D A w → va_S A s.heap H locs → OKW G h0 a (upd (upd (upd (upd F 1 (nI tp)) 2 (nI sz2)) 3 (nI nm2)) 4 0) R Z (updA (updA (updA (updA (updA (updA (updA (updA (updA (updA B 6 by2) 7 g1) 8 g2) 9 g3) 10 g4) 11 g5) 12 ns2) 13 nl2) 14 nn2) 15 bk2) J T Pi w → lv_has ls 6 [(4, .int (nI n2)), (3, .int (nI at2)), (2, .int (nI tp)), (1, .ref (a 0)), (0, .ref (a 1))] → W p l e (headSpec (Cond.code yX10_split cX10_split 6 none :: pw) ({ frames := 8, cells := 0, slots := 0, locals := 192 } : Room)).room s m ([.ref (a 1), .ref (a 0), .int (nI tp)] : List Value).toArray below meth c H locs 0 0 (MQ below (pQ G A (fun (v : Option Value) (u : va_W × (Nat × (Nat → Int32) × (Nat → Int32) × (Nat → Int32) × (Nat → Int32) × (Nat → Int32) × Nat × (Nat → Int32) × (Nat → Int32) × (Nat → Int32) × (Nat → Int32) × (Nat → Int32))) => v = none ∧ (u.2.1 ≤ tp) ∧ (NmR u.2.2.2.2.2.2.2.1 u.2.2.2.2.2.2.2.2.1 u.2.2.2.2.2.2.2.2.2.1 u.2.2.2.2.2.2.2.2.2.2.1 u.2.2.2.2.2.2.2.2.2.2.2.1) ∧ (OKW G h0 a (upd (upd (upd (upd F 1 (nI tp)) 2 (nI u.2.1)) 3 (nI u.2.2.2.2.2.2.2.1)) 4 0) R Z (updA (updA (updA (updA (updA (updA (updA (updA (updA (updA B 6 u.2.2.2.2.2.2.2.2.2.2.2.2) 7 u.2.2.1) 8 u.2.2.2.1) 9 u.2.2.2.2.1) 10 u.2.2.2.2.2.1) 11 u.2.2.2.2.2.2.1) 12 u.2.2.2.2.2.2.2.2.1) 13 u.2.2.2.2.2.2.2.2.2.1) 14 u.2.2.2.2.2.2.2.2.2.2.1) 15 u.2.2.2.2.2.2.2.2.2.2.2.1) J T Pi u.1)) (fun u => u.1)) ([.ref (a 1), .ref (a 0), .int (nI tp)] : List Value).toArray s ({ frames := 8, cells := 0, slots := 0, locals := 192 } : Room).cells ({ frames := 8, cells := 0, slots := 0, locals := 192 } : Room).slots A) (F0 m 60 ls []) := by
    intro n_n
    induction n_n with
    | zero => intro n2 at2 sz2 nm2 by2 g1 g2 g3 g4 g5 ns2 nl2 nn2 bk2 H locs ls w hk_n hn_n; omega
    | succ n_n ih_n =>
      intro n2 at2 sz2 nm2 by2 g1 g2 g3 g4 g5 ns2 nl2 nn2 bk2 H locs ls w hk_n hn_n hat2 hsz2 hnm2 hP hD hS hO hl
      refine lv_iload hx hb dX10_split_60 (lv_at hl 0 rfl) ?_
      refine lv_aload_n hx hb dX10_split_62 rfl (lv_at hl 4 rfl) ?_
      refine c_get (v := .int (nI tp)) (C := RX10) (Tc := TX10) (N := 15) (ci := 7) hx hb hq pin_wsX100 hown hE hP hO 2 (sg_2 G h0 a _ _ _ _ _) rfl 2 (by decide) (hq _ pw_47) (fun _ h9 => h9) rfl dX10_split_63 ?_
      refine lv_icmp_ge (tgt := 110) hx hb dX10_split_66 (by decide) (fun c26 => ?_) (fun c26 => ?_)
      · have n27 : tp ≤ n2 := (nI_leI (a := tp) (b := n2) (by omega) (by omega)).mp c26
        have hz28 : sz2 ≤ tp := (by omega)
        have hz29 : NmR nm2 ns2 nl2 nn2 bk2 := hnm2
        have hO : OKW G h0 a (upd (upd (upd (upd F 1 (nI tp)) 2 (nI sz2)) 3 (nI nm2)) 4 0) R Z (updA (updA (updA (updA (updA (updA (updA (updA (updA (updA B 6 by2) 7 g1) 8 g2) 9 g3) 10 g4) 11 g5) 12 ns2) 13 nl2) 14 nn2) 15 bk2) J T Pi w := hO.to rfl
        exact W.vret hx hb hr (fun t99 ht99 hW99 => ⟨⟨_, (w, (sz2, g1, g2, g3, g4, g5, nm2, ns2, nl2, nn2, bk2, by2)), rfl, ⟨rfl, hz28, hz29, hO⟩, by rw [ht99]; exact hP, hD⟩, hS.F ht99⟩) hS.2.2 dX10_split_110
      · have n30 : ¬ (tp ≤ n2) := fun h9 => c26 ((nI_leI (a := tp) (b := n2) (by omega) (by omega)).mpr h9)
        refine lv_iload_n hx hb dX10_split_69 rfl (lv_at hl 1 rfl) ?_
        refine lv_aload_n hx hb dX10_split_70 rfl (lv_at hl 4 rfl) ?_
        refine c_get (v := .int (nI tp)) (C := RX10) (Tc := TX10) (N := 15) (ci := 7) hx hb hq pin_wsX100 hown hE hP hO 2 (sg_2 G h0 a _ _ _ _ _) rfl 2 (by decide) (hq _ pw_47) (fun _ h9 => h9) rfl dX10_split_71 ?_
        refine lv_icmp_ge (tgt := 110) hx hb dX10_split_74 (by decide) (fun c31 => ?_) (fun c31 => ?_)
        · have n32 : tp ≤ at2 := (nI_leI (a := tp) (b := at2) (by omega) (by omega)).mp c31
          have hz33 : sz2 ≤ tp := (by omega)
          have hz34 : NmR nm2 ns2 nl2 nn2 bk2 := hnm2
          have hO : OKW G h0 a (upd (upd (upd (upd F 1 (nI tp)) 2 (nI sz2)) 3 (nI nm2)) 4 0) R Z (updA (updA (updA (updA (updA (updA (updA (updA (updA (updA B 6 by2) 7 g1) 8 g2) 9 g3) 10 g4) 11 g5) 12 ns2) 13 nl2) 14 nn2) 15 bk2) J T Pi w := hO.to rfl
          exact W.vret hx hb hr (fun t99 ht99 hW99 => ⟨⟨_, (w, (sz2, g1, g2, g3, g4, g5, nm2, ns2, nl2, nn2, bk2, by2)), rfl, ⟨rfl, hz33, hz34, hO⟩, by rw [ht99]; exact hP, hD⟩, hS.F ht99⟩) hS.2.2 dX10_split_110
        · have n35 : ¬ (tp ≤ at2) := fun h9 => c31 ((nI_leI (a := tp) (b := at2) (by omega) (by omega)).mpr h9)
          refine lv_aload_n hx hb dX10_split_77 rfl (lv_at hl 4 rfl) ?_
          refine lv_iload_n hx hb dX10_split_78 rfl (lv_at hl 1 rfl) ?_
          have hO : OKW G h0 a (upd (upd (upd (upd (upd (upd (upd F 1 (nI tp)) 2 (nI sz2)) 3 (nI nm2)) 4 0) 1 (nI tp)) 2 (nI sz2)) 3 (nI nm2)) R Z (updA (updA (updA (updA (updA (updA (updA (updA (updA (updA (updA (updA (updA (updA B 6 by2) 7 g1) 8 g2) 9 g3) 10 g4) 11 g5) 12 ns2) 13 nl2) 14 nn2) 15 bk2) 12 ns2) 13 nl2) 14 nn2) 15 bk2) J T Pi w := hO.to rfl
          obtain ⟨_, qr39, hqr40⟩ := hO.2.1 2 _ (sg_2 G h0 a _ _ _ _ _)
          refine pc_V0 (G := G) (As := [.int (nI at2)]) (rest := []) hx hb hml hown hq hE hX pX0_al hP hD hS hA hl.1 (K_addToken l G h0 a (upd (upd (upd (upd F 1 (nI tp)) 2 (nI sz2)) 3 (nI nm2)) 4 0) R Z (updA (updA (updA (updA (updA (updA (updA (updA (updA (updA B 6 by2) 7 g1) 8 g2) 9 g3) 10 g4) 11 g5) 12 ns2) 13 nl2) 14 nn2) 15 bk2) J T Pi w at2 tp sz2 nm2 ns2 nl2 nn2 bk2 (by omega) (by omega) (by omega) hnm2 hO) (gV pw_1300 pw_1301 pw_1302 pw_59 pw_1290) hV_X10_addToken qr39 7 hqr40 rfl rfl rfl (Nat.le_of_ble_eq_true rfl) dX10_split_79 ⟨Nat.le_of_ble_eq_true rfl, Nat.le_of_ble_eq_true rfl⟩ ⟨Nat.le_of_ble_eq_true rfl, Nat.le_of_ble_eq_true rfl⟩ (fun v38 u36 H locs hw37 hP hD hS => ?_)
          obtain ⟨w, sz41, f42, f43, f44, f45, f46, nm47, ns48, nl49, nn50, bk51, r52⟩ := u36
          obtain ⟨hw37, h53, h54, h55, hO⟩ := hw37
          have h53 : sz41 ≤ 5000 := h53
          have h54 : sz41 ≤ sz2 + 1 := h54
          have h55 : NmR nm47 ns48 nl49 nn50 bk51 := h55
          obtain rfl : v38 = some (.int r52) := hw37
          have hO : OKW G h0 a (upd (upd (upd (upd F 1 (nI tp)) 2 (nI sz41)) 3 (nI nm47)) 4 0) R Z (updA (updA (updA (updA (updA (updA (updA (updA (updA (updA B 6 by2) 7 f42) 8 f43) 9 f44) 10 f45) 11 f46) 12 ns48) 13 nl49) 14 nn50) 15 bk51) J T Pi w := hO.to rfl
          refine W.widen (k := 0) (n := 0) (Nat.le_of_ble_eq_true rfl) (Nat.le_of_ble_eq_true rfl) ?_
          refine W.eq (g2 := F0 m 82 ls [.int r52]) rfl ?_
          refine lv_istore (lv' := [(5, .int r52), (4, .int (nI n2)), (3, .int (nI at2)), (2, .int (nI tp)), (1, .ref (a 0)), (0, .ref (a 1))]) hx hb dX10_split_82 hl (by decide) rfl (fun ls hl => ?_)
          refine lv_iload hx hb dX10_split_84 (lv_at hl 0 rfl) ?_
          refine lv_iload_n hx hb dX10_split_86 rfl (lv_at hl 2 rfl) ?_
          refine lv_icmp_le (tgt := 99) hx hb dX10_split_87 (by decide) (fun c56 => ?_) (fun c56 => ?_)
          · refine lv_aload_n hx hb dX10_split_99 rfl (lv_at hl 5 rfl) ?_
            refine c_get (v := .int (nI tp)) (C := RX10) (Tc := TX10) (N := 15) (ci := 7) hx hb hq pin_wsX100 hown hE hP hO 2 (sg_2 G h0 a _ _ _ _ _) rfl 2 (by decide) (hq _ pw_47) (fun _ h9 => h9) rfl dX10_split_100 ?_
            refine lv_istore_n (lv' := [(3, .int (nI tp)), (5, .int r52), (4, .int (nI n2)), (2, .int (nI tp)), (1, .ref (a 0)), (0, .ref (a 1))]) hx hb dX10_split_103 rfl hl (by decide) rfl (fun ls hl => ?_)
            refine lv_iinc (v := (nI (n2 + 1))) (lv' := [(4, .int (nI (n2 + 1))), (3, .int (nI tp)), (5, .int r52), (2, .int (nI tp)), (1, .ref (a 0)), (0, .ref (a 1))]) hx hb dX10_split_104 hl (k := 2) rfl (nI_1 n2) (by decide) rfl (fun ls hl => ?_)
            refine lv_goto (tgt := 60) hx hb dX10_split_107 (by decide) ?_
            have hO : OKW G h0 a (upd (upd (upd (upd F 1 (nI tp)) 2 (nI sz41)) 3 (nI nm47)) 4 0) R Z (updA (updA (updA (updA (updA (updA (updA (updA (updA (updA B 6 by2) 7 f42) 8 f43) 9 f44) 10 f45) 11 f46) 12 ns48) 13 nl49) 14 nn50) 15 bk51) J T Pi w := hO.to rfl
            exact ih_n (n2 + 1) tp sz41 nm47 by2 f42 f43 f44 f45 f46 ns48 nl49 nn50 bk51 _ _ _ _ (by omega) (by omega) (by omega) (by omega) h55 hP hD hS hO (lv_sub hl [0, 1, 3, 4, 5] rfl)
          · obtain ⟨e9, he9, hf9⟩ := nI_nn2 (x := r52) (gt_nn (n := at2) (by omega) c56)
            rw [he9] at hl
            refine lv_aload_n hx hb dX10_split_90 rfl (lv_at hl 5 rfl) ?_
            refine lv_iload hx hb dX10_split_91 (lv_at hl 0 rfl) ?_
            have hO : OKW G h0 a (upd (upd (upd (upd (upd F 1 (nI tp)) 2 (nI sz41)) 3 (nI nm47)) 4 0) 1 (nI tp)) R Z (updA (updA (updA (updA (updA (updA (updA (updA (updA (updA B 6 by2) 7 f42) 8 f43) 9 f44) 10 f45) 11 f46) 12 ns48) 13 nl49) 14 nn50) 15 bk51) J T Pi w := hO.to rfl
            obtain ⟨_, qr60, hqr61⟩ := hO.2.1 2 _ (sg_2 G h0 a _ _ _ _ _)
            refine pc_V0 (G := G) (As := [.int (nI e9)]) (rest := []) hx hb hml hown hq hE hX pX0_al hP hD hS hA hl.1 (K_pastBlanks l G h0 a (upd (upd (upd (upd F 1 (nI tp)) 2 (nI sz41)) 3 (nI nm47)) 4 0) R Z (updA (updA (updA (updA (updA (updA (updA (updA (updA (updA B 6 by2) 7 f42) 8 f43) 9 f44) 10 f45) 11 f46) 12 ns48) 13 nl49) 14 nn50) 15 bk51) J T Pi w e9 tp (by omega) (by omega) hO) (gV pw_1297 pw_1298 pw_1299 pw_59 pw_1265) hV_X10_pastBlanks qr60 7 hqr61 rfl rfl rfl (Nat.le_of_ble_eq_true rfl) dX10_split_93 ⟨Nat.le_of_ble_eq_true rfl, Nat.le_of_ble_eq_true rfl⟩ ⟨Nat.le_of_ble_eq_true rfl, Nat.le_of_ble_eq_true rfl⟩ (fun v59 u57 H locs hw58 hP hD hS => ?_)
            obtain ⟨w, k62⟩ := u57
            obtain ⟨hw58, h63, h64, hO⟩ := hw58
            have h63 : k62 ≤ tp := h63
            have h64 : k62 = tp ∨ e9 ≤ k62 := h64
            obtain rfl : v59 = some (.int (nI k62)) := hw58
            have hO : OKW G h0 a (upd (upd (upd (upd F 1 (nI tp)) 2 (nI sz41)) 3 (nI nm47)) 4 0) R Z (updA (updA (updA (updA (updA (updA (updA (updA (updA (updA B 6 by2) 7 f42) 8 f43) 9 f44) 10 f45) 11 f46) 12 ns48) 13 nl49) 14 nn50) 15 bk51) J T Pi w := hO.to rfl
            refine W.widen (k := 0) (n := 0) (Nat.le_of_ble_eq_true rfl) (Nat.le_of_ble_eq_true rfl) ?_
            refine W.eq (g2 := F0 m 96 ls [.int (nI k62)]) rfl ?_
            refine lv_goto (tgt := 103) hx hb dX10_split_96 (by decide) ?_
            refine lv_istore_n (lv' := [(3, .int (nI k62)), (5, .int (nI e9)), (4, .int (nI n2)), (2, .int (nI tp)), (1, .ref (a 0)), (0, .ref (a 1))]) hx hb dX10_split_103 rfl hl (by decide) rfl (fun ls hl => ?_)
            refine lv_iinc (v := (nI (n2 + 1))) (lv' := [(4, .int (nI (n2 + 1))), (3, .int (nI k62)), (5, .int (nI e9)), (2, .int (nI tp)), (1, .ref (a 0)), (0, .ref (a 1))]) hx hb dX10_split_104 hl (k := 2) rfl (nI_1 n2) (by decide) rfl (fun ls hl => ?_)
            refine lv_goto (tgt := 60) hx hb dX10_split_107 (by decide) ?_
            have hO : OKW G h0 a (upd (upd (upd (upd F 1 (nI tp)) 2 (nI sz41)) 3 (nI nm47)) 4 0) R Z (updA (updA (updA (updA (updA (updA (updA (updA (updA (updA B 6 by2) 7 f42) 8 f43) 9 f44) 10 f45) 11 f46) 12 ns48) 13 nl49) 14 nn50) 15 bk51) J T Pi w := hO.to rfl
            exact ih_n (n2 + 1) k62 sz41 nm47 by2 f42 f43 f44 f45 f46 ns48 nl49 nn50 bk51 _ _ _ _ (by omega) (by omega) (by omega) (by omega) h55 hP hD hS hO (lv_sub hl [0, 1, 3, 4, 5] rfl)
  have hO : OKW G h0 a (upd (upd (upd (upd F 1 (nI tp)) 2 (nI 0)) 3 (nI nm12)) 4 0) R Z (updA (updA (updA (updA (updA (updA (updA (updA (updA (updA B 6 by9) 7 (B 7)) 8 (B 8)) 9 (B 9)) 10 (B 10)) 11 (B 11)) 12 ns13) 13 nl14) 14 nn15) 15 bk16) J T Pi w := hO.to rfl
  exact loop_n (tp + 1) 0 k23 0 nm12 by9 (B 7) (B 8) (B 9) (B 10) (B 11) ns13 nl14 nn15 bk16 _ _ _ _ (by omega) (by omega) (by omega) (by omega) h17 hP hD hS hO (lv_sub hl [0, 1, 4, 3, 2] rfl)
