def shQ (it : Nat → Nat) (x : Nat) : Nat → Nat := fun i => if i = 0 then x else it (i - 1)
theorem ins_ok {G : pT} {K : PK} {q e9 n x : Nat} {it : Nat → Nat} (h5 : K.1 q = 5) (he : K.2.2.1 13 q = some e9) (h6 : K.1 e9 = 6) (h17 : K.2.2.1 17 e9 = some q) (hl : n < K.2.2.2.2.2 e9) (hb : 10 ≤ K.2.2.2.2.2 e9 ∧ K.2.2.2.2.2 e9 ≤ 200000) (hel : ∀ i : Nat, i < n → K.2.2.2.2.1 e9 i = some (it i) ∧ K.1 (it i) = 1) (hx : K.1 x = 1) (hn : n + 1 ≤ 100000) : LsC G (kI (kE (kE K e9 (va_cpy (K.2.2.2.2.1 e9) (K.2.2.2.2.1 e9) 0 1 n)) e9 (va_up ((kE K e9 (va_cpy (K.2.2.2.2.1 e9) (K.2.2.2.2.1 e9) 0 1 n)).2.2.2.2.1 e9) 0 (some x))) 23 q (nI (n + 1))) q 1 (n + 1) (shQ it x) (K.2.2.2.2.2 e9) ∧ AdQ K (kI (kE (kE K e9 (va_cpy (K.2.2.2.2.1 e9) (K.2.2.2.2.1 e9) 0 1 n)) e9 (va_up ((kE K e9 (va_cpy (K.2.2.2.2.1 e9) (K.2.2.2.2.1 e9) 0 1 n)).2.2.2.2.1 e9) 0 (some x))) 23 q (nI (n + 1))) q := by
  have hE1 : (kE K e9 (va_cpy (K.2.2.2.2.1 e9) (K.2.2.2.2.1 e9) 0 1 n)).2.2.2.2.1 e9 = va_cpy (K.2.2.2.2.1 e9) (K.2.2.2.2.1 e9) 0 1 n := if_pos rfl
  rw [hE1]
  generalize eK : kE K e9 (va_cpy (K.2.2.2.2.1 e9) (K.2.2.2.2.1 e9) 0 1 n) = Ka
  have hE9 : (kI (kE Ka e9 (va_up (va_cpy (K.2.2.2.2.1 e9) (K.2.2.2.2.1 e9) 0 1 n) 0 (some x))) 23 q (nI (n + 1))).2.2.2.2.1 e9 = va_up (va_cpy (K.2.2.2.2.1 e9) (K.2.2.2.2.1 e9) 0 1 n) 0 (some x) := if_pos rfl
  have T : ∀ p : Nat, Ka.1 p = K.1 p := fun p => by rw [← eK]; rfl
  have C : ∀ f p : Nat, Ka.2.2.1 f p = K.2.2.1 f p := fun f p => by rw [← eK]; rfl
  have I : ∀ f p : Nat, Ka.2.1 f p = K.2.1 f p := fun f p => by rw [← eK]; rfl
  have L : ∀ p : Nat, Ka.2.2.2.2.2 p = K.2.2.2.2.2 p := fun p => by rw [← eK]; rfl
  have Z : ∀ p : Nat, Ka.2.2.2.1 p = K.2.2.2.1 p := fun p => by rw [← eK]; rfl
  have E : ∀ p : Nat, ¬ p = e9 → Ka.2.2.2.2.1 p = K.2.2.2.2.1 p := fun p hp => by rw [← eK]; exact if_neg hp
  clear eK hE1
  refine ⟨⟨(T q).trans h5, kI_eq, hn, Or.inr ⟨e9, (C 13 q).trans he, (T e9).trans h6, (C 17 e9).trans h17, L e9, hb.1, by omega, hb.2, fun i hi => ?_⟩⟩, fun p hp => ⟨T p, C 17 p⟩, fun p hp h1 h2 => ?_⟩
  · rw [hE9]
    by_cases z : i = 0
    · subst z
      exact ⟨by rw [va_up_self]; rfl, (T x).trans hx⟩
    · have hh := hel (i - 1) (by omega)
      refine ⟨?_, ?_⟩
      · rw [va_up_ne _ _ z]
        unfold va_cpy shQ
        rw [if_pos (by omega), if_neg z]
        rw [show 0 + (i - 1) = i - 1 by omega]
        exact hh.1
      · unfold shQ
        rw [if_neg z]
        exact (T _).trans hh.2
  · have hpe : ¬ p = e9 := fun z => h2 (by rw [z]; exact ⟨h6, h17⟩)
    exact ⟨T p, fun f => (kI_ne h1).trans (I f p), fun f => C f p, Z p, (if_neg hpe).trans (E p hpe), L p⟩
theorem dJx4a65c_rangeCheckForAdd_d00df_0 : decode cJx4a65c_rangeCheckForAdd_d00df 0 = .ok (.iload_n 1, 1) := by decide +kernel
theorem dJx4a65c_rangeCheckForAdd_d00df_1 : decode cJx4a65c_rangeCheckForAdd_d00df 1 = .ok (.aload_n 0, 1) := by decide +kernel
theorem dJx4a65c_rangeCheckForAdd_d00df_2 : decode cJx4a65c_rangeCheckForAdd_d00df 2 = .ok (.getfield 48, 3) := by decide +kernel
theorem dJx4a65c_rangeCheckForAdd_d00df_5 : decode cJx4a65c_rangeCheckForAdd_d00df 5 = .ok (.if_icmp .gt 7, 3) := by decide +kernel
theorem dJx4a65c_rangeCheckForAdd_d00df_8 : decode cJx4a65c_rangeCheckForAdd_d00df 8 = .ok (.iload_n 1, 1) := by decide +kernel
theorem dJx4a65c_rangeCheckForAdd_d00df_9 : decode cJx4a65c_rangeCheckForAdd_d00df 9 = .ok (.ifCond .ge 16, 3) := by decide +kernel
theorem dJx4a65c_rangeCheckForAdd_d00df_25 : decode cJx4a65c_rangeCheckForAdd_d00df 25 = .ok (.return_, 1) := by decide +kernel
set_option maxHeartbeats 2000000 in
set_option maxRecDepth 100000 in
theorem L_rng (l : Launch) (G : pT) (h0 : Nat) (a : Nat → Nat) (F : Nat → Int32) (R : Nat → Value) (Z : Int64) (B : Nat → Nat → Int32) (J : Nat → Nat → Int64) (K : PK) (w : va_W) (q0 : Nat) (n : Nat) (hT0 : K.1 q0 = 5) (hsz0 : K.2.1 23 q0 = nI n) (hn0 : n ≤ 100000) (hO : OKP G h0 a F R Z B J K w) : PM l G pX0 yJx4a65c_rangeCheckForAdd_d00df cJx4a65c_rangeCheckForAdd_d00df 2 none ({ frames := 2, cells := 0, slots := 0, locals := 60 }) [.ref q0, .int 0] w (fun (v : Option Value) (u : va_W × (Unit)) => v = none ∧ (OKP G h0 a F R Z B J K u.1)) (fun u => u.1) := by
  intro sz
  refine Met.ofW (cc := cJx4a65c_rangeCheckForAdd_d00df) (maxL := 2) (ret := none) (by decide) rfl ?_
  intro p e s m args below meth c s₁ B9 hml hv
  obtain ⟨rfl, hsz, hP, hD0, hE, hX⟩ := hv
  have hx := B9.exec
  have hb := B9.bytes
  have hr := B9.returns
  have hts := atoms_spec (ws := Cond.code yJx4a65c_rangeCheckForAdd_d00df cJx4a65c_rangeCheckForAdd_d00df 2 none :: pw) B9.pre
  have hq : ∀ w ∈ pw, w.before _ s = true := fun w h => hts w (List.mem_cons_of_mem _ h)
  have hown : s.vm.findClass RJx4a65c = some m.cls := findClass_of_methodNamed B9.named
  have hlocks := B9.notSynchronized
  subst hsz
  have hD := hD0.self (sz := s.heap.size)
  have hA : ∀ q : Nat, s.heap.size ≤ q → va_A w s.heap.size q := fun q h => Or.inr h
  generalize va_A w s.heap.size = A at hD hE hA ⊢
  have hS : va_S A s.heap s.heap [] := va_S.rf
  have hl := lv_entry ([.ref q0, .int 0]) (n := 2) (Nat.le_of_ble_eq_true rfl)
  rw [lg_entry_eq]
  generalize (lg_sl ([.ref q0, .int 0]) ++ List.replicate (2 - (lg_sl ([.ref q0, .int 0])).length) Slot.unset).toArray = ls at hl ⊢
  have hl : lv_has ls 2 [(0, .ref q0), (1, .int 0)] := hl
  refine lv_iload_n hx hb dJx4a65c_rangeCheckForAdd_d00df_0 rfl (lv_at hl 1 rfl) ?_
  refine lv_aload_n hx hb dJx4a65c_rangeCheckForAdd_d00df_1 rfl (lv_at hl 0 rfl) ?_
  refine p_get (v := .int (nI n)) (C := RJx4a65c) (Tc := TJx4a65c) (N := 3) (ci := 10) hx hb hq pin_wsJx4a65c0 hown hE hP hO (by rw [hT0]; decide) (rep_5 hT0) rfl 2 (by decide) (hq _ pw_17) (fun _ h9 => h9) (congrArg (fun z => some (Value.int z)) hsz0) dJx4a65c_rangeCheckForAdd_d00df_2 ?_
  refine lv_icmp_gt (tgt := 12) hx hb dJx4a65c_rangeCheckForAdd_d00df_5 (by decide) (fun c1 => (by have n2 : n < 0 := (nI_ltI (a := n) (b := 0) (by omega) (by omega)).mp c1; omega)) (fun c1 => ?_)
  refine lv_iload_n hx hb dJx4a65c_rangeCheckForAdd_d00df_8 rfl (lv_at hl 1 rfl) ?_
  refine lv_if_ge (tgt := 25) hx hb dJx4a65c_rangeCheckForAdd_d00df_9 (by decide) (fun c3 => ?_) (fun c3 => absurd c3 (by decide))
  have hO : OKP G h0 a F R Z B J K w := hO.to rfl
  exact W.vret hx hb hr (fun t99 ht99 hW99 => ⟨⟨_, (w, ()), rfl, ⟨rfl, hO⟩, by rw [ht99]; exact hP, hD⟩, hS.F ht99⟩) hS.2.2 dJx4a65c_rangeCheckForAdd_d00df_25
theorem dJx4a65c_add_7a177_0 : decode cJx4a65c_add_7a177 0 = .ok (.aload_n 0, 1) := by decide +kernel
theorem dJx4a65c_add_7a177_1 : decode cJx4a65c_add_7a177 1 = .ok (.iload_n 1, 1) := by decide +kernel
theorem dJx4a65c_add_7a177_2 : decode cJx4a65c_add_7a177 2 = .ok (.invokevirtual 135, 3) := by decide +kernel
theorem dJx4a65c_add_7a177_5 : decode cJx4a65c_add_7a177 5 = .ok (.aload_n 0, 1) := by decide +kernel
theorem dJx4a65c_add_7a177_6 : decode cJx4a65c_add_7a177 6 = .ok (.dup, 1) := by decide +kernel
theorem dJx4a65c_add_7a177_7 : decode cJx4a65c_add_7a177 7 = .ok (.getfield 63, 3) := by decide +kernel
theorem dJx4a65c_add_7a177_10 : decode cJx4a65c_add_7a177 10 = .ok (.iconst 1, 1) := by decide +kernel
theorem dJx4a65c_add_7a177_11 : decode cJx4a65c_add_7a177 11 = .ok (.iadd, 1) := by decide +kernel
theorem dJx4a65c_add_7a177_12 : decode cJx4a65c_add_7a177 12 = .ok (.putfield 63, 3) := by decide +kernel
theorem dJx4a65c_add_7a177_15 : decode cJx4a65c_add_7a177 15 = .ok (.aload_n 0, 1) := by decide +kernel
theorem dJx4a65c_add_7a177_16 : decode cJx4a65c_add_7a177 16 = .ok (.getfield 48, 3) := by decide +kernel
theorem dJx4a65c_add_7a177_19 : decode cJx4a65c_add_7a177 19 = .ok (.dup, 1) := by decide +kernel
theorem dJx4a65c_add_7a177_20 : decode cJx4a65c_add_7a177 20 = .ok (.istore_n 3, 1) := by decide +kernel
theorem dJx4a65c_add_7a177_21 : decode cJx4a65c_add_7a177 21 = .ok (.aload_n 0, 1) := by decide +kernel
theorem dJx4a65c_add_7a177_22 : decode cJx4a65c_add_7a177 22 = .ok (.getfield 9, 3) := by decide +kernel
theorem dJx4a65c_add_7a177_25 : decode cJx4a65c_add_7a177 25 = .ok (.dup, 1) := by decide +kernel
theorem dJx4a65c_add_7a177_26 : decode cJx4a65c_add_7a177 26 = .ok (.astore 4, 2) := by decide +kernel
theorem dJx4a65c_add_7a177_28 : decode cJx4a65c_add_7a177 28 = .ok (.arraylength, 1) := by decide +kernel
theorem dJx4a65c_add_7a177_29 : decode cJx4a65c_add_7a177 29 = .ok (.if_icmp .ne 9, 3) := by decide +kernel
theorem dJx4a65c_add_7a177_32 : decode cJx4a65c_add_7a177 32 = .ok (.aload_n 0, 1) := by decide +kernel
theorem dJx4a65c_add_7a177_33 : decode cJx4a65c_add_7a177 33 = .ok (.invokevirtual 129, 3) := by decide +kernel
theorem dJx4a65c_add_7a177_36 : decode cJx4a65c_add_7a177 36 = .ok (.astore 4, 2) := by decide +kernel
theorem dJx4a65c_add_7a177_38 : decode cJx4a65c_add_7a177 38 = .ok (.aload 4, 2) := by decide +kernel
theorem dJx4a65c_add_7a177_40 : decode cJx4a65c_add_7a177 40 = .ok (.iload_n 1, 1) := by decide +kernel
theorem dJx4a65c_add_7a177_41 : decode cJx4a65c_add_7a177 41 = .ok (.aload 4, 2) := by decide +kernel
theorem dJx4a65c_add_7a177_43 : decode cJx4a65c_add_7a177 43 = .ok (.iload_n 1, 1) := by decide +kernel
theorem dJx4a65c_add_7a177_44 : decode cJx4a65c_add_7a177 44 = .ok (.iconst 1, 1) := by decide +kernel
theorem dJx4a65c_add_7a177_45 : decode cJx4a65c_add_7a177 45 = .ok (.iadd, 1) := by decide +kernel
theorem dJx4a65c_add_7a177_46 : decode cJx4a65c_add_7a177 46 = .ok (.iload_n 3, 1) := by decide +kernel
theorem dJx4a65c_add_7a177_47 : decode cJx4a65c_add_7a177 47 = .ok (.iload_n 1, 1) := by decide +kernel
theorem dJx4a65c_add_7a177_48 : decode cJx4a65c_add_7a177 48 = .ok (.isub, 1) := by decide +kernel
theorem dJx4a65c_add_7a177_49 : decode cJx4a65c_add_7a177 49 = .ok (.invokestatic 112, 3) := by decide +kernel
theorem dJx4a65c_add_7a177_52 : decode cJx4a65c_add_7a177 52 = .ok (.aload 4, 2) := by decide +kernel
theorem dJx4a65c_add_7a177_54 : decode cJx4a65c_add_7a177 54 = .ok (.iload_n 1, 1) := by decide +kernel
theorem dJx4a65c_add_7a177_55 : decode cJx4a65c_add_7a177 55 = .ok (.aload_n 2, 1) := by decide +kernel
theorem dJx4a65c_add_7a177_56 : decode cJx4a65c_add_7a177 56 = .ok (.aastore, 1) := by decide +kernel
theorem dJx4a65c_add_7a177_57 : decode cJx4a65c_add_7a177 57 = .ok (.aload_n 0, 1) := by decide +kernel
theorem dJx4a65c_add_7a177_58 : decode cJx4a65c_add_7a177 58 = .ok (.iload_n 3, 1) := by decide +kernel
theorem dJx4a65c_add_7a177_59 : decode cJx4a65c_add_7a177 59 = .ok (.iconst 1, 1) := by decide +kernel
theorem dJx4a65c_add_7a177_60 : decode cJx4a65c_add_7a177 60 = .ok (.iadd, 1) := by decide +kernel
theorem dJx4a65c_add_7a177_61 : decode cJx4a65c_add_7a177 61 = .ok (.putfield 48, 3) := by decide +kernel
theorem dJx4a65c_add_7a177_64 : decode cJx4a65c_add_7a177 64 = .ok (.return_, 1) := by decide +kernel
theorem hV_Jx4a65c_rangeCheckForAdd_d00df : yJx4a65c_rangeCheckForAdd_d00df.cls = RJx4a65c ∧ yJx4a65c_rangeCheckForAdd_d00df.cls ≠ "java/lang/invoke/MethodHandle" ∧ yJx4a65c_rangeCheckForAdd_d00df.cls ≠ "java/lang/invoke/VarHandle" ∧ (parseMethodDescriptor yJx4a65c_rangeCheckForAdd_d00df.desc).map (fun d => d.parameters.length) = some 1 := by decide +kernel
set_option maxHeartbeats 20000000 in
set_option maxRecDepth 100000 in
theorem L_insC (l : Launch) (G : pT) (h0 : Nat) (a : Nat → Nat) (F : Nat → Int32) (R : Nat → Value) (Z : Int64) (B : Nat → Nat → Int32) (J : Nat → Nat → Int64) (K : PK) (w : va_W) (q0 : Nat) (n : Nat) (it : Nat → Nat) (cap : Nat) (x9 : Nat) (hls : LsC G K q0 1 n it cap) (hxs : K.1 x9 = 1) (hnn : n + 1 ≤ 100000) (hcb : cap ≤ 10 + 2 * n) (hO : OKP G h0 a F R Z B J K w) (hl0 : l.stackTraces = false) : PBn l G pX0 yJx4a65c_add_7a177 cJx4a65c_add_7a177 5 none ({ frames := 6, cells := 1, slots := (10 + n + n / 2), locals := 147 }) [.ref q0, .int 0, .ref x9] w (fun (v : Option Value) (u : va_W × (PK × Nat)) => v = none ∧ (LsC G u.2.1 q0 1 (n + 1) (shQ it x9) (cap + u.2.2)) ∧ (AdQ K u.2.1 q0) ∧ (N6 K u.2.1) ∧ (cap + u.2.2 ≤ 10 + 2 * (n + 1)) ∧ (OKP G h0 a F R Z B J u.2.1 u.1)) (fun u => u.1) (fun (u : va_W × (PK × Nat)) => 1) (fun (u : va_W × (PK × Nat)) => (4 * u.2.2)) (fun (u : va_W × (Nat → Int32) × (Nat → Value) × (Nat → Nat → Int32)) => ThQ G h0 a F R Z B J u) (fun u => u.1) := by
  intro sz
  refine vx_ofW (cc := cJx4a65c_add_7a177) (maxL := 5) (ret := none) (by decide) rfl ?_
  intro p e s m args below meth c s₁ B9 hml hnt hv
  obtain ⟨rfl, hsz, hP, hD0, hE, hX⟩ := hv
  have hx := B9.exec
  have hb := B9.bytes
  have hr := B9.returns
  have hts := atoms_spec (ws := Cond.code yJx4a65c_add_7a177 cJx4a65c_add_7a177 5 none :: pw) B9.pre
  have hq : ∀ w ∈ pw, w.before _ s = true := fun w h => hts w (List.mem_cons_of_mem _ h)
  have hown : s.vm.findClass RJx4a65c = some m.cls := findClass_of_methodNamed B9.named
  have hlocks := B9.notSynchronized
  subst hsz
  have hD := hD0.self (sz := s.heap.size)
  have hA : ∀ q : Nat, s.heap.size ≤ q → va_A w s.heap.size q := fun q h => Or.inr h
  generalize va_A w s.heap.size = A at hD hE hA ⊢
  have hS : va_S A s.heap s.heap [] := va_S.rf
  have hl := lv_entry ([.ref q0, .int 0, .ref x9]) (n := 5) (Nat.le_of_ble_eq_true rfl)
  rw [lg_entry_eq]
  generalize (lg_sl ([.ref q0, .int 0, .ref x9]) ++ List.replicate (5 - (lg_sl ([.ref q0, .int 0, .ref x9])).length) Slot.unset).toArray = ls at hl ⊢
  have hl : lv_has ls 5 [(0, .ref q0), (1, .int 0), (2, .ref x9)] := hl
  have hT0 := hls.1
  have hsz0 := hls.2.1
  have hn0 := hls.2.2.1
  rcases hls.mode with ⟨hem, hn9, hcp⟩ | ⟨e9, hem, h69, h17, hcp, hbb, hel, hnl⟩ | ⟨e9, hem, hcp, hn9, hnz⟩
  · skip
    refine lv_aload_n hx hb dJx4a65c_add_7a177_0 rfl (lv_at hl 0 rfl) ?_
    refine lv_iload_n hx hb dJx4a65c_add_7a177_1 rfl (lv_at hl 1 rfl) ?_
    have hO : OKP G h0 a F R Z B J K w := hO.to rfl
    obtain ⟨qr4, hqr5⟩ := p_recv hO (by rw [hT0]; decide) (rep_5 hT0)
    refine pc_V0 (G := G) (As := [.int 0]) (rest := []) hx hb hml hown hq hE hX pX0_al hP hD hS hA hl.1 (L_rng l G h0 a F R Z B J K w q0 n hT0 hsz0 hn0 hO) (gV pw_1165 pw_1166 pw_1167 pw_32 pw_1163) hV_Jx4a65c_rangeCheckForAdd_d00df qr4 10 hqr5 rfl rfl rfl (Nat.le_of_ble_eq_true rfl) dJx4a65c_add_7a177_2 ⟨(by show 0 + 0 ≤ 1; omega), (by show 0 + 0 ≤ (10 + n + n / 2); omega)⟩ ⟨Nat.le_of_ble_eq_true rfl, Nat.le_of_ble_eq_true rfl⟩ (fun v3 u1 H locs hw2 hP hD hS => ?_)
    obtain ⟨w, _⟩ := u1
    obtain ⟨hw2, hO⟩ := hw2
    obtain rfl : v3 = none := hw2
    have hO : OKP G h0 a F R Z B J K w := hO.to rfl
    refine W.widen (k := 0) (n := 0) (Nat.le_of_ble_eq_true rfl) (Nat.le_of_ble_eq_true rfl) ?_
    refine W.eq (g2 := F0 m 5 ls []) rfl ?_
    refine lv_aload_n hx hb dJx4a65c_add_7a177_5 rfl (lv_at hl 0 rfl) ?_
    refine lv_dup hx hb dJx4a65c_add_7a177_6 rfl ?_
    refine p_get (v := .int (K.2.1 22 q0)) (C := RJx4a65c) (Tc := TJx4a65c) (N := 3) (ci := 10) hx hb hq pin_wsJx4a65c0 hown hE hP hO (by rw [hT0]; decide) (rep_5 hT0) rfl 0 (by decide) (hq _ pw_863) (fun x9 h9 => u_same (hq _ pw_864) x9 h9) rfl dJx4a65c_add_7a177_7 ?_
    refine lv_iconst (v := 1) hx hb dJx4a65c_add_7a177_10 (by decide) ?_
    refine lv_iadd hx hb dJx4a65c_add_7a177_11 ?_
    refine lv_topi (fun x6 e7 => ?_)
    refine p_put (v := .int x6) (ty := .int) (C := RJx4a65c) (Tc := TJx4a65c) (N := 3) (ci := 10) (K' := (kI K 22 q0 x6)) hx hb hq pin_wsJx4a65c0 tyJx4a65c tyJx4a65c_ok nmJx4a65c hown hE hP hD hS hO (by rw [hT0]; decide) (rep_5 hT0) rfl 0 (by decide) (hq _ pw_863) (fun x9 h9 => u_same (hq _ pw_864) x9 h9) rfl (by decide +kernel) rfl rfl (Nat.le_of_ble_eq_true rfl) rfl (by rw [rep_5 (show (kI K 22 q0 x6).1 q0 = 5 from hT0), pi_22] <;> rfl) (fun p9 hp9 => rep_kI hp9) dJx4a65c_add_7a177_12 (fun H locs w hP hD hS hO => ?_)
    obtain ⟨K8, hK9⟩ : ∃ z : PK, z = (kI K 22 q0 x6) := ⟨_, rfl⟩
    rw [← hK9] at hO
    have hf10 : K8.1 q0 = 5 := (by rw [hK9]; exact hT0)
    have hf11 : K8.2.1 23 q0 = (nI n) := (by rw [hK9]; exact (kI_of (by decide)).trans hsz0)
    have hf12 : K8.1 x9 = 1 := (by rw [hK9]; exact hxs)
    have hf13 : K8.2.2.1 13 q0 = some G.2.2.2.2 := (by rw [hK9]; exact hem)
    have hf14 : K8.2.1 22 q0 = x6 := by rw [hK9]; exact kI_eq
    have hls5 : LsI G K8 q0 1 n it := by rw [hK9]; exact hls.ls.mod (by decide)
    refine lv_aload_n hx hb dJx4a65c_add_7a177_15 rfl (lv_at hl 0 rfl) ?_
    refine p_get (v := .int (nI n)) (C := RJx4a65c) (Tc := TJx4a65c) (N := 3) (ci := 10) hx hb hq pin_wsJx4a65c0 hown hE hP hO (by rw [hf10]; decide) (rep_5 hf10) rfl 2 (by decide) (hq _ pw_17) (fun _ h9 => h9) (congrArg (fun z => some (Value.int z)) hf11) dJx4a65c_add_7a177_16 ?_
    refine lv_dup hx hb dJx4a65c_add_7a177_19 rfl ?_
    refine lv_istore_n (lv' := [(3, .int (nI n)), (0, .ref q0), (1, .int 0), (2, .ref x9)]) hx hb dJx4a65c_add_7a177_20 rfl hl (by decide) rfl (fun ls hl => ?_)
    refine lv_aload_n hx hb dJx4a65c_add_7a177_21 rfl (lv_at hl 1 rfl) ?_
    refine p_get (v := .ref G.2.2.2.2) (C := RJx4a65c) (Tc := TJx4a65c) (N := 3) (ci := 10) hx hb hq pin_wsJx4a65c0 hown hE hP hO (by rw [hf10]; decide) (rep_5 hf10) rfl 1 (by decide) (hq _ pw_24) (fun _ h9 => h9) (congrArg (fun z => some (va_rf z)) hf13) dJx4a65c_add_7a177_22 ?_
    refine lv_dup hx hb dJx4a65c_add_7a177_25 rfl ?_
    refine lv_astore (lv' := [(4, .ref G.2.2.2.2), (3, .int (nI n)), (0, .ref q0), (1, .int 0), (2, .ref x9)]) hx hb dJx4a65c_add_7a177_26 hl (by decide) rfl (fun ls hl => ?_)
    refine va_tlen (v := 0) hx hb hE.2.2.2.2.2.2.2.2.2.1 hS rfl dJx4a65c_add_7a177_28 ?_
    refine lv_icmp_ne (tgt := 38) hx hb dJx4a65c_add_7a177_29 (by decide) (fun c15 => (by have n16 : ¬ (n = 0) := fun h9 => c15 ((nI_eq (a := n) (b := 0) (by omega) (by omega)).mpr h9); omega)) (fun c15 => ?_)
    refine lv_aload_n hx hb dJx4a65c_add_7a177_32 rfl (lv_at hl 2 rfl) ?_
    have hO : OKP G h0 a F R Z B J K8 w := hO.to rfl
    obtain ⟨qr20, hqr21⟩ := p_recv hO (by rw [hf10]; decide) (rep_5 hf10)
    refine pc_V0 (G := G) (As := []) (rest := []) hx hb hml hown hq hE hX pX0_al hP hD hS hA hl.1 (L_grow0E l G h0 a F R Z B J K8 w q0 1 n it hls5 (by decide) hf13 hn9 hO) (gV pw_859 pw_860 pw_861 pw_32 pw_858) hV_Jx4a65c_grow_d5877 qr20 10 hqr21 rfl rfl rfl (Nat.le_of_ble_eq_true rfl) dJx4a65c_add_7a177_33 ⟨(by show 0 + 1 ≤ 1; omega), (by show 0 + 10 ≤ (10 + n + n / 2); omega)⟩ ⟨Nat.le_of_ble_eq_true rfl, Nat.le_of_ble_eq_true rfl⟩ (fun v19 u17 H locs hw18 hP hD hS => ?_)
    obtain ⟨w, e22, K23⟩ := u17
    obtain ⟨hw18, h24, h25, h26, hO⟩ := hw18
    have h24 : LsI G K23 q0 1 n it := h24
    have h25 : GrQ K8 K23 q0 e22 n 10 := h25
    have h26 : N6 K8 K23 := h26
    obtain rfl : v19 = some (.ref e22) := hw18
    obtain ⟨g1, g2, g3, g4, g5, g6, g7, g8, g9⟩ := h25
    have hxq : ¬ x9 = q0 := fun z => by rw [z, hT0] at hxs; exact absurd hxs (by decide)
    have hxs1 : K23.1 x9 = 1 := (g6 x9 (by rw [hf12]; decide) hxq).1.trans hf12
    have hadg : AdQ K8 K23 q0 := AdQ.grow (G := G) h25 hf10
    have hO : OKP G h0 a F R Z B J K23 w := hO.to rfl
    refine W.widen (k := 1) (n := 10) (by show 0 + 1 ≤ 1; omega) (by show 0 + 10 ≤ 10; omega) ?_
    refine W.eq (g2 := F0 m 36 ls [.ref e22]) rfl ?_
    refine lv_astore (lv' := [(4, .ref e22), (3, .int (nI n)), (0, .ref q0), (1, .int 0), (2, .ref x9)]) hx hb dJx4a65c_add_7a177_36 hl (by decide) rfl (fun ls hl => ?_)
    have hls8 := h24
    have hel8 : ∀ i : Nat, i < n → K23.2.2.2.2.1 e22 i = some (it i) ∧ K23.1 (it i) = 1 := fun i hi => absurd hi (by omega)
    have h178 := g3
    have hln8 : n < K23.2.2.2.2.2 e22 ∧ 10 ≤ K23.2.2.2.2.2 e22 ∧ K23.2.2.2.2.2 e22 ≤ 200000 := by omega
    refine lv_aload hx hb dJx4a65c_add_7a177_38 (lv_at hl 0 rfl) ?_
    refine lv_iload_n hx hb dJx4a65c_add_7a177_40 rfl (lv_at hl 3 rfl) ?_
    refine lv_aload hx hb dJx4a65c_add_7a177_41 (lv_at hl 0 rfl) ?_
    refine lv_iload_n hx hb dJx4a65c_add_7a177_43 rfl (lv_at hl 3 rfl) ?_
    refine lv_iconst (v := 1) hx hb dJx4a65c_add_7a177_44 (by decide) ?_
    refine lv_iadd hx hb dJx4a65c_add_7a177_45 ?_
    refine lv_topi (fun x27 e28 => ?_)
    obtain rfl : x27 = 1 := e28.trans (by decide)
    refine lv_iload_n hx hb dJx4a65c_add_7a177_46 rfl (lv_at hl 1 rfl) ?_
    refine lv_iload_n hx hb dJx4a65c_add_7a177_47 rfl (lv_at hl 3 rfl) ?_
    refine lv_isub hx hb dJx4a65c_add_7a177_48 ?_
    refine lv_topi (fun x29 e30 => ?_)
    obtain rfl : x29 = nI (n - 0) := e30.trans (nI_subN (a := 0) (b := n) (by omega))
    refine W.eq (g2 := F0 m 49 ls [.int (nI n), .int 1, .ref e22, .int 0, .ref e22]) rfl ?_
    refine p_copyq (own := RJx4a65c) (es := 1) (ci := 13) (C := RX7) (Tc := TX7) (N := 11) hx hb (by rw [hml]; exact hl.1.symm) hown (hq _ pw_1164) (hq _ pw_461) (hq _ pw_462) (hq _ pw_463) hE hP hD hS hO g2 g2 (by decide) (fun y hy => ⟨_, rep_1 hy⟩) rfl hE.pc.2.2.2.2.2.2.2.2.1 (by decide) (by decide) (nI_pos (by omega)) (by rw [nI_clamp (show n < 2 ^ 31 by omega)]; show 0 + n ≤ _; omega) (by rw [nI_clamp (show n < 2 ^ 31 by omega)]; show 1 + n ≤ _; omega) (fun i hi y hy => ?_) (Nat.le_of_ble_eq_true rfl) (Nat.le_of_ble_eq_true rfl) dJx4a65c_add_7a177_49 (fun H locs w hP hD hS hO => ?_)
    · rw [nI_clamp (show n < 2 ^ 31 by omega)] at hi
      have z := hel8 i hi
      have hy2 : K23.2.2.2.2.1 e22 (0 + i) = some y := hy
      rw [Nat.zero_add, z.1] at hy2
      cases hy2
      exact z.2
    rw [nI_clamp (show n < 2 ^ 31 by omega)] at hO
    change OKP G h0 a F R Z B J (kE K23 e22 (va_cpy (K23.2.2.2.2.1 e22) (K23.2.2.2.2.1 e22) 0 1 n)) w at hO
    obtain ⟨K31, hK32⟩ : ∃ z : PK, z = (kE K23 e22 (va_cpy (K23.2.2.2.2.1 e22) (K23.2.2.2.2.1 e22) 0 1 n)) := ⟨_, rfl⟩
    rw [← hK32] at hO
    have hf33 : K31.2.2.1 13 q0 = some e22 := (by rw [hK32]; exact g1)
    have hf34 : K31.1 e22 = 6 := (by rw [hK32]; exact g2)
    have hf35 : K31.1 q0 = 5 := (by rw [hK32]; exact g7)
    have hf36 : K31.1 x9 = 1 := (by rw [hK32]; exact hxs1)
    refine W.eq (g2 := F0 m 52 ls []) rfl ?_
    refine lv_aload hx hb dJx4a65c_add_7a177_52 (lv_at hl 0 rfl) ?_
    refine lv_iload_n hx hb dJx4a65c_add_7a177_54 rfl (lv_at hl 3 rfl) ?_
    refine lv_aload_n hx hb dJx4a65c_add_7a177_55 rfl (lv_at hl 4 rfl) ?_
    refine W.eq (g2 := F0 m 56 ls [.ref x9, .int (nI 0), .ref e22]) rfl ?_
    have hli8 : K31.2.2.2.2.2 e22 = K23.2.2.2.2.2 e22 := by rw [hK32]; rfl
    refine p_ast (C := RX7) (Tc := TX7) (N := 11) (ci := 13) hx hb hE hP hD hS hO hf34 (by rw [hf36]; decide) (rep_1 hf36) rfl hE.pc.2.2.2.2.2.2.2.2.1 (vp_in_nI (by omega) (by omega)) dJx4a65c_add_7a177_56 (fun H locs w hP hD hS hO => ?_)
    rw [nI_clamp (show 0 < 2 ^ 31 by omega)] at hO
    obtain ⟨K37, hK38⟩ : ∃ z : PK, z = (kE K31 e22 (va_up (K31.2.2.2.2.1 e22) 0 (some x9))) := ⟨_, rfl⟩
    rw [← hK38] at hO
    have hf39 : K37.2.2.1 13 q0 = some e22 := (by rw [hK38]; exact hf33)
    have hf40 : K37.1 e22 = 6 := (by rw [hK38]; exact hf34)
    have hf41 : K37.1 q0 = 5 := (by rw [hK38]; exact hf35)
    have hf42 : K37.1 x9 = 1 := (by rw [hK38]; exact hf36)
    refine lv_aload_n hx hb dJx4a65c_add_7a177_57 rfl (lv_at hl 2 rfl) ?_
    refine lv_iload_n hx hb dJx4a65c_add_7a177_58 rfl (lv_at hl 1 rfl) ?_
    refine lv_iconst (v := 1) hx hb dJx4a65c_add_7a177_59 (by decide) ?_
    refine lv_iadd hx hb dJx4a65c_add_7a177_60 ?_
    refine lv_topi (fun x43 e44 => ?_)
    obtain rfl : x43 = nI (n + 1) := e44.trans (nI_add (n) (1))
    refine p_put (v := .int (nI (n + 1))) (ty := .int) (C := RJx4a65c) (Tc := TJx4a65c) (N := 3) (ci := 10) (K' := (kI K37 23 q0 (nI (n + 1)))) hx hb hq pin_wsJx4a65c0 tyJx4a65c tyJx4a65c_ok nmJx4a65c hown hE hP hD hS hO (by rw [hf41]; decide) (rep_5 hf41) rfl 2 (by decide) (hq _ pw_17) (fun _ h9 => h9) rfl (by decide +kernel) rfl rfl (Nat.le_of_ble_eq_true rfl) rfl (by rw [rep_5 (show (kI K37 23 q0 (nI (n + 1))).1 q0 = 5 from hf41), pi_23] <;> rfl) (fun p9 hp9 => rep_kI hp9) dJx4a65c_add_7a177_61 (fun H locs w hP hD hS hO => ?_)
    obtain ⟨K45, hK46⟩ : ∃ z : PK, z = (kI K37 23 q0 (nI (n + 1))) := ⟨_, rfl⟩
    rw [← hK46] at hO
    have hf47 : K45.2.2.1 13 q0 = some e22 := (by rw [hK46]; exact hf39)
    have hf48 : K45.1 e22 = 6 := (by rw [hK46]; exact hf40)
    have hf49 : K45.1 q0 = 5 := (by rw [hK46]; exact hf41)
    have hf50 : K45.1 x9 = 1 := (by rw [hK46]; exact hf42)
    have hf51 : K45.2.1 23 q0 = (nI (n + 1)) := by rw [hK46]; exact kI_eq
    refine W_size (fun hz1 hz2 => ?_)
    refine vx_ret ?_
    have had := ins_ok (G := G) (K := K23) (it := it) (x := x9) g7 g1 g2 h178 hln8.1 hln8.2 hel8 hxs1 hnn
    rw [← hK32, ← hK38, ← hK46] at had
    have hz52 : LsC G K45 q0 1 (n + 1) (shQ it x9) (cap + 10) := (by rw [hcp]; have z := had.1; rw [g4] at z; exact z)
    have hz53 : AdQ K K45 q0 := (AdQ.trans (by rw [hK9]; exact AdQ.i) (AdQ.trans hadg had.2))
    have hz54 : N6 K K45 := (by have z := h26; rw [hK9] at z; rw [hK46, hK38, hK32]; exact z)
    have hz55 : cap + 10 ≤ 10 + 2 * (n + 1) := (by omega)
    have hO : OKP G h0 a F R Z B J K45 w := hO.to rfl
    refine W.widen (k := 1) (n := (10 + n + n / 2)) (by omega) (by omega) ?_
    have hzz1 : H.size ≤ s.heap.size + (1) := (by have z : 1 ≤ 1 := (by omega); omega)
    have hzz2 : hSl H ≤ hSl s.heap + ((4 * 10)) := (by have z : 10 ≤ (4 * 10) := (by omega); omega)
    exact W.vret hx hb hr (fun t99 ht99 hW99 => ⟨⟨_, (w, (K45, 10)), rfl, ⟨rfl, hz52, hz53, hz54, hz55, hO⟩, by rw [ht99]; exact hP, hD, by rw [ht99]; exact hzz1, by rw [ht99]; exact hzz2⟩, hS.F ht99⟩) hS.2.2 dJx4a65c_add_7a177_64
  · skip
    refine lv_aload_n hx hb dJx4a65c_add_7a177_0 rfl (lv_at hl 0 rfl) ?_
    refine lv_iload_n hx hb dJx4a65c_add_7a177_1 rfl (lv_at hl 1 rfl) ?_
    have hO : OKP G h0 a F R Z B J K w := hO.to rfl
    obtain ⟨qr59, hqr60⟩ := p_recv hO (by rw [hT0]; decide) (rep_5 hT0)
    refine pc_V0 (G := G) (As := [.int 0]) (rest := []) hx hb hml hown hq hE hX pX0_al hP hD hS hA hl.1 (L_rng l G h0 a F R Z B J K w q0 n hT0 hsz0 hn0 hO) (gV pw_1165 pw_1166 pw_1167 pw_32 pw_1163) hV_Jx4a65c_rangeCheckForAdd_d00df qr59 10 hqr60 rfl rfl rfl (Nat.le_of_ble_eq_true rfl) dJx4a65c_add_7a177_2 ⟨(by show 0 + 0 ≤ 1; omega), (by show 0 + 0 ≤ (10 + n + n / 2); omega)⟩ ⟨Nat.le_of_ble_eq_true rfl, Nat.le_of_ble_eq_true rfl⟩ (fun v58 u56 H locs hw57 hP hD hS => ?_)
    obtain ⟨w, _⟩ := u56
    obtain ⟨hw57, hO⟩ := hw57
    obtain rfl : v58 = none := hw57
    have hO : OKP G h0 a F R Z B J K w := hO.to rfl
    refine W.widen (k := 0) (n := 0) (Nat.le_of_ble_eq_true rfl) (Nat.le_of_ble_eq_true rfl) ?_
    refine W.eq (g2 := F0 m 5 ls []) rfl ?_
    refine lv_aload_n hx hb dJx4a65c_add_7a177_5 rfl (lv_at hl 0 rfl) ?_
    refine lv_dup hx hb dJx4a65c_add_7a177_6 rfl ?_
    refine p_get (v := .int (K.2.1 22 q0)) (C := RJx4a65c) (Tc := TJx4a65c) (N := 3) (ci := 10) hx hb hq pin_wsJx4a65c0 hown hE hP hO (by rw [hT0]; decide) (rep_5 hT0) rfl 0 (by decide) (hq _ pw_863) (fun x9 h9 => u_same (hq _ pw_864) x9 h9) rfl dJx4a65c_add_7a177_7 ?_
    refine lv_iconst (v := 1) hx hb dJx4a65c_add_7a177_10 (by decide) ?_
    refine lv_iadd hx hb dJx4a65c_add_7a177_11 ?_
    refine lv_topi (fun x61 e62 => ?_)
    refine p_put (v := .int x61) (ty := .int) (C := RJx4a65c) (Tc := TJx4a65c) (N := 3) (ci := 10) (K' := (kI K 22 q0 x61)) hx hb hq pin_wsJx4a65c0 tyJx4a65c tyJx4a65c_ok nmJx4a65c hown hE hP hD hS hO (by rw [hT0]; decide) (rep_5 hT0) rfl 0 (by decide) (hq _ pw_863) (fun x9 h9 => u_same (hq _ pw_864) x9 h9) rfl (by decide +kernel) rfl rfl (Nat.le_of_ble_eq_true rfl) rfl (by rw [rep_5 (show (kI K 22 q0 x61).1 q0 = 5 from hT0), pi_22] <;> rfl) (fun p9 hp9 => rep_kI hp9) dJx4a65c_add_7a177_12 (fun H locs w hP hD hS hO => ?_)
    obtain ⟨K63, hK64⟩ : ∃ z : PK, z = (kI K 22 q0 x61) := ⟨_, rfl⟩
    rw [← hK64] at hO
    have hf65 : K63.1 q0 = 5 := (by rw [hK64]; exact hT0)
    have hf66 : K63.2.1 23 q0 = (nI n) := (by rw [hK64]; exact (kI_of (by decide)).trans hsz0)
    have hf67 : K63.1 x9 = 1 := (by rw [hK64]; exact hxs)
    have hf68 : K63.2.2.1 13 q0 = some e9 := (by rw [hK64]; exact hem)
    have hf69 : K63.1 e9 = 6 := (by rw [hK64]; exact h69)
    have hf70 : K63.2.1 22 q0 = x61 := by rw [hK64]; exact kI_eq
    have hls5 : LsI G K63 q0 1 n it := by rw [hK64]; exact hls.ls.mod (by decide)
    have hln5 : K63.2.2.2.2.2 e9 = K.2.2.2.2.2 e9 := by rw [hK64]; rfl
    refine lv_aload_n hx hb dJx4a65c_add_7a177_15 rfl (lv_at hl 0 rfl) ?_
    refine p_get (v := .int (nI n)) (C := RJx4a65c) (Tc := TJx4a65c) (N := 3) (ci := 10) hx hb hq pin_wsJx4a65c0 hown hE hP hO (by rw [hf65]; decide) (rep_5 hf65) rfl 2 (by decide) (hq _ pw_17) (fun _ h9 => h9) (congrArg (fun z => some (Value.int z)) hf66) dJx4a65c_add_7a177_16 ?_
    refine lv_dup hx hb dJx4a65c_add_7a177_19 rfl ?_
    refine lv_istore_n (lv' := [(3, .int (nI n)), (0, .ref q0), (1, .int 0), (2, .ref x9)]) hx hb dJx4a65c_add_7a177_20 rfl hl (by decide) rfl (fun ls hl => ?_)
    refine lv_aload_n hx hb dJx4a65c_add_7a177_21 rfl (lv_at hl 1 rfl) ?_
    refine p_get (v := .ref e9) (C := RJx4a65c) (Tc := TJx4a65c) (N := 3) (ci := 10) hx hb hq pin_wsJx4a65c0 hown hE hP hO (by rw [hf65]; decide) (rep_5 hf65) rfl 1 (by decide) (hq _ pw_24) (fun _ h9 => h9) (congrArg (fun z => some (va_rf z)) hf68) dJx4a65c_add_7a177_22 ?_
    refine lv_dup hx hb dJx4a65c_add_7a177_25 rfl ?_
    refine lv_astore (lv' := [(4, .ref e9), (3, .int (nI n)), (0, .ref q0), (1, .int 0), (2, .ref x9)]) hx hb dJx4a65c_add_7a177_26 hl (by decide) rfl (fun ls hl => ?_)
    refine p_alen hx hb hE hP hO hf69 dJx4a65c_add_7a177_28 ?_
    refine W.eq (g2 := F0 m 29 ls [.int (nI (K63.2.2.2.2.2 e9)), .int (nI n)]) rfl ?_
    refine lv_icmp_ne (tgt := 38) hx hb dJx4a65c_add_7a177_29 (by decide) (fun c71 => ?_) (fun c71 => (by have n72 : n = (K63.2.2.2.2.2 e9) := (nI_eq (a := n) (b := (K63.2.2.2.2.2 e9)) (by omega) (by omega)).mp c71; omega))
    have hel8 : ∀ i : Nat, i < n → K63.2.2.2.2.1 e9 i = some (it i) ∧ K63.1 (it i) = 1 := by rw [hK64]; exact hel
    have h178 : K63.2.2.1 17 e9 = some q0 := by rw [hK64]; exact h17
    have hln8 : n < K63.2.2.2.2.2 e9 ∧ 10 ≤ K63.2.2.2.2.2 e9 ∧ K63.2.2.2.2.2 e9 ≤ 200000 := by omega
    refine lv_aload hx hb dJx4a65c_add_7a177_38 (lv_at hl 0 rfl) ?_
    refine lv_iload_n hx hb dJx4a65c_add_7a177_40 rfl (lv_at hl 3 rfl) ?_
    refine lv_aload hx hb dJx4a65c_add_7a177_41 (lv_at hl 0 rfl) ?_
    refine lv_iload_n hx hb dJx4a65c_add_7a177_43 rfl (lv_at hl 3 rfl) ?_
    refine lv_iconst (v := 1) hx hb dJx4a65c_add_7a177_44 (by decide) ?_
    refine lv_iadd hx hb dJx4a65c_add_7a177_45 ?_
    refine lv_topi (fun x73 e74 => ?_)
    obtain rfl : x73 = 1 := e74.trans (by decide)
    refine lv_iload_n hx hb dJx4a65c_add_7a177_46 rfl (lv_at hl 1 rfl) ?_
    refine lv_iload_n hx hb dJx4a65c_add_7a177_47 rfl (lv_at hl 3 rfl) ?_
    refine lv_isub hx hb dJx4a65c_add_7a177_48 ?_
    refine lv_topi (fun x75 e76 => ?_)
    obtain rfl : x75 = nI (n - 0) := e76.trans (nI_subN (a := 0) (b := n) (by omega))
    refine W.eq (g2 := F0 m 49 ls [.int (nI n), .int 1, .ref e9, .int 0, .ref e9]) rfl ?_
    refine p_copyq (own := RJx4a65c) (es := 1) (ci := 13) (C := RX7) (Tc := TX7) (N := 11) hx hb (by rw [hml]; exact hl.1.symm) hown (hq _ pw_1164) (hq _ pw_461) (hq _ pw_462) (hq _ pw_463) hE hP hD hS hO hf69 hf69 (by decide) (fun y hy => ⟨_, rep_1 hy⟩) rfl hE.pc.2.2.2.2.2.2.2.2.1 (by decide) (by decide) (nI_pos (by omega)) (by rw [nI_clamp (show n < 2 ^ 31 by omega)]; show 0 + n ≤ _; omega) (by rw [nI_clamp (show n < 2 ^ 31 by omega)]; show 1 + n ≤ _; omega) (fun i hi y hy => ?_) (Nat.le_of_ble_eq_true rfl) (Nat.le_of_ble_eq_true rfl) dJx4a65c_add_7a177_49 (fun H locs w hP hD hS hO => ?_)
    · rw [nI_clamp (show n < 2 ^ 31 by omega)] at hi
      have z := hel8 i hi
      have hy2 : K63.2.2.2.2.1 e9 (0 + i) = some y := hy
      rw [Nat.zero_add, z.1] at hy2
      cases hy2
      exact z.2
    rw [nI_clamp (show n < 2 ^ 31 by omega)] at hO
    change OKP G h0 a F R Z B J (kE K63 e9 (va_cpy (K63.2.2.2.2.1 e9) (K63.2.2.2.2.1 e9) 0 1 n)) w at hO
    obtain ⟨K77, hK78⟩ : ∃ z : PK, z = (kE K63 e9 (va_cpy (K63.2.2.2.2.1 e9) (K63.2.2.2.2.1 e9) 0 1 n)) := ⟨_, rfl⟩
    rw [← hK78] at hO
    have hf79 : K77.1 q0 = 5 := (by rw [hK78]; exact hf65)
    have hf80 : K77.2.1 23 q0 = (nI n) := (by rw [hK78]; exact hf66)
    have hf81 : K77.1 x9 = 1 := (by rw [hK78]; exact hf67)
    have hf82 : K77.2.2.1 13 q0 = some e9 := (by rw [hK78]; exact hf68)
    have hf83 : K77.1 e9 = 6 := (by rw [hK78]; exact hf69)
    have hf84 : K77.2.1 22 q0 = x61 := (by rw [hK78]; exact hf70)
    refine W.eq (g2 := F0 m 52 ls []) rfl ?_
    refine lv_aload hx hb dJx4a65c_add_7a177_52 (lv_at hl 0 rfl) ?_
    refine lv_iload_n hx hb dJx4a65c_add_7a177_54 rfl (lv_at hl 3 rfl) ?_
    refine lv_aload_n hx hb dJx4a65c_add_7a177_55 rfl (lv_at hl 4 rfl) ?_
    refine W.eq (g2 := F0 m 56 ls [.ref x9, .int (nI 0), .ref e9]) rfl ?_
    have hli8 : K77.2.2.2.2.2 e9 = K63.2.2.2.2.2 e9 := by rw [hK78]; rfl
    refine p_ast (C := RX7) (Tc := TX7) (N := 11) (ci := 13) hx hb hE hP hD hS hO hf83 (by rw [hf81]; decide) (rep_1 hf81) rfl hE.pc.2.2.2.2.2.2.2.2.1 (vp_in_nI (by omega) (by omega)) dJx4a65c_add_7a177_56 (fun H locs w hP hD hS hO => ?_)
    rw [nI_clamp (show 0 < 2 ^ 31 by omega)] at hO
    obtain ⟨K85, hK86⟩ : ∃ z : PK, z = (kE K77 e9 (va_up (K77.2.2.2.2.1 e9) 0 (some x9))) := ⟨_, rfl⟩
    rw [← hK86] at hO
    have hf87 : K85.1 q0 = 5 := (by rw [hK86]; exact hf79)
    have hf88 : K85.2.1 23 q0 = (nI n) := (by rw [hK86]; exact hf80)
    have hf89 : K85.1 x9 = 1 := (by rw [hK86]; exact hf81)
    have hf90 : K85.2.2.1 13 q0 = some e9 := (by rw [hK86]; exact hf82)
    have hf91 : K85.1 e9 = 6 := (by rw [hK86]; exact hf83)
    have hf92 : K85.2.1 22 q0 = x61 := (by rw [hK86]; exact hf84)
    refine lv_aload_n hx hb dJx4a65c_add_7a177_57 rfl (lv_at hl 2 rfl) ?_
    refine lv_iload_n hx hb dJx4a65c_add_7a177_58 rfl (lv_at hl 1 rfl) ?_
    refine lv_iconst (v := 1) hx hb dJx4a65c_add_7a177_59 (by decide) ?_
    refine lv_iadd hx hb dJx4a65c_add_7a177_60 ?_
    refine lv_topi (fun x93 e94 => ?_)
    obtain rfl : x93 = nI (n + 1) := e94.trans (nI_add (n) (1))
    refine p_put (v := .int (nI (n + 1))) (ty := .int) (C := RJx4a65c) (Tc := TJx4a65c) (N := 3) (ci := 10) (K' := (kI K85 23 q0 (nI (n + 1)))) hx hb hq pin_wsJx4a65c0 tyJx4a65c tyJx4a65c_ok nmJx4a65c hown hE hP hD hS hO (by rw [hf87]; decide) (rep_5 hf87) rfl 2 (by decide) (hq _ pw_17) (fun _ h9 => h9) rfl (by decide +kernel) rfl rfl (Nat.le_of_ble_eq_true rfl) rfl (by rw [rep_5 (show (kI K85 23 q0 (nI (n + 1))).1 q0 = 5 from hf87), pi_23] <;> rfl) (fun p9 hp9 => rep_kI hp9) dJx4a65c_add_7a177_61 (fun H locs w hP hD hS hO => ?_)
    obtain ⟨K95, hK96⟩ : ∃ z : PK, z = (kI K85 23 q0 (nI (n + 1))) := ⟨_, rfl⟩
    rw [← hK96] at hO
    have hf97 : K95.1 q0 = 5 := (by rw [hK96]; exact hf87)
    have hf98 : K95.1 x9 = 1 := (by rw [hK96]; exact hf89)
    have hf99 : K95.2.2.1 13 q0 = some e9 := (by rw [hK96]; exact hf90)
    have hf100 : K95.1 e9 = 6 := (by rw [hK96]; exact hf91)
    have hf101 : K95.2.1 22 q0 = x61 := (by rw [hK96]; exact (kI_of (by decide)).trans hf92)
    have hf102 : K95.2.1 23 q0 = (nI (n + 1)) := by rw [hK96]; exact kI_eq
    refine W_size (fun hz1 hz2 => ?_)
    refine vx_ret ?_
    have had := ins_ok (G := G) (K := K63) (it := it) (x := x9) (by rw [hK64]; exact hT0) (by rw [hK64]; exact hem) (by rw [hK64]; exact h69) h178 hln8.1 hln8.2 hel8 (by rw [hK64]; exact hxs) hnn
    rw [← hK78, ← hK86, ← hK96] at had
    have hz103 : LsC G K95 q0 1 (n + 1) (shQ it x9) (cap + 0) := (by have z := had.1; rw [hln5, hcp] at z; exact z)
    have hz104 : AdQ K K95 q0 := (AdQ.trans (by rw [hK64]; exact AdQ.i) had.2)
    have hz105 : N6 K K95 := (by rw [hK96, hK86, hK78, hK64]; exact fun p hp => Or.inl hp)
    have hz106 : cap + 0 ≤ 10 + 2 * (n + 1) := (by omega)
    have hO : OKP G h0 a F R Z B J K95 w := hO.to rfl
    refine W.widen (k := 1) (n := (10 + n + n / 2)) (by omega) (by omega) ?_
    have hzz1 : H.size ≤ s.heap.size + (1) := (by have z : 0 ≤ 1 := (by omega); omega)
    have hzz2 : hSl H ≤ hSl s.heap + ((4 * 0)) := (by have z : 0 ≤ (4 * 0) := (by omega); omega)
    exact W.vret hx hb hr (fun t99 ht99 hW99 => ⟨⟨_, (w, (K95, 0)), rfl, ⟨rfl, hz103, hz104, hz105, hz106, hO⟩, by rw [ht99]; exact hP, hD, by rw [ht99]; exact hzz1, by rw [ht99]; exact hzz2⟩, hS.F ht99⟩) hS.2.2 dJx4a65c_add_7a177_64
  · obtain ⟨hf1, hf2, hf3, hf4, hf5, hf6⟩ := hls.ls.full hem (by omega)
    refine lv_aload_n hx hb dJx4a65c_add_7a177_0 rfl (lv_at hl 0 rfl) ?_
    refine lv_iload_n hx hb dJx4a65c_add_7a177_1 rfl (lv_at hl 1 rfl) ?_
    have hO : OKP G h0 a F R Z B J K w := hO.to rfl
    obtain ⟨qr110, hqr111⟩ := p_recv hO (by rw [hT0]; decide) (rep_5 hT0)
    refine pc_V0 (G := G) (As := [.int 0]) (rest := []) hx hb hml hown hq hE hX pX0_al hP hD hS hA hl.1 (L_rng l G h0 a F R Z B J K w q0 n hT0 hsz0 hn0 hO) (gV pw_1165 pw_1166 pw_1167 pw_32 pw_1163) hV_Jx4a65c_rangeCheckForAdd_d00df qr110 10 hqr111 rfl rfl rfl (Nat.le_of_ble_eq_true rfl) dJx4a65c_add_7a177_2 ⟨(by show 0 + 0 ≤ 1; omega), (by show 0 + 0 ≤ (10 + n + n / 2); omega)⟩ ⟨Nat.le_of_ble_eq_true rfl, Nat.le_of_ble_eq_true rfl⟩ (fun v109 u107 H locs hw108 hP hD hS => ?_)
    obtain ⟨w, _⟩ := u107
    obtain ⟨hw108, hO⟩ := hw108
    obtain rfl : v109 = none := hw108
    have hO : OKP G h0 a F R Z B J K w := hO.to rfl
    refine W.widen (k := 0) (n := 0) (Nat.le_of_ble_eq_true rfl) (Nat.le_of_ble_eq_true rfl) ?_
    refine W.eq (g2 := F0 m 5 ls []) rfl ?_
    refine lv_aload_n hx hb dJx4a65c_add_7a177_5 rfl (lv_at hl 0 rfl) ?_
    refine lv_dup hx hb dJx4a65c_add_7a177_6 rfl ?_
    refine p_get (v := .int (K.2.1 22 q0)) (C := RJx4a65c) (Tc := TJx4a65c) (N := 3) (ci := 10) hx hb hq pin_wsJx4a65c0 hown hE hP hO (by rw [hT0]; decide) (rep_5 hT0) rfl 0 (by decide) (hq _ pw_863) (fun x9 h9 => u_same (hq _ pw_864) x9 h9) rfl dJx4a65c_add_7a177_7 ?_
    refine lv_iconst (v := 1) hx hb dJx4a65c_add_7a177_10 (by decide) ?_
    refine lv_iadd hx hb dJx4a65c_add_7a177_11 ?_
    refine lv_topi (fun x112 e113 => ?_)
    refine p_put (v := .int x112) (ty := .int) (C := RJx4a65c) (Tc := TJx4a65c) (N := 3) (ci := 10) (K' := (kI K 22 q0 x112)) hx hb hq pin_wsJx4a65c0 tyJx4a65c tyJx4a65c_ok nmJx4a65c hown hE hP hD hS hO (by rw [hT0]; decide) (rep_5 hT0) rfl 0 (by decide) (hq _ pw_863) (fun x9 h9 => u_same (hq _ pw_864) x9 h9) rfl (by decide +kernel) rfl rfl (Nat.le_of_ble_eq_true rfl) rfl (by rw [rep_5 (show (kI K 22 q0 x112).1 q0 = 5 from hT0), pi_22] <;> rfl) (fun p9 hp9 => rep_kI hp9) dJx4a65c_add_7a177_12 (fun H locs w hP hD hS hO => ?_)
    obtain ⟨K114, hK115⟩ : ∃ z : PK, z = (kI K 22 q0 x112) := ⟨_, rfl⟩
    rw [← hK115] at hO
    have hf116 : K114.1 q0 = 5 := (by rw [hK115]; exact hT0)
    have hf117 : K114.2.1 23 q0 = (nI n) := (by rw [hK115]; exact (kI_of (by decide)).trans hsz0)
    have hf118 : K114.1 x9 = 1 := (by rw [hK115]; exact hxs)
    have hf119 : K114.2.2.1 13 q0 = some e9 := (by rw [hK115]; exact hem)
    have hf120 : K114.1 e9 = 6 := (by rw [hK115]; exact hf1)
    have hf121 : K114.2.1 22 q0 = x112 := by rw [hK115]; exact kI_eq
    have hls5 : LsI G K114 q0 1 n it := by rw [hK115]; exact hls.ls.mod (by decide)
    have hln5 : K114.2.2.2.2.2 e9 = K.2.2.2.2.2 e9 := by rw [hK115]; rfl
    refine lv_aload_n hx hb dJx4a65c_add_7a177_15 rfl (lv_at hl 0 rfl) ?_
    refine p_get (v := .int (nI n)) (C := RJx4a65c) (Tc := TJx4a65c) (N := 3) (ci := 10) hx hb hq pin_wsJx4a65c0 hown hE hP hO (by rw [hf116]; decide) (rep_5 hf116) rfl 2 (by decide) (hq _ pw_17) (fun _ h9 => h9) (congrArg (fun z => some (Value.int z)) hf117) dJx4a65c_add_7a177_16 ?_
    refine lv_dup hx hb dJx4a65c_add_7a177_19 rfl ?_
    refine lv_istore_n (lv' := [(3, .int (nI n)), (0, .ref q0), (1, .int 0), (2, .ref x9)]) hx hb dJx4a65c_add_7a177_20 rfl hl (by decide) rfl (fun ls hl => ?_)
    refine lv_aload_n hx hb dJx4a65c_add_7a177_21 rfl (lv_at hl 1 rfl) ?_
    refine p_get (v := .ref e9) (C := RJx4a65c) (Tc := TJx4a65c) (N := 3) (ci := 10) hx hb hq pin_wsJx4a65c0 hown hE hP hO (by rw [hf116]; decide) (rep_5 hf116) rfl 1 (by decide) (hq _ pw_24) (fun _ h9 => h9) (congrArg (fun z => some (va_rf z)) hf119) dJx4a65c_add_7a177_22 ?_
    refine lv_dup hx hb dJx4a65c_add_7a177_25 rfl ?_
    refine lv_astore (lv' := [(4, .ref e9), (3, .int (nI n)), (0, .ref q0), (1, .int 0), (2, .ref x9)]) hx hb dJx4a65c_add_7a177_26 hl (by decide) rfl (fun ls hl => ?_)
    refine p_alen hx hb hE hP hO hf120 dJx4a65c_add_7a177_28 ?_
    refine W.eq (g2 := F0 m 29 ls [.int (nI (K114.2.2.2.2.2 e9)), .int (nI n)]) rfl ?_
    refine lv_icmp_ne (tgt := 38) hx hb dJx4a65c_add_7a177_29 (by decide) (fun c122 => (by have n123 : ¬ (n = (K114.2.2.2.2.2 e9)) := fun h9 => c122 ((nI_eq (a := n) (b := (K114.2.2.2.2.2 e9)) (by omega) (by omega)).mpr h9); omega)) (fun c122 => ?_)
    refine lv_aload_n hx hb dJx4a65c_add_7a177_32 rfl (lv_at hl 2 rfl) ?_
    have hO : OKP G h0 a F R Z B J K114 w := hO.to rfl
    obtain ⟨qr127, hqr128⟩ := p_recv hO (by rw [hf116]; decide) (rep_5 hf116)
    refine pc_V0 (G := G) (As := []) (rest := []) hx hb hml hown hq hE hX pX0_al hP hD hS hA hl.1 (L_grow0F l G h0 a F R Z B J K114 w q0 1 n it e9 hls5 (by decide) hf119 (by omega) (by omega) hO) (gV pw_859 pw_860 pw_861 pw_32 pw_858) hV_Jx4a65c_grow_d5877 qr127 10 hqr128 rfl rfl rfl (Nat.le_of_ble_eq_true rfl) dJx4a65c_add_7a177_33 ⟨(by show 0 + 1 ≤ 1; omega), (by show 0 + (n + n / 2) ≤ (10 + n + n / 2); omega)⟩ ⟨Nat.le_of_ble_eq_true rfl, Nat.le_of_ble_eq_true rfl⟩ (fun v126 u124 H locs hw125 hP hD hS => ?_)
    obtain ⟨w, e129, K130⟩ := u124
    obtain ⟨hw125, h131, h132, h133, hO⟩ := hw125
    have h131 : LsI G K130 q0 1 n it := h131
    have h132 : GrQ K114 K130 q0 e129 n (n + n / 2) := h132
    have h133 : N6 K114 K130 := h133
    obtain rfl : v126 = some (.ref e129) := hw125
    obtain ⟨g1, g2, g3, g4, g5, g6, g7, g8, g9⟩ := h132
    have hxq : ¬ x9 = q0 := fun z => by rw [z, hT0] at hxs; exact absurd hxs (by decide)
    have hxs1 : K130.1 x9 = 1 := (g6 x9 (by rw [hf118]; decide) hxq).1.trans hf118
    have hadg : AdQ K114 K130 q0 := AdQ.grow (G := G) h132 hf116
    have hO : OKP G h0 a F R Z B J K130 w := hO.to rfl
    refine W.widen (k := 1) (n := (n + n / 2)) (by show 0 + 1 ≤ 1; omega) (by show 0 + (n + n / 2) ≤ (n + n / 2); omega) ?_
    refine W.eq (g2 := F0 m 36 ls [.ref e129]) rfl ?_
    refine lv_astore (lv' := [(4, .ref e129), (3, .int (nI n)), (0, .ref q0), (1, .int 0), (2, .ref x9)]) hx hb dJx4a65c_add_7a177_36 hl (by decide) rfl (fun ls hl => ?_)
    have hls8 := h131
    have hel8 : ∀ i : Nat, i < n → K130.2.2.2.2.1 e129 i = some (it i) ∧ K130.1 (it i) = 1 := (hls8.full g1 (by omega)).2.2.2.2.2
    have h178 := g3
    have hln8 : n < K130.2.2.2.2.2 e129 ∧ 10 ≤ K130.2.2.2.2.2 e129 ∧ K130.2.2.2.2.2 e129 ≤ 200000 := by omega
    refine lv_aload hx hb dJx4a65c_add_7a177_38 (lv_at hl 0 rfl) ?_
    refine lv_iload_n hx hb dJx4a65c_add_7a177_40 rfl (lv_at hl 3 rfl) ?_
    refine lv_aload hx hb dJx4a65c_add_7a177_41 (lv_at hl 0 rfl) ?_
    refine lv_iload_n hx hb dJx4a65c_add_7a177_43 rfl (lv_at hl 3 rfl) ?_
    refine lv_iconst (v := 1) hx hb dJx4a65c_add_7a177_44 (by decide) ?_
    refine lv_iadd hx hb dJx4a65c_add_7a177_45 ?_
    refine lv_topi (fun x134 e135 => ?_)
    obtain rfl : x134 = 1 := e135.trans (by decide)
    refine lv_iload_n hx hb dJx4a65c_add_7a177_46 rfl (lv_at hl 1 rfl) ?_
    refine lv_iload_n hx hb dJx4a65c_add_7a177_47 rfl (lv_at hl 3 rfl) ?_
    refine lv_isub hx hb dJx4a65c_add_7a177_48 ?_
    refine lv_topi (fun x136 e137 => ?_)
    obtain rfl : x136 = nI (n - 0) := e137.trans (nI_subN (a := 0) (b := n) (by omega))
    refine W.eq (g2 := F0 m 49 ls [.int (nI n), .int 1, .ref e129, .int 0, .ref e129]) rfl ?_
    refine p_copyq (own := RJx4a65c) (es := 1) (ci := 13) (C := RX7) (Tc := TX7) (N := 11) hx hb (by rw [hml]; exact hl.1.symm) hown (hq _ pw_1164) (hq _ pw_461) (hq _ pw_462) (hq _ pw_463) hE hP hD hS hO g2 g2 (by decide) (fun y hy => ⟨_, rep_1 hy⟩) rfl hE.pc.2.2.2.2.2.2.2.2.1 (by decide) (by decide) (nI_pos (by omega)) (by rw [nI_clamp (show n < 2 ^ 31 by omega)]; show 0 + n ≤ _; omega) (by rw [nI_clamp (show n < 2 ^ 31 by omega)]; show 1 + n ≤ _; omega) (fun i hi y hy => ?_) (Nat.le_of_ble_eq_true rfl) (Nat.le_of_ble_eq_true rfl) dJx4a65c_add_7a177_49 (fun H locs w hP hD hS hO => ?_)
    · rw [nI_clamp (show n < 2 ^ 31 by omega)] at hi
      have z := hel8 i hi
      have hy2 : K130.2.2.2.2.1 e129 (0 + i) = some y := hy
      rw [Nat.zero_add, z.1] at hy2
      cases hy2
      exact z.2
    rw [nI_clamp (show n < 2 ^ 31 by omega)] at hO
    change OKP G h0 a F R Z B J (kE K130 e129 (va_cpy (K130.2.2.2.2.1 e129) (K130.2.2.2.2.1 e129) 0 1 n)) w at hO
    obtain ⟨K138, hK139⟩ : ∃ z : PK, z = (kE K130 e129 (va_cpy (K130.2.2.2.2.1 e129) (K130.2.2.2.2.1 e129) 0 1 n)) := ⟨_, rfl⟩
    rw [← hK139] at hO
    have hf140 : K138.2.2.1 13 q0 = some e129 := (by rw [hK139]; exact g1)
    have hf141 : K138.1 e129 = 6 := (by rw [hK139]; exact g2)
    have hf142 : K138.1 q0 = 5 := (by rw [hK139]; exact g7)
    have hf143 : K138.1 x9 = 1 := (by rw [hK139]; exact hxs1)
    refine W.eq (g2 := F0 m 52 ls []) rfl ?_
    refine lv_aload hx hb dJx4a65c_add_7a177_52 (lv_at hl 0 rfl) ?_
    refine lv_iload_n hx hb dJx4a65c_add_7a177_54 rfl (lv_at hl 3 rfl) ?_
    refine lv_aload_n hx hb dJx4a65c_add_7a177_55 rfl (lv_at hl 4 rfl) ?_
    refine W.eq (g2 := F0 m 56 ls [.ref x9, .int (nI 0), .ref e129]) rfl ?_
    have hli8 : K138.2.2.2.2.2 e129 = K130.2.2.2.2.2 e129 := by rw [hK139]; rfl
    refine p_ast (C := RX7) (Tc := TX7) (N := 11) (ci := 13) hx hb hE hP hD hS hO hf141 (by rw [hf143]; decide) (rep_1 hf143) rfl hE.pc.2.2.2.2.2.2.2.2.1 (vp_in_nI (by omega) (by omega)) dJx4a65c_add_7a177_56 (fun H locs w hP hD hS hO => ?_)
    rw [nI_clamp (show 0 < 2 ^ 31 by omega)] at hO
    obtain ⟨K144, hK145⟩ : ∃ z : PK, z = (kE K138 e129 (va_up (K138.2.2.2.2.1 e129) 0 (some x9))) := ⟨_, rfl⟩
    rw [← hK145] at hO
    have hf146 : K144.2.2.1 13 q0 = some e129 := (by rw [hK145]; exact hf140)
    have hf147 : K144.1 e129 = 6 := (by rw [hK145]; exact hf141)
    have hf148 : K144.1 q0 = 5 := (by rw [hK145]; exact hf142)
    have hf149 : K144.1 x9 = 1 := (by rw [hK145]; exact hf143)
    refine lv_aload_n hx hb dJx4a65c_add_7a177_57 rfl (lv_at hl 2 rfl) ?_
    refine lv_iload_n hx hb dJx4a65c_add_7a177_58 rfl (lv_at hl 1 rfl) ?_
    refine lv_iconst (v := 1) hx hb dJx4a65c_add_7a177_59 (by decide) ?_
    refine lv_iadd hx hb dJx4a65c_add_7a177_60 ?_
    refine lv_topi (fun x150 e151 => ?_)
    obtain rfl : x150 = nI (n + 1) := e151.trans (nI_add (n) (1))
    refine p_put (v := .int (nI (n + 1))) (ty := .int) (C := RJx4a65c) (Tc := TJx4a65c) (N := 3) (ci := 10) (K' := (kI K144 23 q0 (nI (n + 1)))) hx hb hq pin_wsJx4a65c0 tyJx4a65c tyJx4a65c_ok nmJx4a65c hown hE hP hD hS hO (by rw [hf148]; decide) (rep_5 hf148) rfl 2 (by decide) (hq _ pw_17) (fun _ h9 => h9) rfl (by decide +kernel) rfl rfl (Nat.le_of_ble_eq_true rfl) rfl (by rw [rep_5 (show (kI K144 23 q0 (nI (n + 1))).1 q0 = 5 from hf148), pi_23] <;> rfl) (fun p9 hp9 => rep_kI hp9) dJx4a65c_add_7a177_61 (fun H locs w hP hD hS hO => ?_)
    obtain ⟨K152, hK153⟩ : ∃ z : PK, z = (kI K144 23 q0 (nI (n + 1))) := ⟨_, rfl⟩
    rw [← hK153] at hO
    have hf154 : K152.2.2.1 13 q0 = some e129 := (by rw [hK153]; exact hf146)
    have hf155 : K152.1 e129 = 6 := (by rw [hK153]; exact hf147)
    have hf156 : K152.1 q0 = 5 := (by rw [hK153]; exact hf148)
    have hf157 : K152.1 x9 = 1 := (by rw [hK153]; exact hf149)
    have hf158 : K152.2.1 23 q0 = (nI (n + 1)) := by rw [hK153]; exact kI_eq
    refine W_size (fun hz1 hz2 => ?_)
    refine vx_ret ?_
    have had := ins_ok (G := G) (K := K130) (it := it) (x := x9) g7 g1 g2 h178 hln8.1 hln8.2 hel8 hxs1 hnn
    rw [← hK139, ← hK145, ← hK153] at had
    have hz159 : LsC G K152 q0 1 (n + 1) (shQ it x9) (cap + (n / 2)) := (by have z9 : cap = n := (by omega); rw [z9]; have z := had.1; rw [g4] at z; exact z)
    have hz160 : AdQ K K152 q0 := (AdQ.trans (by rw [hK115]; exact AdQ.i) (AdQ.trans hadg had.2))
    have hz161 : N6 K K152 := (by have z := h133; rw [hK115] at z; rw [hK153, hK145, hK139]; exact z)
    have hz162 : cap + (n / 2) ≤ 10 + 2 * (n + 1) := (by omega)
    have hO : OKP G h0 a F R Z B J K152 w := hO.to rfl
    refine W.widen (k := 1) (n := (10 + n + n / 2)) (by omega) (by omega) ?_
    have hzz1 : H.size ≤ s.heap.size + (1) := (by have z : 1 ≤ 1 := (by omega); omega)
    have hzz2 : hSl H ≤ hSl s.heap + ((4 * (n / 2))) := (by have z : (n + n / 2) ≤ (4 * (n / 2)) := (by omega); omega)
    exact W.vret hx hb hr (fun t99 ht99 hW99 => ⟨⟨_, (w, (K152, (n / 2))), rfl, ⟨rfl, hz159, hz160, hz161, hz162, hO⟩, by rw [ht99]; exact hP, hD, by rw [ht99]; exact hzz1, by rw [ht99]; exact hzz2⟩, hS.F ht99⟩) hS.2.2 dJx4a65c_add_7a177_64
