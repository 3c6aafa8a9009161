theorem dX8_leaf_0 : decode cX8_leaf 0 = .ok (.aload_n 0, 1) := by decide +kernel
theorem dX8_leaf_1 : decode cX8_leaf 1 = .ok (.dup, 1) := by decide +kernel
theorem dX8_leaf_2 : decode cX8_leaf 2 = .ok (.getfield 17, 3) := by decide +kernel
theorem dX8_leaf_5 : decode cX8_leaf 5 = .ok (.iconst 1, 1) := by decide +kernel
theorem dX8_leaf_6 : decode cX8_leaf 6 = .ok (.iadd, 1) := by decide +kernel
theorem dX8_leaf_7 : decode cX8_leaf 7 = .ok (.putfield 17, 3) := by decide +kernel
theorem dX8_leaf_10 : decode cX8_leaf 10 = .ok (.new 143, 3) := by decide +kernel
theorem dX8_leaf_13 : decode cX8_leaf 13 = .ok (.dup, 1) := by decide +kernel
theorem dX8_leaf_14 : decode cX8_leaf 14 = .ok (.iload_n 1, 1) := by decide +kernel
theorem dX8_leaf_15 : decode cX8_leaf 15 = .ok (.aload_n 0, 1) := by decide +kernel
theorem dX8_leaf_16 : decode cX8_leaf 16 = .ok (.getfield 17, 3) := by decide +kernel
theorem dX8_leaf_19 : decode cX8_leaf 19 = .ok (.iconst 1, 1) := by decide +kernel
theorem dX8_leaf_20 : decode cX8_leaf 20 = .ok (.isub, 1) := by decide +kernel
theorem dX8_leaf_21 : decode cX8_leaf 21 = .ok (.aload_n 0, 1) := by decide +kernel
theorem dX8_leaf_22 : decode cX8_leaf 22 = .ok (.getfield 17, 3) := by decide +kernel
theorem dX8_leaf_25 : decode cX8_leaf 25 = .ok (.iconst 1, 1) := by decide +kernel
theorem dX8_leaf_26 : decode cX8_leaf 26 = .ok (.isub, 1) := by decide +kernel
theorem dX8_leaf_27 : decode cX8_leaf 27 = .ok (.invokespecial 145, 3) := by decide +kernel
theorem dX8_leaf_30 : decode cX8_leaf 30 = .ok (.areturn, 1) := by decide +kernel
theorem hS_X7_init : yX7_init.cls ≠ "java/lang/invoke/MethodHandle" ∧ yX7_init.cls ≠ "java/lang/invoke/VarHandle" ∧ (parseMethodDescriptor yX7_init.desc).map (fun d => d.parameters.length) = some 3 := by decide +kernel
set_option maxHeartbeats 8000000 in
set_option maxRecDepth 100000 in
theorem P_leaf (l : Launch) (G : pT) (h0 : Nat) (a : Nat → Nat) (F : Nat → Int32) (R : Nat → Value) (Z : Int64) (B : Nat → Nat → Int32) (J : Nat → Nat → Int64) (K : PK) (w : va_W) (x : Int32) (at9 : Nat) (sz : Nat) (O : Nat) (g : Nat → Nat → Nat) (hsz : sz ≤ 5000) (hat : at9 ≤ sz) (hwn : WN K g) (how : ∀ o : Nat, O = o + 1 → K.1 o = 1 ∧ (1 ≤ g 0 o → 1 < 0) ∧ ¬ K.2.1 0 o = 32) (hle : at9 + 1 ≤ sz) (hsh : ∀ C : Nat → Option Nat, Shp x C) (hiv : ∀ kq : Nat, IvK x kq) (hnk : ¬ x = 15 ∧ ¬ x = 17 ∧ ¬ x = 8 ∧ ¬ x = 9 ∧ ¬ x = 35) (hO : OKP G h0 a (upd (upd F 2 (nI sz)) 9 (nI at9)) R Z B J K w) : PM l G pX0 yX8_leaf cX8_leaf 2 (some (.object "JinjaTongue$Node")) ({ frames := 3, cells := 1, slots := 11, locals := 83 }) [.ref (a 3), .int x] w (fun (v : Option Value) (u : va_W × (Nat × PK × (Nat → Nat → Nat) × Nat)) => v = some (.ref u.2.1) ∧ (NwR K u.2.2.1 g u.2.2.2.1 u.2.1 O u.2.2.2.2 1) ∧ (rS u.2.2.2.2 = at9 ∧ rE u.2.2.2.2 = at9 + 1 ∧ rD u.2.2.2.2 = 1) ∧ (u.2.2.1.2.1 0 u.2.1 = x) ∧ (NwT (B 7) sz (B 10) (B 10) K u.2.2.1 at9 (at9 + 1)) ∧ (OKP G h0 a (upd (upd F 2 (nI sz)) 9 (nI (at9 + 1))) R Z B J u.2.2.1 u.1)) (fun u => u.1) := by
  intro sz
  refine Met.ofW (cc := cX8_leaf) (maxL := 2) (ret := (some (.object "JinjaTongue$Node"))) (by decide) rfl ?_
  intro p e s m args below meth c s₁ B9 hml hv
  obtain ⟨rfl, hsz, hP, hD0, hE, hX⟩ := hv
  have hx := B9.exec
  have hb := B9.bytes
  have hr := B9.returns
  have hts := atoms_spec (ws := Cond.code yX8_leaf cX8_leaf 2 (some (.object "JinjaTongue$Node")) :: pw) B9.pre
  have hq : ∀ w ∈ pw, w.before _ s = true := fun w h => hts w (List.mem_cons_of_mem _ h)
  have hown : s.vm.findClass RX8 = some m.cls := findClass_of_methodNamed B9.named
  have hlocks := B9.notSynchronized
  subst hsz
  have hD := hD0.self (sz := s.heap.size)
  have hA : ∀ q : Nat, s.heap.size ≤ q → va_A w s.heap.size q := fun q h => Or.inr h
  generalize va_A w s.heap.size = A at hD hE hA ⊢
  have hS : va_S A s.heap s.heap [] := va_S.rf
  have hl := lv_entry ([.ref (a 3), .int x]) (n := 2) (Nat.le_of_ble_eq_true rfl)
  rw [lg_entry_eq]
  generalize (lg_sl ([.ref (a 3), .int x]) ++ List.replicate (2 - (lg_sl ([.ref (a 3), .int x])).length) Slot.unset).toArray = ls at hl ⊢
  have hl : lv_has ls 2 [(0, .ref (a 3)), (1, .int x)] := hl
  have htk0 : NwT (B 7) sz (B 10) (B 10) K K at9 at9 := NwT.nil
  refine lv_aload_n hx hb dX8_leaf_0 rfl (lv_at hl 0 rfl) ?_
  refine lv_dup hx hb dX8_leaf_1 rfl ?_
  refine c_get (v := .int (nI at9)) (C := RX8) (Tc := TX8) (N := 5) (ci := 5) hx hb hq pin_wsX80 hown hE hP hO 23 (sg_23 G h0 a _ _ _ _ _) rfl 2 (by decide) (hq _ pw_776) (fun _ h9 => h9) rfl dX8_leaf_2 ?_
  refine lv_iconst (v := 1) hx hb dX8_leaf_5 (by decide) ?_
  refine lv_iadd hx hb dX8_leaf_6 ?_
  refine lv_topi (fun x1 e2 => ?_)
  obtain rfl : x1 = nI (at9 + 1) := e2.trans (nI_add (at9) (1))
  refine c_put (v := .int (nI (at9 + 1))) (ty := .int) (C := RX8) (Tc := TX8) (N := 5) (ci := 5) hx hb hq pin_wsX80 tyX8 tyX8_ok nmX8 hown hE hP hD hS hO 23 (sg_23 G h0 a _ _ _ _ _) rfl 2 (by decide) (hq _ pw_776) (fun _ h9 => h9) rfl (by decide +kernel) rfl rfl (Nat.le_of_ble_eq_true rfl) (sf_9 G h0 a _ _ _ _ _ (nI (at9 + 1))) dX8_leaf_7 (fun H locs w hP hD hS hO => ?_)
  refine p_new (s9 := 1) (C := RX7) (T := TX7) (N := 11) (ci := 13) (fs := [.int 0, .int 0, .int 0, .int 0, .int 0, .int 0, .null, .null, .null, .null, .null]) hx hb hq pin_wsX70 tyX7 tyX7_ok hown (hq _ pw_870) (hq _ pw_871) (hq _ pw_872) hE hP hD hS hA hO rfl nw_X7 (by decide) (fun q => by rw [rep_1 (show (kN K q 1 0).1 q = 1 from if_pos rfl)]; unfold fsNode kN; simp only [if_true]; rfl) (by show 0 + 1 ≤ 1; omega) (by show 0 + 11 ≤ 11; omega) dX8_leaf_10 (fun q3 H w hq4 hP hD hS hO => ?_)
  have hf5 : (kN K q3 1 0).1 q3 = 1 := if_pos rfl
  refine W.widen (k := 1) (n := 11) (by show 0 + 1 ≤ 1; omega) (by show 0 + 11 ≤ 11; omega) ?_
  refine lv_dup hx hb dX8_leaf_13 rfl ?_
  refine lv_iload_n hx hb dX8_leaf_14 rfl (lv_at hl 1 rfl) ?_
  refine lv_aload_n hx hb dX8_leaf_15 rfl (lv_at hl 0 rfl) ?_
  refine c_get (v := .int (nI (at9 + 1))) (C := RX8) (Tc := TX8) (N := 5) (ci := 5) hx hb hq pin_wsX80 hown hE hP hO 23 (sg_23 G h0 a _ _ _ _ _) rfl 2 (by decide) (hq _ pw_776) (fun _ h9 => h9) rfl dX8_leaf_16 ?_
  refine lv_iconst (v := 1) hx hb dX8_leaf_19 (by decide) ?_
  refine lv_isub hx hb dX8_leaf_20 ?_
  refine lv_topi (fun x6 e7 => ?_)
  obtain rfl : x6 = nI ((at9 + 1) - 1) := e7.trans (nI_subN (a := 1) (b := (at9 + 1)) (by omega))
  refine lv_aload_n hx hb dX8_leaf_21 rfl (lv_at hl 0 rfl) ?_
  refine c_get (v := .int (nI (at9 + 1))) (C := RX8) (Tc := TX8) (N := 5) (ci := 5) hx hb hq pin_wsX80 hown hE hP hO 23 (sg_23 G h0 a _ _ _ _ _) rfl 2 (by decide) (hq _ pw_776) (fun _ h9 => h9) rfl dX8_leaf_22 ?_
  refine lv_iconst (v := 1) hx hb dX8_leaf_25 (by decide) ?_
  refine lv_isub hx hb dX8_leaf_26 ?_
  refine lv_topi (fun x8 e9 => ?_)
  obtain rfl : x8 = nI ((at9 + 1) - 1) := e9.trans (nI_subN (a := 1) (b := (at9 + 1)) (by omega))
  have hO : OKP G h0 a (upd (upd F 2 (nI sz)) 9 (nI (at9 + 1))) R Z B J (kN K q3 1 0) w := hO.to rfl
  obtain ⟨qr13, hqr14⟩ := p_recv hO (by rw [hf5]; decide) (rep_1 hf5)
  refine pc_I0 (G := G) (As := [.int x, .int (nI ((at9 + 1) - 1)), .int (nI ((at9 + 1) - 1))]) (rest := [.ref q3]) hx hb hml hown hq hE hX pX0_al hP hD hS hA hl.1 (N_init l G h0 a (upd (upd F 2 (nI sz)) 9 (nI (at9 + 1))) R Z B J (kN K q3 1 0) w q3 x (nI ((at9 + 1) - 1)) (nI ((at9 + 1) - 1)) (by omega) hO) pw_874 pw_875 pw_872 pw_765 rfl hS_X7_init rfl (Nat.le_of_ble_eq_true rfl) dX8_leaf_27 ⟨(by show 1 + 0 ≤ 1; omega), (by show 11 + 0 ≤ 11; omega)⟩ ⟨Nat.le_of_ble_eq_true rfl, Nat.le_of_ble_eq_true rfl⟩ (fun v12 u10 H locs hw11 hP hD hS => ?_)
  obtain ⟨w, _⟩ := u10
  obtain ⟨hw11, hO⟩ := hw11
  obtain rfl : v12 = none := hw11
  have hf15 : (kI (kI (kI (kN K q3 1 0) 0 q3 x) 1 q3 (nI ((at9 + 1) - 1))) 2 q3 (nI ((at9 + 1) - 1))).1 q3 = 1 := hf5
  have hO : OKP G h0 a (upd (upd F 2 (nI sz)) 9 (nI (at9 + 1))) R Z B J (kI (kI (kI (kN K q3 1 0) 0 q3 x) 1 q3 (nI ((at9 + 1) - 1))) 2 q3 (nI ((at9 + 1) - 1))) w := hO.to rfl
  refine W.widen (k := 1) (n := 11) (by show 1 + 0 ≤ 1; omega) (by show 11 + 0 ≤ 11; omega) ?_
  refine W.eq (g2 := F0 m 30 ls [.ref q3]) rfl ?_
  obtain ⟨k916, k916I, k916S, k916E, k916M, k916N, k916X, k916D⟩ := rk_ex (s := at9) (e := (at9 + 1)) (m := at9) (n := at9) (x := 0) (d := 1) (by omega)
  have hlf := leaf_okI (q := q3) (a := x) (b := (nI ((at9 + 1) - 1))) (c := (nI ((at9 + 1) - 1))) (O := O) (k := k916) hwn hq4 ⟨k916I, hiv _⟩ hsh how
  have hz17 : NwR K (mkN K q3 x (nI ((at9 + 1) - 1)) (nI ((at9 + 1) - 1))) g (gset (gset g q3 0 0 0) q3 1 O k916) q3 O k916 1 := hlf
  have hz18 : rS k916 = at9 ∧ rE k916 = at9 + 1 ∧ rD k916 = 1 := (by omega)
  have hz19 : (mkN K q3 x (nI ((at9 + 1) - 1)) (nI ((at9 + 1) - 1))).2.1 0 q3 = x := mkN_0
  have hz20 : NwT (B 7) sz (B 10) (B 10) K (mkN K q3 x (nI ((at9 + 1) - 1)) (nI ((at9 + 1) - 1))) at9 (at9 + 1) := (NwT.le (NwT.new htk0 hq4 (TkP.no hnk)) (by omega))
  have hO : OKP G h0 a (upd (upd F 2 (nI sz)) 9 (nI (at9 + 1))) R Z B J (mkN K q3 x (nI ((at9 + 1) - 1)) (nI ((at9 + 1) - 1))) w := hO.to rfl
  refine W.widen (k := 1) (n := 11) (by omega) (by omega) ?_
  exact W.aret (v := .ref q3) hx hb hr (Or.inl ⟨_, rfl⟩) (Or.inr ⟨_, rfl⟩) (fun t99 ht99 hW99 => ⟨⟨_, (w, (q3, (mkN K q3 x (nI ((at9 + 1) - 1)) (nI ((at9 + 1) - 1))), (gset (gset g q3 0 0 0) q3 1 O k916), k916)), rfl, ⟨rfl, hz17, hz18, hz19, hz20, hO⟩, by rw [ht99]; exact hP, hD⟩, hS.F ht99⟩) hS.2.2 dX8_leaf_30
