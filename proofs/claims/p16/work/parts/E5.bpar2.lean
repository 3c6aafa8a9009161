theorem dX8_wordStatement_0 : decode cX8_wordStatement 0 = .ok (.new 143, 3) := by decide +kernel
theorem dX8_wordStatement_3 : decode cX8_wordStatement 3 = .ok (.dup, 1) := by decide +kernel
theorem dX8_wordStatement_4 : decode cX8_wordStatement 4 = .ok (.iload_n 1, 1) := by decide +kernel
theorem dX8_wordStatement_5 : decode cX8_wordStatement 5 = .ok (.aload_n 0, 1) := by decide +kernel
theorem dX8_wordStatement_6 : decode cX8_wordStatement 6 = .ok (.getfield 17, 3) := by decide +kernel
theorem dX8_wordStatement_9 : decode cX8_wordStatement 9 = .ok (.aload_n 0, 1) := by decide +kernel
theorem dX8_wordStatement_10 : decode cX8_wordStatement 10 = .ok (.getfield 17, 3) := by decide +kernel
theorem dX8_wordStatement_13 : decode cX8_wordStatement 13 = .ok (.invokespecial 145, 3) := by decide +kernel
theorem dX8_wordStatement_16 : decode cX8_wordStatement 16 = .ok (.astore_n 3, 1) := by decide +kernel
theorem dX8_wordStatement_17 : decode cX8_wordStatement 17 = .ok (.aload_n 0, 1) := by decide +kernel
theorem dX8_wordStatement_18 : decode cX8_wordStatement 18 = .ok (.dup, 1) := by decide +kernel
theorem dX8_wordStatement_19 : decode cX8_wordStatement 19 = .ok (.getfield 17, 3) := by decide +kernel
theorem dX8_wordStatement_22 : decode cX8_wordStatement 22 = .ok (.iconst 1, 1) := by decide +kernel
theorem dX8_wordStatement_23 : decode cX8_wordStatement 23 = .ok (.iadd, 1) := by decide +kernel
theorem dX8_wordStatement_24 : decode cX8_wordStatement 24 = .ok (.putfield 17, 3) := by decide +kernel
theorem dX8_wordStatement_27 : decode cX8_wordStatement 27 = .ok (.iload_n 2, 1) := by decide +kernel
theorem dX8_wordStatement_28 : decode cX8_wordStatement 28 = .ok (.ifCond .eq 11, 3) := by decide +kernel
theorem dX8_wordStatement_39 : decode cX8_wordStatement 39 = .ok (.aload_n 0, 1) := by decide +kernel
theorem dX8_wordStatement_40 : decode cX8_wordStatement 40 = .ok (.bipush 38, 2) := by decide +kernel
theorem dX8_wordStatement_42 : decode cX8_wordStatement 42 = .ok (.invokevirtual 53, 3) := by decide +kernel
theorem dX8_wordStatement_45 : decode cX8_wordStatement 45 = .ok (.pop, 1) := by decide +kernel
theorem dX8_wordStatement_46 : decode cX8_wordStatement 46 = .ok (.aload_n 3, 1) := by decide +kernel
theorem dX8_wordStatement_47 : decode cX8_wordStatement 47 = .ok (.areturn, 1) := by decide +kernel
theorem hV_X8_take : yX8_take.cls = RX8 ∧ yX8_take.cls ≠ "java/lang/invoke/MethodHandle" ∧ yX8_take.cls ≠ "java/lang/invoke/VarHandle" ∧ (parseMethodDescriptor yX8_take.desc).map (fun d => d.parameters.length) = some 1 := by decide +kernel
set_option maxHeartbeats 8000000 in
set_option maxRecDepth 100000 in
theorem P_word0 (l : Launch) (G : pT) (h0 : Nat) (a : Nat → Nat) (F : Nat → Int32) (R : Nat → Value) (Z : Int64) (B : Nat → Nat → Int32) (J : Nat → Nat → Int64) (K : PK) (w : va_W) (x : Int32) (at9 : Nat) (sz : Nat) (O : Nat) (g : Nat → Nat → Nat) (hsz : sz ≤ 5000) (hat : at9 ≤ sz) (hwn : WN K g) (how : ∀ o : Nat, O = o + 1 → K.1 o = 1 ∧ (1 ≤ g 0 o → 1 < 0) ∧ ¬ K.2.1 0 o = 32) (hle : at9 + 1 ≤ sz) (hsh : ∀ C : Nat → Option Nat, Shp x C) (hiv : ∀ kq : Nat, rS kq + 2 ≤ rE kq → IvK x kq) (hnk : ¬ x = 15 ∧ ¬ x = 17 ∧ ¬ x = 8 ∧ ¬ x = 9 ∧ ¬ x = 35) (hO : OKP G h0 a (upd (upd F 2 (nI sz)) 9 (nI at9)) R Z B J K w) (hl0 : l.stackTraces = false) : PBn l G pX0 yX8_wordStatement cX8_wordStatement 4 (some (.object "JinjaTongue$Node")) ({ frames := 8, cells := 2, slots := 17, locals := 143 }) [.ref (a 3), .int x, .int 0] w (fun (v : Option Value) (u : va_W × (Nat × PK × (Nat → Nat → Nat) × Nat)) => v = some (.ref u.2.1) ∧ (NwR K u.2.2.1 g u.2.2.2.1 u.2.1 O u.2.2.2.2 1) ∧ (rS u.2.2.2.2 = at9 ∧ rE u.2.2.2.2 = at9 + 2 ∧ rD u.2.2.2.2 = 0) ∧ (u.2.2.1.2.1 0 u.2.1 = x) ∧ (at9 + 2 ≤ sz) ∧ (NwT (B 7) sz (B 10) (B 10) K u.2.2.1 at9 (at9 + 2)) ∧ (OKP G h0 a (upd (upd F 2 (nI sz)) 9 (nI (at9 + 2))) R Z B J u.2.2.1 u.1)) (fun u => u.1) (fun (u : va_W × (Nat × PK × (Nat → Nat → Nat) × Nat)) => 1) (fun (u : va_W × (Nat × PK × (Nat → Nat → Nat) × Nat)) => 11) (fun (u : va_W × (Nat → Int32) × (Nat → Value) × (Nat → Nat → Int32)) => ThQ G h0 a (upd (upd F 2 (nI sz)) 9 (nI at9)) R Z B J u) (fun u => u.1) := by
  intro sz
  refine vx_ofW (cc := cX8_wordStatement) (maxL := 4) (ret := (some (.object "JinjaTongue$Node"))) (by decide) rfl ?_
  intro p e s m args below meth c s₁ B9 hml hnt hv
  obtain ⟨rfl, hsz, hP, hD0, hE, hX⟩ := hv
  have hx := B9.exec
  have hb := B9.bytes
  have hr := B9.returns
  have hts := atoms_spec (ws := Cond.code yX8_wordStatement cX8_wordStatement 4 (some (.object "JinjaTongue$Node")) :: pw) B9.pre
  have hq : ∀ w ∈ pw, w.before _ s = true := fun w h => hts w (List.mem_cons_of_mem _ h)
  have hown : s.vm.findClass RX8 = some m.cls := findClass_of_methodNamed B9.named
  have hlocks := B9.notSynchronized
  subst hsz
  have hD := hD0.self (sz := s.heap.size)
  have hA : ∀ q : Nat, s.heap.size ≤ q → va_A w s.heap.size q := fun q h => Or.inr h
  generalize va_A w s.heap.size = A at hD hE hA ⊢
  have hS : va_S A s.heap s.heap [] := va_S.rf
  have hl := lv_entry ([.ref (a 3), .int x, .int 0]) (n := 4) (Nat.le_of_ble_eq_true rfl)
  rw [lg_entry_eq]
  generalize (lg_sl ([.ref (a 3), .int x, .int 0]) ++ List.replicate (4 - (lg_sl ([.ref (a 3), .int x, .int 0])).length) Slot.unset).toArray = ls at hl ⊢
  have hl : lv_has ls 4 [(0, .ref (a 3)), (1, .int x), (2, .int 0)] := hl
  have htk0 : NwT (B 7) sz (B 10) (B 10) K K at9 at9 := NwT.nil
  refine p_new (s9 := 1) (C := RX7) (T := TX7) (N := 11) (ci := 13) (fs := [.int 0, .int 0, .int 0, .int 0, .int 0, .int 0, .null, .null, .null, .null, .null]) hx hb hq pin_wsX70 tyX7 tyX7_ok hown (hq _ pw_870) (hq _ pw_871) (hq _ pw_872) hE hP hD hS hA hO rfl nw_X7 (by decide) (fun q => by rw [rep_1 (show (kN K q 1 0).1 q = 1 from if_pos rfl)]; unfold fsNode kN; simp only [if_true]; rfl) (by show 0 + 1 ≤ 2; omega) (by show 0 + 11 ≤ 17; omega) dX8_wordStatement_0 (fun q1 H w hq2 hP hD hS hO => ?_)
  have hf3 : (kN K q1 1 0).1 q1 = 1 := if_pos rfl
  refine W.widen (k := 1) (n := 11) (by show 0 + 1 ≤ 1; omega) (by show 0 + 11 ≤ 11; omega) ?_
  refine lv_dup hx hb dX8_wordStatement_3 rfl ?_
  refine lv_iload_n hx hb dX8_wordStatement_4 rfl (lv_at hl 1 rfl) ?_
  refine lv_aload_n hx hb dX8_wordStatement_5 rfl (lv_at hl 0 rfl) ?_
  refine c_get (v := .int (nI at9)) (C := RX8) (Tc := TX8) (N := 5) (ci := 5) hx hb hq pin_wsX80 hown hE hP hO 23 (sg_23 G h0 a _ _ _ _ _) rfl 2 (by decide) (hq _ pw_776) (fun _ h9 => h9) rfl dX8_wordStatement_6 ?_
  refine lv_aload_n hx hb dX8_wordStatement_9 rfl (lv_at hl 0 rfl) ?_
  refine c_get (v := .int (nI at9)) (C := RX8) (Tc := TX8) (N := 5) (ci := 5) hx hb hq pin_wsX80 hown hE hP hO 23 (sg_23 G h0 a _ _ _ _ _) rfl 2 (by decide) (hq _ pw_776) (fun _ h9 => h9) rfl dX8_wordStatement_10 ?_
  have hO : OKP G h0 a (upd (upd F 2 (nI sz)) 9 (nI at9)) R Z B J (kN K q1 1 0) w := hO.to rfl
  obtain ⟨qr7, hqr8⟩ := p_recv hO (by rw [hf3]; decide) (rep_1 hf3)
  refine pc_I0 (G := G) (As := [.int x, .int (nI at9), .int (nI at9)]) (rest := [.ref q1]) hx hb hml hown hq hE hX pX0_al hP hD hS hA hl.1 (N_init l G h0 a (upd (upd F 2 (nI sz)) 9 (nI at9)) R Z B J (kN K q1 1 0) w q1 x (nI at9) (nI at9) (by omega) hO) pw_874 pw_875 pw_872 pw_765 rfl hS_X7_init rfl (Nat.le_of_ble_eq_true rfl) dX8_wordStatement_13 ⟨(by show 1 + 0 ≤ 2; omega), (by show 11 + 0 ≤ 17; omega)⟩ ⟨Nat.le_of_ble_eq_true rfl, Nat.le_of_ble_eq_true rfl⟩ (fun v6 u4 H locs hw5 hP hD hS => ?_)
  obtain ⟨w, _⟩ := u4
  obtain ⟨hw5, hO⟩ := hw5
  obtain rfl : v6 = none := hw5
  have hf9 : (kI (kI (kI (kN K q1 1 0) 0 q1 x) 1 q1 (nI at9)) 2 q1 (nI at9)).1 q1 = 1 := hf3
  have hO : OKP G h0 a (upd (upd F 2 (nI sz)) 9 (nI at9)) R Z B J (kI (kI (kI (kN K q1 1 0) 0 q1 x) 1 q1 (nI at9)) 2 q1 (nI at9)) w := hO.to rfl
  refine W.widen (k := 1) (n := 11) (by show 1 + 0 ≤ 1; omega) (by show 11 + 0 ≤ 11; omega) ?_
  refine W.eq (g2 := F0 m 16 ls [.ref q1]) rfl ?_
  refine lv_astore_n (lv' := [(3, .ref q1), (0, .ref (a 3)), (1, .int x), (2, .int 0)]) hx hb dX8_wordStatement_16 rfl hl (by decide) rfl (fun ls hl => ?_)
  refine lv_aload_n hx hb dX8_wordStatement_17 rfl (lv_at hl 1 rfl) ?_
  refine lv_dup hx hb dX8_wordStatement_18 rfl ?_
  refine c_get (v := .int (nI at9)) (C := RX8) (Tc := TX8) (N := 5) (ci := 5) hx hb hq pin_wsX80 hown hE hP hO 23 (sg_23 G h0 a _ _ _ _ _) rfl 2 (by decide) (hq _ pw_776) (fun _ h9 => h9) rfl dX8_wordStatement_19 ?_
  refine lv_iconst (v := 1) hx hb dX8_wordStatement_22 (by decide) ?_
  refine lv_iadd hx hb dX8_wordStatement_23 ?_
  refine lv_topi (fun x10 e11 => ?_)
  obtain rfl : x10 = nI (at9 + 1) := e11.trans (nI_add (at9) (1))
  refine c_put (v := .int (nI (at9 + 1))) (ty := .int) (C := RX8) (Tc := TX8) (N := 5) (ci := 5) hx hb hq pin_wsX80 tyX8 tyX8_ok nmX8 hown hE hP hD hS hO 23 (sg_23 G h0 a _ _ _ _ _) rfl 2 (by decide) (hq _ pw_776) (fun _ h9 => h9) rfl (by decide +kernel) rfl rfl (Nat.le_of_ble_eq_true rfl) (sf_9 G h0 a _ _ _ _ _ (nI (at9 + 1))) dX8_wordStatement_24 (fun H locs w hP hD hS hO => ?_)
  refine lv_iload_n hx hb dX8_wordStatement_27 rfl (lv_at hl 3 rfl) ?_
  refine lv_if_eq (tgt := 39) hx hb dX8_wordStatement_28 (by decide) (fun c12 => ?_) (fun c12 => absurd c12 (by decide))
  refine lv_aload_n hx hb dX8_wordStatement_39 rfl (lv_at hl 1 rfl) ?_
  refine lv_bipush (v := 38) hx hb dX8_wordStatement_40 (by decide) ?_
  have hO : OKW G h0 a (upd (upd (upd (upd (upd F 2 (nI sz)) 9 (nI at9)) 9 (nI (at9 + 1))) 2 (nI sz)) 9 (nI (at9 + 1))) R Z B J ((kI (kI (kI (kN K q1 1 0) 0 q1 x) 1 q1 (nI at9)) 2 q1 (nI at9)).1) (fun q99 x99 => x99 = rep G a (kI (kI (kI (kN K q1 1 0) 0 q1 x) 1 q1 (nI at9)) 2 q1 (nI at9)) q99) w := hO.to rfl
  obtain ⟨_, qr16, hqr17⟩ := hO.2.1 23 _ (sg_23 G h0 a _ _ _ _ _)
  refine pn_V0 (G := G) (As := [.int 38]) (rest := []) hx hb hml hown hq hE hX pX0_al hP hD hS hA hl.1 (P_take l G h0 a (upd (upd (upd F 2 (nI sz)) 9 (nI at9)) 9 (nI (at9 + 1))) R Z B J ((kI (kI (kI (kN K q1 1 0) 0 q1 x) 1 q1 (nI at9)) 2 q1 (nI at9)).1) (fun q99 x99 => x99 = rep G a (kI (kI (kI (kN K q1 1 0) 0 q1 x) 1 q1 (nI at9)) 2 q1 (nI at9)) q99) w 38 (at9 + 1) sz (by omega) (by omega) (by decide) hO hl0) (gV pw_793 pw_794 pw_795 pw_796 pw_781) hV_X8_take qr16 5 hqr17 rfl rfl rfl (Nat.le_of_ble_eq_true rfl) dX8_wordStatement_42 ⟨(by show 1 + 1 ≤ 2; omega), (by show 11 + 6 ≤ 17; omega)⟩ ⟨Nat.le_of_ble_eq_true rfl, Nat.le_of_ble_eq_true rfl⟩ (fun v15 u13 H locs hw14 hP hD hS => ?_) (fun ux ce9 q9 H9 locs9 hux hP9 hD9 hS9 hce hcv hcl => pb_out ux (ThQ.up (Thx.same (Thx.same (Thx.f Thx.rfl (by omega)) rfl) rfl) RhX.rfl hux) hnt hlocks hce hcv hcl hP9 hD9 hS9 (by show 1 + 1 ≤ 2; omega) (by show 11 + 6 ≤ 17; omega))
  obtain ⟨w, _⟩ := u13
  obtain ⟨hw14, h18, h19, hO⟩ := hw14
  have h18 : (at9 + 1) + 1 ≤ sz := h18
  have h19 : tkN ((B 7)) sz 67 (nI (at9 + 1)) = 38 := h19
  obtain rfl : v15 = some (.int (nI (at9 + 1))) := hw14
  have hO : OKP G h0 a (upd (upd F 2 (nI sz)) 9 (nI ((at9 + 1) + 1))) R Z B J (kI (kI (kI (kN K q1 1 0) 0 q1 x) 1 q1 (nI at9)) 2 q1 (nI at9)) w := hO.to rfl
  refine W.widen (k := 1) (n := 11) (by show 1 + 0 ≤ 1; omega) (by show 11 + 0 ≤ 11; omega) ?_
  refine W.eq (g2 := F0 m 45 ls [.int (nI (at9 + 1))]) rfl ?_
  refine lv_pop hx hb dX8_wordStatement_45 rfl ?_
  refine lv_aload_n hx hb dX8_wordStatement_46 rfl (lv_at hl 0 rfl) ?_
  refine W_size (fun hz1 hz2 => ?_)
  refine vx_ret ?_
  obtain ⟨k920, k920I, k920S, k920E, k920M, k920N, k920X, k920D⟩ := rk_ex (s := at9) (e := (at9 + 2)) (m := at9) (n := at9) (x := 0) (d := 0) (by omega)
  have hlf := leaf_okI (q := q1) (a := x) (b := (nI at9)) (c := (nI at9)) (O := O) (k := k920) hwn hq2 ⟨k920I, hiv _ (by omega)⟩ hsh how
  have hz21 : NwR K (mkN K q1 x (nI at9) (nI at9)) g (gset (gset g q1 0 0 0) q1 1 O k920) q1 O k920 1 := hlf
  have hz22 : rS k920 = at9 ∧ rE k920 = at9 + 2 ∧ rD k920 = 0 := (by omega)
  have hz23 : (mkN K q1 x (nI at9) (nI at9)).2.1 0 q1 = x := mkN_0
  have hz24 : at9 + 2 ≤ sz := (by omega)
  have hz25 : NwT (B 7) sz (B 10) (B 10) K (mkN K q1 x (nI at9) (nI at9)) at9 (at9 + 2) := (NwT.le (NwT.new htk0 hq2 (TkP.no hnk)) (by omega))
  have hO : OKP G h0 a (upd (upd F 2 (nI sz)) 9 (nI (at9 + 2))) R Z B J (mkN K q1 x (nI at9) (nI at9)) w := hO.to rfl
  refine W.widen (k := 2) (n := 17) (by omega) (by omega) ?_
  have hzz1 : H.size ≤ s.heap.size + (1) := (by have z : 1 ≤ 1 := (by omega); omega)
  have hzz2 : hSl H ≤ hSl s.heap + (11) := (by have z : 11 ≤ 11 := (by omega); omega)
  exact W.aret (v := .ref q1) hx hb hr (Or.inl ⟨_, rfl⟩) (Or.inr ⟨_, rfl⟩) (fun t99 ht99 hW99 => ⟨⟨_, (w, (q1, (mkN K q1 x (nI at9) (nI at9)), (gset (gset g q1 0 0 0) q1 1 O k920), k920)), rfl, ⟨rfl, hz21, hz22, hz23, hz24, hz25, hO⟩, by rw [ht99]; exact hP, hD, by rw [ht99]; exact hzz1, by rw [ht99]; exact hzz2⟩, hS.F ht99⟩) hS.2.2 dX8_wordStatement_47
