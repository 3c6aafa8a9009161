theorem dX8_listInterfaces_0 : decode cX8_listInterfaces 0 = .ok (.aload_n 1, 1) := by decide +kernel
theorem dX8_listInterfaces_1 : decode cX8_listInterfaces 1 = .ok (.aload_n 0, 1) := by decide +kernel
theorem dX8_listInterfaces_2 : decode cX8_listInterfaces 2 = .ok (.bipush 65, 2) := by decide +kernel
theorem dX8_listInterfaces_4 : decode cX8_listInterfaces 4 = .ok (.invokevirtual 53, 3) := by decide +kernel
theorem dX8_listInterfaces_7 : decode cX8_listInterfaces 7 = .ok (.putfield 89, 3) := by decide +kernel
theorem dX8_listInterfaces_10 : decode cX8_listInterfaces 10 = .ok (.aload_n 1, 1) := by decide +kernel
theorem dX8_listInterfaces_11 : decode cX8_listInterfaces 11 = .ok (.iconst 1, 1) := by decide +kernel
theorem dX8_listInterfaces_12 : decode cX8_listInterfaces 12 = .ok (.putfield 92, 3) := by decide +kernel
theorem dX8_listInterfaces_15 : decode cX8_listInterfaces 15 = .ok (.iconst 0, 1) := by decide +kernel
theorem dX8_listInterfaces_16 : decode cX8_listInterfaces 16 = .ok (.istore_n 2, 1) := by decide +kernel
theorem dX8_listInterfaces_17 : decode cX8_listInterfaces 17 = .ok (.iload_n 2, 1) := by decide +kernel
theorem dX8_listInterfaces_18 : decode cX8_listInterfaces 18 = .ok (.aload_n 0, 1) := by decide +kernel
theorem dX8_listInterfaces_19 : decode cX8_listInterfaces 19 = .ok (.getfield 7, 3) := by decide +kernel
theorem dX8_listInterfaces_22 : decode cX8_listInterfaces 22 = .ok (.getfield 27, 3) := by decide +kernel
theorem dX8_listInterfaces_25 : decode cX8_listInterfaces 25 = .ok (.if_icmp .ge 35, 3) := by decide +kernel
theorem dX8_listInterfaces_60 : decode cX8_listInterfaces 60 = .ok (.return_, 1) := by decide +kernel
theorem dX8_listInterfaces_28 : decode cX8_listInterfaces 28 = .ok (.aload_n 0, 1) := by decide +kernel
theorem dX8_listInterfaces_29 : decode cX8_listInterfaces 29 = .ok (.bipush 39, 2) := by decide +kernel
theorem dX8_listInterfaces_31 : decode cX8_listInterfaces 31 = .ok (.invokevirtual 80, 3) := by decide +kernel
theorem dX8_listInterfaces_34 : decode cX8_listInterfaces 34 = .ok (.ifCond .eq 26, 3) := by decide +kernel
theorem dX8_listInterfaces_37 : decode cX8_listInterfaces 37 = .ok (.aload_n 0, 1) := by decide +kernel
theorem dX8_listInterfaces_38 : decode cX8_listInterfaces 38 = .ok (.bipush 65, 2) := by decide +kernel
theorem dX8_listInterfaces_40 : decode cX8_listInterfaces 40 = .ok (.invokevirtual 53, 3) := by decide +kernel
theorem dX8_listInterfaces_43 : decode cX8_listInterfaces 43 = .ok (.pop, 1) := by decide +kernel
theorem dX8_listInterfaces_44 : decode cX8_listInterfaces 44 = .ok (.aload_n 1, 1) := by decide +kernel
theorem dX8_listInterfaces_45 : decode cX8_listInterfaces 45 = .ok (.dup, 1) := by decide +kernel
theorem dX8_listInterfaces_46 : decode cX8_listInterfaces 46 = .ok (.getfield 92, 3) := by decide +kernel
theorem dX8_listInterfaces_49 : decode cX8_listInterfaces 49 = .ok (.iconst 1, 1) := by decide +kernel
theorem dX8_listInterfaces_50 : decode cX8_listInterfaces 50 = .ok (.iadd, 1) := by decide +kernel
theorem dX8_listInterfaces_51 : decode cX8_listInterfaces 51 = .ok (.putfield 92, 3) := by decide +kernel
theorem dX8_listInterfaces_54 : decode cX8_listInterfaces 54 = .ok (.iinc 2 1, 3) := by decide +kernel
theorem dX8_listInterfaces_57 : decode cX8_listInterfaces 57 = .ok (.goto (-40), 3) := by decide +kernel
set_option maxHeartbeats 16000000 in
set_option maxRecDepth 100000 in
theorem P_listI (l : Launch) (G : pT) (h0 : Nat) (a : Nat → Nat) (F : Nat → Int32) (R : Nat → Value) (Z : Int64) (B : Nat → Nat → Int32) (J : Nat → Nat → Int64) (K : PK) (w : va_W) (pq : Nat) (dr : Nat) (ml : Nat) (nd : Nat) (nm : Nat) (cp : Nat) (it : Nat → Nat) (s9 : Nat) (d0 : Nat) (at9 : Nat) (sz : Nat) (g : Nat → Nat → Nat) (hsz : sz ≤ 5000) (hat : at9 ≤ sz) (hwp : WPr G K g) (hps : PgS G K g (a 1) pq dr ml nd nm cp it s9) (hd0 : K.1 d0 = 4) (hO : OKP G h0 a (upd (upd (upd (upd F 2 (nI sz)) 9 (nI at9)) 10 0) 11 0) (updR R 1 (.ref pq)) Z B J K w) (hl0 : l.stackTraces = false) : PBn l G pX0 yX8_listInterfaces cX8_listInterfaces 3 none ({ frames := 8, cells := 1, slots := 6, locals := 143 }) [.ref (a 3), .ref d0] w (fun (v : Option Value) (u : va_W × (PK × (Nat → Nat → Nat) × Nat)) => v = none ∧ (WPr G u.2.1 u.2.2.1) ∧ (PgS G u.2.1 u.2.2.1 (a 1) pq dr ml nd nm cp it s9) ∧ (u.2.1.1 d0 = 4) ∧ (at9 + 1 ≤ u.2.2.2 ∧ u.2.2.2 ≤ sz) ∧ (OKP G h0 a (upd (upd (upd (upd F 2 (nI sz)) 9 (nI u.2.2.2)) 10 0) 11 0) (updR R 1 (.ref pq)) Z B J u.2.1 u.1)) (fun u => u.1) (fun (u : va_W × (PK × (Nat → Nat → Nat) × Nat)) => 0) (fun (u : va_W × (PK × (Nat → Nat → Nat) × Nat)) => 0) (fun (u : va_W × (Nat → Int32) × (Nat → Value) × (Nat → Nat → Int32)) => ThQ G h0 a (upd (upd (upd (upd F 2 (nI sz)) 9 (nI at9)) 10 0) 11 0) Z B J u) (fun u => u.1) := by
  intro sz
  refine vx_ofW (cc := cX8_listInterfaces) (maxL := 3) (ret := none) (by decide) rfl ?_
  intro p e s m args below meth c s₁ B9 hml hnt hv
  obtain ⟨rfl, hsz, hP, hD0, hE, hX⟩ := hv
  have hx := B9.exec
  have hb := B9.bytes
  have hr := B9.returns
  have hts := atoms_spec (ws := Cond.code yX8_listInterfaces cX8_listInterfaces 3 none :: pw) B9.pre
  have hq : ∀ w ∈ pw, w.before _ s = true := fun w h => hts w (List.mem_cons_of_mem _ h)
  have hown : s.vm.findClass RX8 = some m.cls := findClass_of_methodNamed B9.named
  have hlocks := B9.notSynchronized
  subst hsz
  have hD := hD0.self (sz := s.heap.size)
  have hA : ∀ q : Nat, s.heap.size ≤ q → va_A w s.heap.size q := fun q h => Or.inr h
  generalize va_A w s.heap.size = A at hD hE hA ⊢
  have hS : va_S A s.heap s.heap [] := va_S.rf
  have hl := lv_entry ([.ref (a 3), .ref d0]) (n := 3) (Nat.le_of_ble_eq_true rfl)
  rw [lg_entry_eq]
  generalize (lg_sl ([.ref (a 3), .ref d0]) ++ List.replicate (3 - (lg_sl ([.ref (a 3), .ref d0])).length) Slot.unset).toArray = ls at hl ⊢
  have hl : lv_has ls 3 [(0, .ref (a 3)), (1, .ref d0)] := hl
  refine lv_aload_n hx hb dX8_listInterfaces_0 rfl (lv_at hl 1 rfl) ?_
  refine lv_aload_n hx hb dX8_listInterfaces_1 rfl (lv_at hl 0 rfl) ?_
  refine lv_bipush (v := 65) hx hb dX8_listInterfaces_2 (by decide) ?_
  have hO : OKW G h0 a (upd (upd (upd (upd (upd (upd F 2 (nI sz)) 9 (nI at9)) 10 0) 11 0) 2 (nI sz)) 9 (nI at9)) (updR R 1 (.ref pq)) Z B J K.1 (fun q99 x99 => x99 = rep G a K q99) w := hO.to rfl
  obtain ⟨_, qr4, hqr5⟩ := hO.2.1 23 _ (sg_23 G h0 a _ _ _ _ _)
  refine pn_V0 (G := G) (As := [.int 65]) (rest := [.ref d0]) hx hb hml hown hq hE hX pX0_al hP hD hS hA hl.1 (P_take l G h0 a (upd (upd (upd (upd F 2 (nI sz)) 9 (nI at9)) 10 0) 11 0) (updR R 1 (.ref pq)) Z B J K.1 (fun q99 x99 => x99 = rep G a K q99) w 65 at9 sz (by omega) (by omega) (by decide) hO hl0) (gV pw_793 pw_794 pw_795 pw_796 pw_781) hV_X8_take qr4 5 hqr5 rfl rfl rfl (Nat.le_of_ble_eq_true rfl) dX8_listInterfaces_4 ⟨(by show 0 + 1 ≤ 1; omega), (by show 0 + 6 ≤ 6; omega)⟩ ⟨Nat.le_of_ble_eq_true rfl, Nat.le_of_ble_eq_true rfl⟩ (fun v3 u1 H locs hw2 hP hD hS => ?_) (fun ux ce9 q9 H9 locs9 hux hP9 hD9 hS9 hce hcv hcl => pb_out ux (ThQ.up (Thx.same (Thx.same Thx.rfl rfl) rfl) hux) hnt hlocks hce hcv hcl hP9 hD9 hS9 (by show 0 + 1 ≤ 1; omega) (by show 0 + 6 ≤ 6; omega))
  obtain ⟨w, _⟩ := u1
  obtain ⟨hw2, h6, hO⟩ := hw2
  have h6 : at9 + 1 ≤ sz := h6
  obtain rfl : v3 = some (.int (nI at9)) := hw2
  have hO : OKP G h0 a (upd (upd (upd (upd F 2 (nI sz)) 9 (nI (at9 + 1))) 10 0) 11 0) (updR R 1 (.ref pq)) Z B J K w := hO.to rfl
  refine W.widen (k := 0) (n := 0) (by show 0 + 0 ≤ 0; omega) (by show 0 + 0 ≤ 0; omega) ?_
  refine W.eq (g2 := F0 m 7 ls [.int (nI at9), .ref d0]) rfl ?_
  refine p_put (v := .int (nI at9)) (ty := .int) (C := RX2) (Tc := TX2) (N := 13) (ci := 2) (K' := (kI K 20 d0 (nI at9))) hx hb hq pin_wsX20 tyX2 tyX2_ok nmX2 hown hE hP hD hS hO (by rw [hd0]; decide) (rep_4 hd0) rfl 5 (by decide) (hq _ pw_790) (fun _ h9 => h9) rfl (by decide +kernel) rfl rfl (Nat.le_of_ble_eq_true rfl) rfl (by rw [rep_4 (show (kI K 20 d0 (nI at9)).1 d0 = 4 from hd0), pi_20] <;> rfl) (fun p9 hp9 => rep_kI hp9) dX8_listInterfaces_7 (fun H locs w hP hD hS hO => ?_)
  obtain ⟨K7, hK8⟩ : ∃ z : PK, z = (kI K 20 d0 (nI at9)) := ⟨_, rfl⟩
  rw [← hK8] at hO
  have hf9 : K7.1 d0 = 4 := (by rw [hK8]; exact hd0)
  have hf10 : K7.2.1 20 d0 = (nI at9) := by rw [hK8]; exact kI_eq
  have hwp11 : WPr G K7 g := by rw [hK8]; exact WPr.kI hwp (by decide)
  have hps12 : PgS G K7 g (a 1) pq dr ml nd nm cp it s9 := by rw [hK8]; exact PgS.kI hps (by decide)
  refine lv_aload_n hx hb dX8_listInterfaces_10 rfl (lv_at hl 1 rfl) ?_
  refine lv_iconst (v := 1) hx hb dX8_listInterfaces_11 (by decide) ?_
  refine p_put (v := .int 1) (ty := .int) (C := RX2) (Tc := TX2) (N := 13) (ci := 2) (K' := (kI K7 21 d0 1)) hx hb hq pin_wsX20 tyX2 tyX2_ok nmX2 hown hE hP hD hS hO (by rw [hf9]; decide) (rep_4 hf9) rfl 6 (by decide) (hq _ pw_791) (fun _ h9 => h9) rfl (by decide +kernel) rfl rfl (Nat.le_of_ble_eq_true rfl) rfl (by rw [rep_4 (show (kI K7 21 d0 1).1 d0 = 4 from hf9), pi_21] <;> rfl) (fun p9 hp9 => rep_kI hp9) dX8_listInterfaces_12 (fun H locs w hP hD hS hO => ?_)
  obtain ⟨K13, hK14⟩ : ∃ z : PK, z = (kI K7 21 d0 1) := ⟨_, rfl⟩
  rw [← hK14] at hO
  have hf15 : K13.1 d0 = 4 := (by rw [hK14]; exact hf9)
  have hf16 : K13.2.1 20 d0 = (nI at9) := (by rw [hK14]; exact (kI_of (by decide)).trans hf10)
  have hf17 : K13.2.1 21 d0 = 1 := by rw [hK14]; exact kI_eq
  have hwp18 : WPr G K13 g := by rw [hK14]; exact WPr.kI hwp11 (by decide)
  have hps19 : PgS G K13 g (a 1) pq dr ml nd nm cp it s9 := by rw [hK14]; exact PgS.kI hps12 (by decide)
  refine lv_iconst (v := 0) hx hb dX8_listInterfaces_15 (by decide) ?_
  refine lv_istore_n (lv' := [(2, .int 0), (0, .ref (a 3)), (1, .ref d0)]) hx hb dX8_listInterfaces_16 rfl hl (by decide) rfl (fun ls hl => ?_)
  have loop_i : ∀ (n_i : Nat) (i2 : Nat) (at2 : Nat) (K2 : PK) (H : Heap) (locs : List Loc) (ls : Array Slot) (w : va_W), i2 ≤ sz → sz + 1 ≤ i2 + n_i → (at9 + 1 ≤ at2 ∧ at2 ≤ sz) → (WPr G K2 g) → (PgS G K2 g (a 1) pq dr ml nd nm cp it s9) → (K2.1 d0 = 4) → va_P G.1 pCl w H → va_D A w → va_S A s.heap H locs → OKP G h0 a (upd (upd (upd (upd F 2 (nI sz)) 9 (nI at2)) 10 0) 11 0) (updR R 1 (.ref pq)) Z B J K2 w → lv_has ls 3 [(2, .int (nI i2)), (1, .ref d0), (0, .ref (a 3))] → W p l e (headSpec (Cond.code yX8_listInterfaces cX8_listInterfaces 3 none :: pw) ({ frames := 8, cells := 1, slots := 6, locals := 143 } : Room)).room s m ([.ref (a 3), .ref d0] : List Value).toArray below meth c H locs 0 0 (vx_MQ below (pQn G A (fun (v : Option Value) (u : va_W × (PK × (Nat → Nat → Nat) × Nat)) => v = none ∧ (WPr G u.2.1 u.2.2.1) ∧ (PgS G u.2.1 u.2.2.1 (a 1) pq dr ml nd nm cp it s9) ∧ (u.2.1.1 d0 = 4) ∧ (at9 + 1 ≤ u.2.2.2 ∧ u.2.2.2 ≤ sz) ∧ (OKP G h0 a (upd (upd (upd (upd F 2 (nI sz)) 9 (nI u.2.2.2)) 10 0) 11 0) (updR R 1 (.ref pq)) Z B J u.2.1 u.1)) (fun u => u.1) (fun (u : va_W × (PK × (Nat → Nat → Nat) × Nat)) => 0) (fun (u : va_W × (PK × (Nat → Nat → Nat) × Nat)) => 0)) (pXX G A (fun (u : va_W × (Nat → Int32) × (Nat → Value) × (Nat → Nat → Int32)) => ThQ G h0 a (upd (upd (upd (upd F 2 (nI sz)) 9 (nI at9)) 10 0) 11 0) Z B J u) (fun u => u.1)) ([.ref (a 3), .ref d0] : List Value).toArray s ({ frames := 8, cells := 1, slots := 6, locals := 143 } : Room).cells ({ frames := 8, cells := 1, slots := 6, locals := 143 } : Room).slots A) (F0 m 17 ls []) := by
    intro n_i
    induction n_i with
    | zero => intro i2 at2 K2 H locs ls w hk_i hn_i; omega
    | succ n_i ih_i =>
      intro i2 at2 K2 H locs ls w hk_i hn_i hat2 hwp2 hps2 hd2 hP hD hS hO hl
      refine lv_iload_n hx hb dX8_listInterfaces_17 rfl (lv_at hl 0 rfl) ?_
      refine lv_aload_n hx hb dX8_listInterfaces_18 rfl (lv_at hl 2 rfl) ?_
      refine c_get (v := .ref (a 1)) (C := RX8) (Tc := TX8) (N := 5) (ci := 5) hx hb hq pin_wsX80 hown hE hP hO 23 (sg_23 G h0 a _ _ _ _ _) rfl 0 (by decide) (hq _ pw_774) (fun _ h9 => h9) rfl dX8_listInterfaces_19 ?_
      refine c_get (v := .int (nI sz)) (C := RX10) (Tc := TX10) (N := 15) (ci := 7) hx hb hq pin_wsX100 hown hE hP hO 2 (sg_2 G h0 a _ _ _ _ _) rfl 8 (by decide) (hq _ pw_792) (fun _ h9 => h9) rfl dX8_listInterfaces_22 ?_
      refine lv_icmp_ge (tgt := 60) hx hb dX8_listInterfaces_25 (by decide) (fun c20 => ?_) (fun c20 => ?_)
      · have n21 : sz ≤ i2 := (nI_leI (a := sz) (b := i2) (by omega) (by omega)).mp c20
        refine W_size (fun hz1 hz2 => ?_)
        refine vx_ret ?_
        have hz22 : WPr G K2 g := hwp2
        have hz23 : PgS G K2 g (a 1) pq dr ml nd nm cp it s9 := hps2
        have hz24 : K2.1 d0 = 4 := hd2
        have hz25 : at9 + 1 ≤ at2 ∧ at2 ≤ sz := (by omega)
        have hO : OKP G h0 a (upd (upd (upd (upd F 2 (nI sz)) 9 (nI at2)) 10 0) 11 0) (updR R 1 (.ref pq)) Z B J K2 w := hO.to rfl
        refine W.widen (k := 1) (n := 6) (by omega) (by omega) ?_
        have hzz1 : H.size ≤ s.heap.size + (0) := (by have z : 0 ≤ 0 := (by omega); omega)
        have hzz2 : hSl H ≤ hSl s.heap + (0) := (by have z : 0 ≤ 0 := (by omega); omega)
        exact W.vret hx hb hr (fun t99 ht99 hW99 => ⟨⟨_, (w, (K2, g, at2)), rfl, ⟨rfl, hz22, hz23, hz24, hz25, hO⟩, by rw [ht99]; exact hP, hD, by rw [ht99]; exact hzz1, by rw [ht99]; exact hzz2⟩, hS.F ht99⟩) hS.2.2 dX8_listInterfaces_60
      · have n26 : ¬ (sz ≤ i2) := fun h9 => c20 ((nI_leI (a := sz) (b := i2) (by omega) (by omega)).mpr h9)
        refine lv_aload_n hx hb dX8_listInterfaces_28 rfl (lv_at hl 2 rfl) ?_
        refine lv_bipush (v := 39) hx hb dX8_listInterfaces_29 (by decide) ?_
        have hO : OKW G h0 a (upd (upd (upd (upd (upd (upd F 2 (nI sz)) 9 (nI at2)) 10 0) 11 0) 2 (nI sz)) 9 (nI at2)) (updR R 1 (.ref pq)) Z B J K2.1 (fun q99 x99 => x99 = rep G a K2 q99) w := hO.to rfl
        obtain ⟨_, qr30, hqr31⟩ := hO.2.1 23 _ (sg_23 G h0 a _ _ _ _ _)
        refine pc_V0 (G := G) (As := [.int 39]) (rest := []) hx hb hml hown hq hE hX pX0_al hP hD hS hA hl.1 (P_takeIf l G h0 a (upd (upd (upd (upd F 2 (nI sz)) 9 (nI at2)) 10 0) 11 0) (updR R 1 (.ref pq)) Z B J K2.1 (fun q99 x99 => x99 = rep G a K2 q99) w 39 at2 sz (by omega) (by omega) (by decide) hO) (gV pw_797 pw_798 pw_799 pw_796 pw_789) hV_X8_takeIf qr30 5 hqr31 rfl rfl rfl (Nat.le_of_ble_eq_true rfl) dX8_listInterfaces_31 ⟨(by show 0 + 0 ≤ 1; omega), (by show 0 + 0 ≤ 6; omega)⟩ ⟨Nat.le_of_ble_eq_true rfl, Nat.le_of_ble_eq_true rfl⟩ (fun v29 u27 H locs hw28 hP hD hS => ?_)
        obtain ⟨w, r32⟩ := u27
        obtain ⟨hw28, h33, h34, hO⟩ := hw28
        have h33 : r32 ≤ 1 := h33
        have h34 : at2 + r32 ≤ sz := h34
        obtain rfl : v29 = some (.int (nI r32)) := hw28
        have hO : OKP G h0 a (upd (upd (upd (upd F 2 (nI sz)) 9 (nI (at2 + r32))) 10 0) 11 0) (updR R 1 (.ref pq)) Z B J K2 w := hO.to rfl
        refine W.widen (k := 0) (n := 0) (Nat.le_of_ble_eq_true rfl) (Nat.le_of_ble_eq_true rfl) ?_
        refine W.eq (g2 := F0 m 34 ls [.int (nI r32)]) rfl ?_
        refine lv_if_eq (tgt := 60) hx hb dX8_listInterfaces_34 (by decide) (fun c35 => ?_) (fun c35 => ?_)
        · have n36 : r32 = 0 := (nI_eq (a := r32) (b := 0) (by omega) (by omega)).mp c35
          refine W_size (fun hz1 hz2 => ?_)
          refine vx_ret ?_
          have hz37 : WPr G K2 g := hwp2
          have hz38 : PgS G K2 g (a 1) pq dr ml nd nm cp it s9 := hps2
          have hz39 : K2.1 d0 = 4 := hd2
          have hz40 : at9 + 1 ≤ (at2 + r32) ∧ (at2 + r32) ≤ sz := (by omega)
          have hO : OKP G h0 a (upd (upd (upd (upd F 2 (nI sz)) 9 (nI (at2 + r32))) 10 0) 11 0) (updR R 1 (.ref pq)) Z B J K2 w := hO.to rfl
          refine W.widen (k := 1) (n := 6) (by omega) (by omega) ?_
          have hzz1 : H.size ≤ s.heap.size + (0) := (by have z : 0 ≤ 0 := (by omega); omega)
          have hzz2 : hSl H ≤ hSl s.heap + (0) := (by have z : 0 ≤ 0 := (by omega); omega)
          exact W.vret hx hb hr (fun t99 ht99 hW99 => ⟨⟨_, (w, (K2, g, (at2 + r32))), rfl, ⟨rfl, hz37, hz38, hz39, hz40, hO⟩, by rw [ht99]; exact hP, hD, by rw [ht99]; exact hzz1, by rw [ht99]; exact hzz2⟩, hS.F ht99⟩) hS.2.2 dX8_listInterfaces_60
        · have n41 : ¬ (r32 = 0) := fun h9 => c35 ((nI_eq (a := r32) (b := 0) (by omega) (by omega)).mpr h9)
          refine lv_aload_n hx hb dX8_listInterfaces_37 rfl (lv_at hl 2 rfl) ?_
          refine lv_bipush (v := 65) hx hb dX8_listInterfaces_38 (by decide) ?_
          have hO : OKW G h0 a (upd (upd (upd (upd (upd (upd (upd F 2 (nI sz)) 9 (nI at9)) 10 0) 11 0) 9 (nI (at2 + r32))) 2 (nI sz)) 9 (nI (at2 + r32))) (updR R 1 (.ref pq)) Z B J K2.1 (fun q99 x99 => x99 = rep G a K2 q99) w := hO.to rfl
          obtain ⟨_, qr45, hqr46⟩ := hO.2.1 23 _ (sg_23 G h0 a _ _ _ _ _)
          refine pn_V0 (G := G) (As := [.int 65]) (rest := []) hx hb hml hown hq hE hX pX0_al hP hD hS hA hl.1 (P_take l G h0 a (upd (upd (upd (upd (upd F 2 (nI sz)) 9 (nI at9)) 10 0) 11 0) 9 (nI (at2 + r32))) (updR R 1 (.ref pq)) Z B J K2.1 (fun q99 x99 => x99 = rep G a K2 q99) w 65 (at2 + r32) sz (by omega) (by omega) (by decide) hO hl0) (gV pw_793 pw_794 pw_795 pw_796 pw_781) hV_X8_take qr45 5 hqr46 rfl rfl rfl (Nat.le_of_ble_eq_true rfl) dX8_listInterfaces_40 ⟨(by show 0 + 1 ≤ 1; omega), (by show 0 + 6 ≤ 6; omega)⟩ ⟨Nat.le_of_ble_eq_true rfl, Nat.le_of_ble_eq_true rfl⟩ (fun v44 u42 H locs hw43 hP hD hS => ?_) (fun ux ce9 q9 H9 locs9 hux hP9 hD9 hS9 hce hcv hcl => pb_out ux (ThQ.up (Thx.same (Thx.same (Thx.f Thx.rfl (by omega)) rfl) rfl) hux) hnt hlocks hce hcv hcl hP9 hD9 hS9 (by show 0 + 1 ≤ 1; omega) (by show 0 + 6 ≤ 6; omega))
          obtain ⟨w, _⟩ := u42
          obtain ⟨hw43, h47, hO⟩ := hw43
          have h47 : (at2 + r32) + 1 ≤ sz := h47
          obtain rfl : v44 = some (.int (nI (at2 + r32))) := hw43
          have hO : OKP G h0 a (upd (upd (upd (upd F 2 (nI sz)) 9 (nI ((at2 + r32) + 1))) 10 0) 11 0) (updR R 1 (.ref pq)) Z B J K2 w := hO.to rfl
          refine W.widen (k := 0) (n := 0) (by show 0 + 0 ≤ 0; omega) (by show 0 + 0 ≤ 0; omega) ?_
          refine W.eq (g2 := F0 m 43 ls [.int (nI (at2 + r32))]) rfl ?_
          refine lv_pop hx hb dX8_listInterfaces_43 rfl ?_
          refine lv_aload_n hx hb dX8_listInterfaces_44 rfl (lv_at hl 1 rfl) ?_
          refine lv_dup hx hb dX8_listInterfaces_45 rfl ?_
          refine p_get (v := .int (K2.2.1 21 d0)) (C := RX2) (Tc := TX2) (N := 13) (ci := 2) hx hb hq pin_wsX20 hown hE hP hO (by rw [hd2]; decide) (rep_4 hd2) rfl 6 (by decide) (hq _ pw_791) (fun _ h9 => h9) rfl dX8_listInterfaces_46 ?_
          refine lv_iconst (v := 1) hx hb dX8_listInterfaces_49 (by decide) ?_
          refine lv_iadd hx hb dX8_listInterfaces_50 ?_
          refine lv_topi (fun x48 e49 => ?_)
          refine p_put (v := .int x48) (ty := .int) (C := RX2) (Tc := TX2) (N := 13) (ci := 2) (K' := (kI K2 21 d0 x48)) hx hb hq pin_wsX20 tyX2 tyX2_ok nmX2 hown hE hP hD hS hO (by rw [hd2]; decide) (rep_4 hd2) rfl 6 (by decide) (hq _ pw_791) (fun _ h9 => h9) rfl (by decide +kernel) rfl rfl (Nat.le_of_ble_eq_true rfl) rfl (by rw [rep_4 (show (kI K2 21 d0 x48).1 d0 = 4 from hd2), pi_21] <;> rfl) (fun p9 hp9 => rep_kI hp9) dX8_listInterfaces_51 (fun H locs w hP hD hS hO => ?_)
          obtain ⟨K50, hK51⟩ : ∃ z : PK, z = (kI K2 21 d0 x48) := ⟨_, rfl⟩
          rw [← hK51] at hO
          have hf52 : K50.1 d0 = 4 := (by rw [hK51]; exact hd2)
          have hf53 : K50.2.1 21 d0 = x48 := by rw [hK51]; exact kI_eq
          have hwp54 : WPr G K50 g := by rw [hK51]; exact WPr.kI hwp2 (by decide)
          have hps55 : PgS G K50 g (a 1) pq dr ml nd nm cp it s9 := by rw [hK51]; exact PgS.kI hps2 (by decide)
          refine lv_iinc (v := (nI (i2 + 1))) (lv' := [(2, .int (nI (i2 + 1))), (1, .ref d0), (0, .ref (a 3))]) hx hb dX8_listInterfaces_54 hl (k := 0) rfl (nI_1 i2) (by decide) rfl (fun ls hl => ?_)
          refine lv_goto (tgt := 17) hx hb dX8_listInterfaces_57 (by decide) ?_
          refine W.widen (k := 0) (n := 0) (by show 0 ≤ _; omega) (by show 0 ≤ _; omega) ?_
          have hO : OKP G h0 a (upd (upd (upd (upd F 2 (nI sz)) 9 (nI ((at2 + r32) + 1))) 10 0) 11 0) (updR R 1 (.ref pq)) Z B J K50 w := hO.to rfl
          exact ih_i (i2 + 1) ((at2 + r32) + 1) K50 _ _ _ _ (by omega) (by omega) (by omega) hwp54 hps55 hf52 hP hD hS hO (lv_sub hl [0, 1, 2] rfl)
  refine W.widen (k := 0) (n := 0) (by show 0 ≤ _; omega) (by show 0 ≤ _; omega) ?_
  have hO : OKP G h0 a (upd (upd (upd (upd F 2 (nI sz)) 9 (nI (at9 + 1))) 10 0) 11 0) (updR R 1 (.ref pq)) Z B J K13 w := hO.to rfl
  exact loop_i (sz + 1) 0 (at9 + 1) K13 _ _ _ _ (by omega) (by omega) (by omega) hwp18 hps19 hf15 hP hD hS hO (lv_sub hl [0, 2, 1] rfl)
theorem dX8_declaration_0 : decode cX8_declaration 0 = .ok (.aload_n 0, 1) := by decide +kernel
theorem dX8_declaration_1 : decode cX8_declaration 1 = .ok (.bipush 14, 2) := by decide +kernel
theorem dX8_declaration_3 : decode cX8_declaration 3 = .ok (.invokevirtual 36, 3) := by decide +kernel
theorem dX8_declaration_6 : decode cX8_declaration 6 = .ok (.istore_n 1, 1) := by decide +kernel
theorem dX8_declaration_7 : decode cX8_declaration 7 = .ok (.iload_n 1, 1) := by decide +kernel
theorem dX8_declaration_8 : decode cX8_declaration 8 = .ok (.ifCond .ne 15, 3) := by decide +kernel
theorem dX8_declaration_23 : decode cX8_declaration 23 = .ok (.aload_n 0, 1) := by decide +kernel
theorem dX8_declaration_24 : decode cX8_declaration 24 = .ok (.getfield 13, 3) := by decide +kernel
theorem dX8_declaration_27 : decode cX8_declaration 27 = .ok (.invokevirtual 70, 3) := by decide +kernel
theorem dX8_declaration_30 : decode cX8_declaration 30 = .ok (.ifCond .eq 15, 3) := by decide +kernel
theorem dX8_declaration_45 : decode cX8_declaration 45 = .ok (.aload_n 0, 1) := by decide +kernel
theorem dX8_declaration_46 : decode cX8_declaration 46 = .ok (.dup, 1) := by decide +kernel
theorem dX8_declaration_47 : decode cX8_declaration 47 = .ok (.getfield 17, 3) := by decide +kernel
theorem dX8_declaration_50 : decode cX8_declaration 50 = .ok (.iconst 1, 1) := by decide +kernel
theorem dX8_declaration_51 : decode cX8_declaration 51 = .ok (.iadd, 1) := by decide +kernel
theorem dX8_declaration_52 : decode cX8_declaration 52 = .ok (.putfield 17, 3) := by decide +kernel
theorem dX8_declaration_55 : decode cX8_declaration 55 = .ok (.aload_n 0, 1) := by decide +kernel
theorem dX8_declaration_56 : decode cX8_declaration 56 = .ok (.getfield 13, 3) := by decide +kernel
theorem dX8_declaration_59 : decode cX8_declaration 59 = .ok (.aload_n 0, 1) := by decide +kernel
theorem dX8_declaration_60 : decode cX8_declaration 60 = .ok (.bipush 65, 2) := by decide +kernel
theorem dX8_declaration_62 : decode cX8_declaration 62 = .ok (.invokevirtual 53, 3) := by decide +kernel
theorem dX8_declaration_65 : decode cX8_declaration 65 = .ok (.iload_n 1, 1) := by decide +kernel
theorem dX8_declaration_66 : decode cX8_declaration 66 = .ok (.invokevirtual 76, 3) := by decide +kernel
theorem dX8_declaration_69 : decode cX8_declaration 69 = .ok (.astore_n 2, 1) := by decide +kernel
theorem dX8_declaration_70 : decode cX8_declaration 70 = .ok (.iload_n 1, 1) := by decide +kernel
theorem dX8_declaration_71 : decode cX8_declaration 71 = .ok (.ifCond .ne 22, 3) := by decide +kernel
theorem dX8_declaration_93 : decode cX8_declaration 93 = .ok (.aload_n 0, 1) := by decide +kernel
theorem dX8_declaration_94 : decode cX8_declaration 94 = .ok (.iload_n 1, 1) := by decide +kernel
theorem dX8_declaration_95 : decode cX8_declaration 95 = .ok (.ifCond .eq 8, 3) := by decide +kernel
theorem dX8_declaration_103 : decode cX8_declaration 103 = .ok (.bipush 12, 2) := by decide +kernel
theorem dX8_declaration_105 : decode cX8_declaration 105 = .ok (.invokevirtual 80, 3) := by decide +kernel
theorem dX8_declaration_108 : decode cX8_declaration 108 = .ok (.ifCond .eq 8, 3) := by decide +kernel
theorem dX8_declaration_116 : decode cX8_declaration 116 = .ok (.aload_n 0, 1) := by decide +kernel
theorem dX8_declaration_117 : decode cX8_declaration 117 = .ok (.bipush 32, 2) := by decide +kernel
theorem dX8_declaration_119 : decode cX8_declaration 119 = .ok (.invokevirtual 53, 3) := by decide +kernel
theorem dX8_declaration_122 : decode cX8_declaration 122 = .ok (.pop, 1) := by decide +kernel
theorem dX8_declaration_123 : decode cX8_declaration 123 = .ok (.aload_n 2, 1) := by decide +kernel
theorem dX8_declaration_124 : decode cX8_declaration 124 = .ok (.areturn, 1) := by decide +kernel
theorem dX8_declaration_111 : decode cX8_declaration 111 = .ok (.aload_n 0, 1) := by decide +kernel
theorem dX8_declaration_112 : decode cX8_declaration 112 = .ok (.aload_n 2, 1) := by decide +kernel
theorem dX8_declaration_113 : decode cX8_declaration 113 = .ok (.invokevirtual 86, 3) := by decide +kernel
theorem dX8_declaration_98 : decode cX8_declaration 98 = .ok (.bipush 7, 2) := by decide +kernel
theorem dX8_declaration_100 : decode cX8_declaration 100 = .ok (.goto 5, 3) := by decide +kernel
theorem dX8_declaration_74 : decode cX8_declaration 74 = .ok (.aload_n 0, 1) := by decide +kernel
theorem dX8_declaration_75 : decode cX8_declaration 75 = .ok (.bipush 7, 2) := by decide +kernel
theorem dX8_declaration_77 : decode cX8_declaration 77 = .ok (.invokevirtual 80, 3) := by decide +kernel
theorem dX8_declaration_80 : decode cX8_declaration 80 = .ok (.ifCond .eq 13, 3) := by decide +kernel
theorem dX8_declaration_83 : decode cX8_declaration 83 = .ok (.aload_n 2, 1) := by decide +kernel
theorem dX8_declaration_84 : decode cX8_declaration 84 = .ok (.aload_n 0, 1) := by decide +kernel
theorem dX8_declaration_85 : decode cX8_declaration 85 = .ok (.bipush 65, 2) := by decide +kernel
theorem dX8_declaration_87 : decode cX8_declaration 87 = .ok (.invokevirtual 53, 3) := by decide +kernel
theorem dX8_declaration_90 : decode cX8_declaration 90 = .ok (.putfield 83, 3) := by decide +kernel
theorem dX8_declaration_33 : decode cX8_declaration 33 = .ok (.aload_n 0, 1) := by decide +kernel
theorem dX8_declaration_34 : decode cX8_declaration 34 = .ok (.getfield 7, 3) := by decide +kernel
theorem dX8_declaration_37 : decode cX8_declaration 37 = .ok (.iconst 2, 1) := by decide +kernel
theorem dX8_declaration_38 : decode cX8_declaration 38 = .ok (.aload_n 0, 1) := by decide +kernel
theorem dX8_declaration_39 : decode cX8_declaration 39 = .ok (.getfield 17, 3) := by decide +kernel
theorem dX8_declaration_42 : decode cX8_declaration 42 = .ok (.invokevirtual 60, 3) := by decide +kernel
theorem dX8_declaration_11 : decode cX8_declaration 11 = .ok (.aload_n 0, 1) := by decide +kernel
theorem dX8_declaration_12 : decode cX8_declaration 12 = .ok (.iconst 4, 1) := by decide +kernel
theorem dX8_declaration_13 : decode cX8_declaration 13 = .ok (.invokevirtual 36, 3) := by decide +kernel
theorem dX8_declaration_16 : decode cX8_declaration 16 = .ok (.ifCond .ne 7, 3) := by decide +kernel
theorem dX8_declaration_19 : decode cX8_declaration 19 = .ok (.aload_n 0, 1) := by decide +kernel
theorem dX8_declaration_20 : decode cX8_declaration 20 = .ok (.invokevirtual 67, 3) := by decide +kernel
theorem hV_X9_isFull : yX9_isFull.cls = RX9 ∧ yX9_isFull.cls ≠ "java/lang/invoke/MethodHandle" ∧ yX9_isFull.cls ≠ "java/lang/invoke/VarHandle" ∧ (parseMethodDescriptor yX9_isFull.desc).map (fun d => d.parameters.length) = some 0 := by decide +kernel
theorem hV_X9_addDecl : yX9_addDecl.cls = RX9 ∧ yX9_addDecl.cls ≠ "java/lang/invoke/MethodHandle" ∧ yX9_addDecl.cls ≠ "java/lang/invoke/VarHandle" ∧ (parseMethodDescriptor yX9_addDecl.desc).map (fun d => d.parameters.length) = some 2 := by decide +kernel
theorem hV_X8_listInterfaces : yX8_listInterfaces.cls = RX8 ∧ yX8_listInterfaces.cls ≠ "java/lang/invoke/MethodHandle" ∧ yX8_listInterfaces.cls ≠ "java/lang/invoke/VarHandle" ∧ (parseMethodDescriptor yX8_listInterfaces.desc).map (fun d => d.parameters.length) = some 1 := by decide +kernel
set_option maxHeartbeats 16000000 in
set_option maxRecDepth 100000 in
theorem P_declaration (l : Launch) (G : pT) (h0 : Nat) (a : Nat → Nat) (F : Nat → Int32) (R : Nat → Value) (Z : Int64) (B : Nat → Nat → Int32) (J : Nat → Nat → Int64) (K : PK) (w : va_W) (pq : Nat) (dr : Nat) (ml : Nat) (nd : Nat) (nm : Nat) (cp : Nat) (it : Nat → Nat) (s9 : Nat) (at9 : Nat) (sz : Nat) (g : Nat → Nat → Nat) (hsz : sz ≤ 5000) (hat : at9 ≤ sz) (hwp : WPr G K g) (hps : PgS G K g (a 1) pq dr ml nd nm cp it s9) (hO : OKP G h0 a (upd (upd (upd (upd F 2 (nI sz)) 9 (nI at9)) 10 0) 11 0) (updR R 1 (.ref pq)) Z B J K w) (hl0 : l.stackTraces = false) : PBn l G pX0 yX8_declaration cX8_declaration 3 (some (.object "JinjaTongue$Decl")) ({ frames := 9, cells := 6, slots := 31, locals := 167 }) [.ref (a 3)] w (fun (v : Option Value) (u : va_W × (PK × (Nat → Nat → Nat) × Nat × Nat × Nat)) => v = some (.ref u.2.2.2.1) ∧ (WPr G u.2.1 u.2.2.1) ∧ (PgS G u.2.1 u.2.2.1 (a 1) pq dr ml u.2.2.2.2.2 nm cp it s9) ∧ (u.2.1.1 u.2.2.2.1 = 4) ∧ (at9 + 3 ≤ u.2.2.2.2.1 ∧ u.2.2.2.2.1 ≤ sz) ∧ (OKP G h0 a (upd (upd (upd (upd F 2 (nI sz)) 9 (nI u.2.2.2.2.1)) 10 0) 11 0) (updR R 1 (.ref pq)) Z B J u.2.1 u.1)) (fun u => u.1) (fun (u : va_W × (PK × (Nat → Nat → Nat) × Nat × Nat × Nat)) => 5) (fun (u : va_W × (PK × (Nat → Nat → Nat) × Nat × Nat × Nat)) => 25) (fun (u : va_W × (Nat → Int32) × (Nat → Value) × (Nat → Nat → Int32)) => ThQ G h0 a (upd (upd (upd (upd F 2 (nI sz)) 9 (nI at9)) 10 0) 11 0) Z B J u) (fun u => u.1) := by
  intro sz
  refine vx_ofW (cc := cX8_declaration) (maxL := 3) (ret := (some (.object "JinjaTongue$Decl"))) (by decide) rfl ?_
  intro p e s m args below meth c s₁ B9 hml hnt hv
  obtain ⟨rfl, hsz, hP, hD0, hE, hX⟩ := hv
  have hx := B9.exec
  have hb := B9.bytes
  have hr := B9.returns
  have hts := atoms_spec (ws := Cond.code yX8_declaration cX8_declaration 3 (some (.object "JinjaTongue$Decl")) :: pw) B9.pre
  have hq : ∀ w ∈ pw, w.before _ s = true := fun w h => hts w (List.mem_cons_of_mem _ h)
  have hown : s.vm.findClass RX8 = some m.cls := findClass_of_methodNamed B9.named
  have hlocks := B9.notSynchronized
  subst hsz
  have hD := hD0.self (sz := s.heap.size)
  have hA : ∀ q : Nat, s.heap.size ≤ q → va_A w s.heap.size q := fun q h => Or.inr h
  generalize va_A w s.heap.size = A at hD hE hA ⊢
  have hS : va_S A s.heap s.heap [] := va_S.rf
  have hl := lv_entry ([.ref (a 3)]) (n := 3) (Nat.le_of_ble_eq_true rfl)
  rw [lg_entry_eq]
  generalize (lg_sl ([.ref (a 3)]) ++ List.replicate (3 - (lg_sl ([.ref (a 3)])).length) Slot.unset).toArray = ls at hl ⊢
  have hl : lv_has ls 3 [(0, .ref (a 3))] := hl
  have hp1 := hps.1.1
  have hp2 := hps.1.2.1
  have hp3 := hps.1.2.2.1
  have hp4 := hps.1.2.2.2.1
  have hp5 := hps.1.2.2.2.2.1
  have hp6 := hps.1.2.2.2.2.2.1
  have hp8 := hps.1.2.2.2.2.2.2.2.1
  have hp9 := hps.1.2.2.2.2.2.2.2.2
  refine lv_aload_n hx hb dX8_declaration_0 rfl (lv_at hl 0 rfl) ?_
  refine lv_bipush (v := 14) hx hb dX8_declaration_1 (by decide) ?_
  have hO : OKW G h0 a (upd (upd (upd (upd (upd (upd F 2 (nI sz)) 9 (nI at9)) 10 0) 11 0) 2 (nI sz)) 9 (nI at9)) (updR R 1 (.ref pq)) Z B J K.1 (fun q99 x99 => x99 = rep G a K q99) w := hO.to rfl
  obtain ⟨_, qr4, hqr5⟩ := hO.2.1 23 _ (sg_23 G h0 a _ _ _ _ _)
  refine pc_V0 (G := G) (As := [.int 14]) (rest := []) hx hb hml hown hq hE hX pX0_al hP hD hS hA hl.1 (P_seesT l G h0 a (upd (upd (upd (upd F 2 (nI sz)) 9 (nI at9)) 10 0) 11 0) (updR R 1 (.ref pq)) Z B J K.1 (fun q99 x99 => x99 = rep G a K q99) w 14 at9 sz (by omega) (by omega) (by decide) hO) (gV pw_803 pw_804 pw_805 pw_796 pw_775) hV_X8_sees qr4 5 hqr5 rfl rfl rfl (Nat.le_of_ble_eq_true rfl) dX8_declaration_3 ⟨(by show 0 + 0 ≤ 6; omega), (by show 0 + 0 ≤ 31; omega)⟩ ⟨Nat.le_of_ble_eq_true rfl, Nat.le_of_ble_eq_true rfl⟩ (fun v3 u1 H locs hw2 hP hD hS => ?_)
  obtain ⟨w, r6⟩ := u1
  obtain ⟨hw2, h7, h8, hO⟩ := hw2
  have h7 : r6 ≤ 1 := h7
  have h8 : at9 + r6 ≤ sz := h8
  obtain rfl : v3 = some (.int (nI r6)) := hw2
  have hO : OKP G h0 a (upd (upd (upd (upd F 2 (nI sz)) 9 (nI at9)) 10 0) 11 0) (updR R 1 (.ref pq)) Z B J K w := hO.to rfl
  refine W.widen (k := 0) (n := 0) (Nat.le_of_ble_eq_true rfl) (Nat.le_of_ble_eq_true rfl) ?_
  refine W.eq (g2 := F0 m 6 ls [.int (nI r6)]) rfl ?_
  refine lv_istore_n (lv' := [(1, .int (nI r6)), (0, .ref (a 3))]) hx hb dX8_declaration_6 rfl hl (by decide) rfl (fun ls hl => ?_)
  refine lv_iload_n hx hb dX8_declaration_7 rfl (lv_at hl 0 rfl) ?_
  refine lv_if_ne (tgt := 23) hx hb dX8_declaration_8 (by decide) (fun c9 => ?_) (fun c9 => ?_)
  · have n10 : ¬ (r6 = 0) := fun h9 => c9 ((nI_eq (a := r6) (b := 0) (by omega) (by omega)).mpr h9)
    refine lv_aload_n hx hb dX8_declaration_23 rfl (lv_at hl 1 rfl) ?_
    refine c_get (v := .ref pq) (C := RX8) (Tc := TX8) (N := 5) (ci := 5) hx hb hq pin_wsX80 hown hE hP hO 23 (sg_23 G h0 a _ _ _ _ _) rfl 1 (by decide) (hq _ pw_801) (fun _ h9 => h9) rfl dX8_declaration_24 ?_
    have hO : OKP G h0 a (upd (upd (upd (upd F 2 (nI sz)) 9 (nI at9)) 10 0) 11 0) (updR R 1 (.ref pq)) Z B J K w := hO.to rfl
    obtain ⟨qr14, hqr15⟩ := p_recv hO (by rw [hp1]; decide) (rep_7 hp1)
    refine pc_V0 (G := G) (As := []) (rest := []) hx hb hml hown hq hE hX pX0_al hP hD hS hA hl.1 (G_isFull l G h0 a (upd (upd (upd (upd F 2 (nI sz)) 9 (nI at9)) 10 0) 11 0) (updR R 1 (.ref pq)) Z B J K w pq dr ml nd g hps.1 hO) (gV pw_809 pw_810 pw_811 pw_106 pw_780) hV_X9_isFull qr14 6 hqr15 rfl rfl rfl (Nat.le_of_ble_eq_true rfl) dX8_declaration_27 ⟨(by show 0 + 0 ≤ 6; omega), (by show 0 + 0 ≤ 31; omega)⟩ ⟨Nat.le_of_ble_eq_true rfl, Nat.le_of_ble_eq_true rfl⟩ (fun v13 u11 H locs hw12 hP hD hS => ?_)
    obtain ⟨w, r16⟩ := u11
    obtain ⟨hw12, h17, h18, hO⟩ := hw12
    have h17 : r16 ≤ 1 := h17
    have h18 : nd + 1 ≤ 37 + r16 := h18
    obtain rfl : v13 = some (.int (nI r16)) := hw12
    have hO : OKP G h0 a (upd (upd (upd (upd F 2 (nI sz)) 9 (nI at9)) 10 0) 11 0) (updR R 1 (.ref pq)) Z B J K w := hO.to rfl
    refine W.widen (k := 0) (n := 0) (Nat.le_of_ble_eq_true rfl) (Nat.le_of_ble_eq_true rfl) ?_
    refine W.eq (g2 := F0 m 30 ls [.int (nI r16)]) rfl ?_
    refine lv_if_eq (tgt := 45) hx hb dX8_declaration_30 (by decide) (fun c19 => ?_) (fun c19 => ?_)
    · have n20 : r16 = 0 := (nI_eq (a := r16) (b := 0) (by omega) (by omega)).mp c19
      refine lv_aload_n hx hb dX8_declaration_45 rfl (lv_at hl 1 rfl) ?_
      refine lv_dup hx hb dX8_declaration_46 rfl ?_
      refine c_get (v := .int (nI at9)) (C := RX8) (Tc := TX8) (N := 5) (ci := 5) hx hb hq pin_wsX80 hown hE hP hO 23 (sg_23 G h0 a _ _ _ _ _) rfl 2 (by decide) (hq _ pw_776) (fun _ h9 => h9) rfl dX8_declaration_47 ?_
      refine lv_iconst (v := 1) hx hb dX8_declaration_50 (by decide) ?_
      refine lv_iadd hx hb dX8_declaration_51 ?_
      refine lv_topi (fun x21 e22 => ?_)
      obtain rfl : x21 = nI (at9 + 1) := e22.trans (nI_add (at9) (1))
      refine c_put (v := .int (nI (at9 + 1))) (ty := .int) (C := RX8) (Tc := TX8) (N := 5) (ci := 5) hx hb hq pin_wsX80 tyX8 tyX8_ok nmX8 hown hE hP hD hS hO 23 (sg_23 G h0 a _ _ _ _ _) rfl 2 (by decide) (hq _ pw_776) (fun _ h9 => h9) rfl (by decide +kernel) rfl rfl (Nat.le_of_ble_eq_true rfl) (sf_9 G h0 a _ _ _ _ _ (nI (at9 + 1))) dX8_declaration_52 (fun H locs w hP hD hS hO => ?_)
      refine lv_aload_n hx hb dX8_declaration_55 rfl (lv_at hl 1 rfl) ?_
      refine c_get (v := .ref pq) (C := RX8) (Tc := TX8) (N := 5) (ci := 5) hx hb hq pin_wsX80 hown hE hP hO 23 (sg_23 G h0 a _ _ _ _ _) rfl 1 (by decide) (hq _ pw_801) (fun _ h9 => h9) rfl dX8_declaration_56 ?_
      refine lv_aload_n hx hb dX8_declaration_59 rfl (lv_at hl 1 rfl) ?_
      refine lv_bipush (v := 65) hx hb dX8_declaration_60 (by decide) ?_
      have hO : OKW G h0 a (upd (upd (upd (upd (upd (upd (upd F 2 (nI sz)) 9 (nI at9)) 10 0) 11 0) 9 (nI (at9 + 1))) 2 (nI sz)) 9 (nI (at9 + 1))) (updR R 1 (.ref pq)) Z B J K.1 (fun q99 x99 => x99 = rep G a K q99) w := hO.to rfl
      obtain ⟨_, qr26, hqr27⟩ := hO.2.1 23 _ (sg_23 G h0 a _ _ _ _ _)
      refine pn_V0 (G := G) (As := [.int 65]) (rest := [.ref pq]) hx hb hml hown hq hE hX pX0_al hP hD hS hA hl.1 (P_take l G h0 a (upd (upd (upd (upd (upd F 2 (nI sz)) 9 (nI at9)) 10 0) 11 0) 9 (nI (at9 + 1))) (updR R 1 (.ref pq)) Z B J K.1 (fun q99 x99 => x99 = rep G a K q99) w 65 (at9 + 1) sz (by omega) (by omega) (by decide) hO hl0) (gV pw_793 pw_794 pw_795 pw_796 pw_781) hV_X8_take qr26 5 hqr27 rfl rfl rfl (Nat.le_of_ble_eq_true rfl) dX8_declaration_62 ⟨(by show 0 + 1 ≤ 6; omega), (by show 0 + 6 ≤ 31; omega)⟩ ⟨Nat.le_of_ble_eq_true rfl, Nat.le_of_ble_eq_true rfl⟩ (fun v25 u23 H locs hw24 hP hD hS => ?_) (fun ux ce9 q9 H9 locs9 hux hP9 hD9 hS9 hce hcv hcl => pb_out ux (ThQ.up (Thx.same (Thx.same (Thx.f Thx.rfl (by omega)) rfl) rfl) hux) hnt hlocks hce hcv hcl hP9 hD9 hS9 (by show 0 + 1 ≤ 6; omega) (by show 0 + 6 ≤ 31; omega))
      obtain ⟨w, _⟩ := u23
      obtain ⟨hw24, h28, hO⟩ := hw24
      have h28 : (at9 + 1) + 1 ≤ sz := h28
      obtain rfl : v25 = some (.int (nI (at9 + 1))) := hw24
      have hO : OKP G h0 a (upd (upd (upd (upd F 2 (nI sz)) 9 (nI ((at9 + 1) + 1))) 10 0) 11 0) (updR R 1 (.ref pq)) Z B J K w := hO.to rfl
      refine W.widen (k := 0) (n := 0) (by show 0 + 0 ≤ 0; omega) (by show 0 + 0 ≤ 0; omega) ?_
      refine W.eq (g2 := F0 m 65 ls [.int (nI (at9 + 1)), .ref pq]) rfl ?_
      refine lv_iload_n hx hb dX8_declaration_65 rfl (lv_at hl 0 rfl) ?_
      have hO : OKP G h0 a (upd (upd (upd (upd (upd F 2 (nI sz)) 9 (nI ((at9 + 1) + 1))) 10 0) 11 0) 2 (nI sz)) (updR R 1 (.ref pq)) Z B J K w := hO.to rfl
      obtain ⟨qr32, hqr33⟩ := p_recv hO (by rw [hp1]; decide) (rep_7 hp1)
      refine pc_V0 (G := G) (As := [.int (nI (at9 + 1)), .int (nI r6)]) (rest := []) hx hb hml hown hq hE hX pX0_al hP hD hS hA hl.1 (G_addDecl l G h0 a (upd (upd (upd (upd F 2 (nI sz)) 9 (nI ((at9 + 1) + 1))) 10 0) 11 0) (updR R 1 (.ref pq)) Z B J K w pq dr ml nd nm cp it s9 (nI (at9 + 1)) r6 sz g (by omega) hwp hps (by omega) (by omega) hO) (gV pw_812 pw_813 pw_814 pw_106 pw_788) hV_X9_addDecl qr32 6 hqr33 rfl rfl rfl (Nat.le_of_ble_eq_true rfl) dX8_declaration_66 ⟨(by show 0 + 5 ≤ 6; omega), (by show 0 + 25 ≤ 31; omega)⟩ ⟨Nat.le_of_ble_eq_true rfl, Nat.le_of_ble_eq_true rfl⟩ (fun v31 u29 H locs hw30 hP hD hS => ?_)
      obtain ⟨w, r34, K35, g36⟩ := u29
      obtain ⟨hw30, h37, h38, h39, hO⟩ := hw30
      have h37 : WPr G K35 g36 := h37
      have h38 : PgS G K35 g36 (a 1) pq dr ml (nd + 1) nm cp it s9 := h38
      have h39 : K35.1 r34 = 4 := h39
      obtain rfl : v31 = some (.ref r34) := hw30
      have hO : OKP G h0 a (upd (upd (upd (upd F 2 (nI sz)) 9 (nI ((at9 + 1) + 1))) 10 0) 11 0) (updR R 1 (.ref pq)) Z B J K35 w := hO.to rfl
      refine W.widen (k := 5) (n := 25) (by show 0 + 5 ≤ 5; omega) (by show 0 + 25 ≤ 25; omega) ?_
      refine W.eq (g2 := F0 m 69 ls [.ref r34]) rfl ?_
      refine lv_astore_n (lv' := [(2, .ref r34), (1, .int (nI r6)), (0, .ref (a 3))]) hx hb dX8_declaration_69 rfl hl (by decide) rfl (fun ls hl => ?_)
      refine lv_iload_n hx hb dX8_declaration_70 rfl (lv_at hl 1 rfl) ?_
      refine lv_if_ne (tgt := 93) hx hb dX8_declaration_71 (by decide) (fun c40 => ?_) (fun c40 => ?_)
      · have n41 : ¬ (r6 = 0) := fun h9 => c40 ((nI_eq (a := r6) (b := 0) (by omega) (by omega)).mpr h9)
        refine lv_aload_n hx hb dX8_declaration_93 rfl (lv_at hl 2 rfl) ?_
        refine lv_iload_n hx hb dX8_declaration_94 rfl (lv_at hl 1 rfl) ?_
        refine lv_if_eq (tgt := 103) hx hb dX8_declaration_95 (by decide) (fun c42 => ?_) (fun c42 => ?_)
        · have n43 : r6 = 0 := (nI_eq (a := r6) (b := 0) (by omega) (by omega)).mp c42
          refine lv_bipush (v := 12) hx hb dX8_declaration_103 (by decide) ?_
          have hO : OKW G h0 a (upd (upd (upd (upd (upd (upd F 2 (nI sz)) 9 (nI ((at9 + 1) + 1))) 10 0) 11 0) 2 (nI sz)) 9 (nI ((at9 + 1) + 1))) (updR R 1 (.ref pq)) Z B J K35.1 (fun q99 x99 => x99 = rep G a K35 q99) w := hO.to rfl
          obtain ⟨_, qr47, hqr48⟩ := hO.2.1 23 _ (sg_23 G h0 a _ _ _ _ _)
          refine pc_V0 (G := G) (As := [.int 12]) (rest := []) hx hb hml hown hq hE hX pX0_al hP hD hS hA hl.1 (P_takeIf l G h0 a (upd (upd (upd (upd F 2 (nI sz)) 9 (nI ((at9 + 1) + 1))) 10 0) 11 0) (updR R 1 (.ref pq)) Z B J K35.1 (fun q99 x99 => x99 = rep G a K35 q99) w 12 ((at9 + 1) + 1) sz (by omega) (by omega) (by decide) hO) (gV pw_797 pw_798 pw_799 pw_796 pw_789) hV_X8_takeIf qr47 5 hqr48 rfl rfl rfl (Nat.le_of_ble_eq_true rfl) dX8_declaration_105 ⟨(by show 5 + 0 ≤ 6; omega), (by show 25 + 0 ≤ 31; omega)⟩ ⟨Nat.le_of_ble_eq_true rfl, Nat.le_of_ble_eq_true rfl⟩ (fun v46 u44 H locs hw45 hP hD hS => ?_)
          obtain ⟨w, r49⟩ := u44
          obtain ⟨hw45, h50, h51, hO⟩ := hw45
          have h50 : r49 ≤ 1 := h50
          have h51 : ((at9 + 1) + 1) + r49 ≤ sz := h51
          obtain rfl : v46 = some (.int (nI r49)) := hw45
          have hO : OKP G h0 a (upd (upd (upd (upd F 2 (nI sz)) 9 (nI (((at9 + 1) + 1) + r49))) 10 0) 11 0) (updR R 1 (.ref pq)) Z B J K35 w := hO.to rfl
          refine W.widen (k := 5) (n := 25) (by show 5 + 0 ≤ 5; omega) (by show 25 + 0 ≤ 25; omega) ?_
          refine W.eq (g2 := F0 m 108 ls [.int (nI r49)]) rfl ?_
          refine lv_if_eq (tgt := 116) hx hb dX8_declaration_108 (by decide) (fun c52 => ?_) (fun c52 => ?_)
          · have n53 : r49 = 0 := (nI_eq (a := r49) (b := 0) (by omega) (by omega)).mp c52
            refine lv_aload_n hx hb dX8_declaration_116 rfl (lv_at hl 2 rfl) ?_
            refine lv_bipush (v := 32) hx hb dX8_declaration_117 (by decide) ?_
            have hO : OKW G h0 a (upd (upd (upd (upd (upd (upd (upd F 2 (nI sz)) 9 (nI at9)) 10 0) 11 0) 9 (nI (((at9 + 1) + 1) + r49))) 2 (nI sz)) 9 (nI (((at9 + 1) + 1) + r49))) (updR R 1 (.ref pq)) Z B J K35.1 (fun q99 x99 => x99 = rep G a K35 q99) w := hO.to rfl
            obtain ⟨_, qr57, hqr58⟩ := hO.2.1 23 _ (sg_23 G h0 a _ _ _ _ _)
            refine pn_V0 (G := G) (As := [.int 32]) (rest := []) hx hb hml hown hq hE hX pX0_al hP hD hS hA hl.1 (P_take l G h0 a (upd (upd (upd (upd (upd F 2 (nI sz)) 9 (nI at9)) 10 0) 11 0) 9 (nI (((at9 + 1) + 1) + r49))) (updR R 1 (.ref pq)) Z B J K35.1 (fun q99 x99 => x99 = rep G a K35 q99) w 32 (((at9 + 1) + 1) + r49) sz (by omega) (by omega) (by decide) hO hl0) (gV pw_793 pw_794 pw_795 pw_796 pw_781) hV_X8_take qr57 5 hqr58 rfl rfl rfl (Nat.le_of_ble_eq_true rfl) dX8_declaration_119 ⟨(by show 5 + 1 ≤ 6; omega), (by show 25 + 6 ≤ 31; omega)⟩ ⟨Nat.le_of_ble_eq_true rfl, Nat.le_of_ble_eq_true rfl⟩ (fun v56 u54 H locs hw55 hP hD hS => ?_) (fun ux ce9 q9 H9 locs9 hux hP9 hD9 hS9 hce hcv hcl => pb_out ux (ThQ.up (Thx.same (Thx.same (Thx.f Thx.rfl (by omega)) rfl) rfl) hux) hnt hlocks hce hcv hcl hP9 hD9 hS9 (by show 5 + 1 ≤ 6; omega) (by show 25 + 6 ≤ 31; omega))
            obtain ⟨w, _⟩ := u54
            obtain ⟨hw55, h59, hO⟩ := hw55
            have h59 : (((at9 + 1) + 1) + r49) + 1 ≤ sz := h59
            obtain rfl : v56 = some (.int (nI (((at9 + 1) + 1) + r49))) := hw55
            have hO : OKP G h0 a (upd (upd (upd (upd F 2 (nI sz)) 9 (nI ((((at9 + 1) + 1) + r49) + 1))) 10 0) 11 0) (updR R 1 (.ref pq)) Z B J K35 w := hO.to rfl
            refine W.widen (k := 5) (n := 25) (by show 5 + 0 ≤ 5; omega) (by show 25 + 0 ≤ 25; omega) ?_
            refine W.eq (g2 := F0 m 122 ls [.int (nI (((at9 + 1) + 1) + r49))]) rfl ?_
            refine lv_pop hx hb dX8_declaration_122 rfl ?_
            refine lv_aload_n hx hb dX8_declaration_123 rfl (lv_at hl 0 rfl) ?_
            refine W_size (fun hz1 hz2 => ?_)
            refine vx_ret ?_
            have hz60 : WPr G K35 g36 := h37
            have hz61 : PgS G K35 g36 (a 1) pq dr ml (nd + 1) nm cp it s9 := h38
            have hz62 : K35.1 r34 = 4 := h39
            have hz63 : at9 + 3 ≤ ((((at9 + 1) + 1) + r49) + 1) ∧ ((((at9 + 1) + 1) + r49) + 1) ≤ sz := (by omega)
            have hO : OKP G h0 a (upd (upd (upd (upd F 2 (nI sz)) 9 (nI ((((at9 + 1) + 1) + r49) + 1))) 10 0) 11 0) (updR R 1 (.ref pq)) Z B J K35 w := hO.to rfl
            refine W.widen (k := 6) (n := 31) (by omega) (by omega) ?_
            have hzz1 : H.size ≤ s.heap.size + (5) := (by have z : 5 ≤ 5 := (by omega); omega)
            have hzz2 : hSl H ≤ hSl s.heap + (25) := (by have z : 25 ≤ 25 := (by omega); omega)
            exact W.aret (v := .ref r34) hx hb hr (Or.inl ⟨_, rfl⟩) (Or.inr ⟨_, rfl⟩) (fun t99 ht99 hW99 => ⟨⟨_, (w, (K35, g36, r34, ((((at9 + 1) + 1) + r49) + 1), (nd + 1))), rfl, ⟨rfl, hz60, hz61, hz62, hz63, hO⟩, by rw [ht99]; exact hP, hD, by rw [ht99]; exact hzz1, by rw [ht99]; exact hzz2⟩, hS.F ht99⟩) hS.2.2 dX8_declaration_124
          · have n64 : ¬ (r49 = 0) := fun h9 => c52 ((nI_eq (a := r49) (b := 0) (by omega) (by omega)).mpr h9)
            refine lv_aload_n hx hb dX8_declaration_111 rfl (lv_at hl 2 rfl) ?_
            refine lv_aload_n hx hb dX8_declaration_112 rfl (lv_at hl 0 rfl) ?_
            have hO : OKP G h0 a (upd (upd (upd (upd (upd (upd (upd (upd (upd F 2 (nI sz)) 9 (nI at9)) 10 0) 11 0) 9 (nI (((at9 + 1) + 1) + r49))) 2 (nI sz)) 9 (nI (((at9 + 1) + 1) + r49))) 10 0) 11 0) (updR (updR R 1 (.ref pq)) 1 (.ref pq)) Z B J K35 w := hO.to rfl
            obtain ⟨_, qr68, hqr69⟩ := hO.2.1 23 _ (sg_23 G h0 a _ _ _ _ _)
            refine pn_V0 (G := G) (As := [.ref r34]) (rest := []) hx hb hml hown hq hE hX pX0_al hP hD hS hA hl.1 (P_listI l G h0 a (upd (upd (upd (upd (upd F 2 (nI sz)) 9 (nI at9)) 10 0) 11 0) 9 (nI (((at9 + 1) + 1) + r49))) (updR R 1 (.ref pq)) Z B J K35 w pq dr ml (nd + 1) nm cp it s9 r34 (((at9 + 1) + 1) + r49) sz g36 (by omega) (by omega) h37 h38 h39 hO hl0) (gV pw_815 pw_816 pw_817 pw_796 pw_800) hV_X8_listInterfaces qr68 5 hqr69 rfl rfl rfl (Nat.le_of_ble_eq_true rfl) dX8_declaration_113 ⟨(by show 5 + 1 ≤ 6; omega), (by show 25 + 6 ≤ 31; omega)⟩ ⟨Nat.le_of_ble_eq_true rfl, Nat.le_of_ble_eq_true rfl⟩ (fun v67 u65 H locs hw66 hP hD hS => ?_) (fun ux ce9 q9 H9 locs9 hux hP9 hD9 hS9 hce hcv hcl => pb_out ux (ThQ.up (Thx.same (Thx.same (Thx.same (Thx.same (Thx.f Thx.rfl (by omega)) rfl) rfl) rfl) rfl) hux) hnt hlocks hce hcv hcl hP9 hD9 hS9 (by show 5 + 1 ≤ 6; omega) (by show 25 + 6 ≤ 31; omega))
            obtain ⟨w, K70, g71, at72⟩ := u65
            obtain ⟨hw66, h73, h74, h75, h76, hO⟩ := hw66
            have h73 : WPr G K70 g71 := h73
            have h74 : PgS G K70 g71 (a 1) pq dr ml (nd + 1) nm cp it s9 := h74
            have h75 : K70.1 r34 = 4 := h75
            have h76 : (((at9 + 1) + 1) + r49) + 1 ≤ at72 ∧ at72 ≤ sz := h76
            obtain rfl : v67 = none := hw66
            have hO : OKP G h0 a (upd (upd (upd (upd F 2 (nI sz)) 9 (nI at72)) 10 0) 11 0) (updR R 1 (.ref pq)) Z B J K70 w := hO.to rfl
            refine W.widen (k := 5) (n := 25) (by show 5 + 0 ≤ 5; omega) (by show 25 + 0 ≤ 25; omega) ?_
            refine W.eq (g2 := F0 m 116 ls []) rfl ?_
            refine lv_aload_n hx hb dX8_declaration_116 rfl (lv_at hl 2 rfl) ?_
            refine lv_bipush (v := 32) hx hb dX8_declaration_117 (by decide) ?_
            have hO : OKW G h0 a (upd (upd (upd (upd (upd (upd (upd F 2 (nI sz)) 9 (nI at9)) 10 0) 11 0) 9 (nI at72)) 2 (nI sz)) 9 (nI at72)) (updR R 1 (.ref pq)) Z B J K70.1 (fun q99 x99 => x99 = rep G a K70 q99) w := hO.to rfl
            obtain ⟨_, qr80, hqr81⟩ := hO.2.1 23 _ (sg_23 G h0 a _ _ _ _ _)
            refine pn_V0 (G := G) (As := [.int 32]) (rest := []) hx hb hml hown hq hE hX pX0_al hP hD hS hA hl.1 (P_take l G h0 a (upd (upd (upd (upd (upd F 2 (nI sz)) 9 (nI at9)) 10 0) 11 0) 9 (nI at72)) (updR R 1 (.ref pq)) Z B J K70.1 (fun q99 x99 => x99 = rep G a K70 q99) w 32 at72 sz (by omega) (by omega) (by decide) hO hl0) (gV pw_793 pw_794 pw_795 pw_796 pw_781) hV_X8_take qr80 5 hqr81 rfl rfl rfl (Nat.le_of_ble_eq_true rfl) dX8_declaration_119 ⟨(by show 5 + 1 ≤ 6; omega), (by show 25 + 6 ≤ 31; omega)⟩ ⟨Nat.le_of_ble_eq_true rfl, Nat.le_of_ble_eq_true rfl⟩ (fun v79 u77 H locs hw78 hP hD hS => ?_) (fun ux ce9 q9 H9 locs9 hux hP9 hD9 hS9 hce hcv hcl => pb_out ux (ThQ.up (Thx.same (Thx.same (Thx.f Thx.rfl (by omega)) rfl) rfl) hux) hnt hlocks hce hcv hcl hP9 hD9 hS9 (by show 5 + 1 ≤ 6; omega) (by show 25 + 6 ≤ 31; omega))
            obtain ⟨w, _⟩ := u77
            obtain ⟨hw78, h82, hO⟩ := hw78
            have h82 : at72 + 1 ≤ sz := h82
            obtain rfl : v79 = some (.int (nI at72)) := hw78
            have hO : OKP G h0 a (upd (upd (upd (upd F 2 (nI sz)) 9 (nI (at72 + 1))) 10 0) 11 0) (updR R 1 (.ref pq)) Z B J K70 w := hO.to rfl
            refine W.widen (k := 5) (n := 25) (by show 5 + 0 ≤ 5; omega) (by show 25 + 0 ≤ 25; omega) ?_
            refine W.eq (g2 := F0 m 122 ls [.int (nI at72)]) rfl ?_
            refine lv_pop hx hb dX8_declaration_122 rfl ?_
            refine lv_aload_n hx hb dX8_declaration_123 rfl (lv_at hl 0 rfl) ?_
            refine W_size (fun hz1 hz2 => ?_)
            refine vx_ret ?_
            have hz83 : WPr G K70 g71 := h73
            have hz84 : PgS G K70 g71 (a 1) pq dr ml (nd + 1) nm cp it s9 := h74
            have hz85 : K70.1 r34 = 4 := h75
            have hz86 : at9 + 3 ≤ (at72 + 1) ∧ (at72 + 1) ≤ sz := (by omega)
            have hO : OKP G h0 a (upd (upd (upd (upd F 2 (nI sz)) 9 (nI (at72 + 1))) 10 0) 11 0) (updR R 1 (.ref pq)) Z B J K70 w := hO.to rfl
            refine W.widen (k := 6) (n := 31) (by omega) (by omega) ?_
            have hzz1 : H.size ≤ s.heap.size + (5) := (by have z : 5 ≤ 5 := (by omega); omega)
            have hzz2 : hSl H ≤ hSl s.heap + (25) := (by have z : 25 ≤ 25 := (by omega); omega)
            exact W.aret (v := .ref r34) hx hb hr (Or.inl ⟨_, rfl⟩) (Or.inr ⟨_, rfl⟩) (fun t99 ht99 hW99 => ⟨⟨_, (w, (K70, g71, r34, (at72 + 1), (nd + 1))), rfl, ⟨rfl, hz83, hz84, hz85, hz86, hO⟩, by rw [ht99]; exact hP, hD, by rw [ht99]; exact hzz1, by rw [ht99]; exact hzz2⟩, hS.F ht99⟩) hS.2.2 dX8_declaration_124
        · have n87 : ¬ (r6 = 0) := fun h9 => c42 ((nI_eq (a := r6) (b := 0) (by omega) (by omega)).mpr h9)
          refine lv_bipush (v := 7) hx hb dX8_declaration_98 (by decide) ?_
          refine lv_goto (tgt := 105) hx hb dX8_declaration_100 (by decide) ?_
          have hO : OKW G h0 a (upd (upd (upd (upd (upd (upd F 2 (nI sz)) 9 (nI ((at9 + 1) + 1))) 10 0) 11 0) 2 (nI sz)) 9 (nI ((at9 + 1) + 1))) (updR R 1 (.ref pq)) Z B J K35.1 (fun q99 x99 => x99 = rep G a K35 q99) w := hO.to rfl
          obtain ⟨_, qr91, hqr92⟩ := hO.2.1 23 _ (sg_23 G h0 a _ _ _ _ _)
          refine pc_V0 (G := G) (As := [.int 7]) (rest := []) hx hb hml hown hq hE hX pX0_al hP hD hS hA hl.1 (P_takeIf l G h0 a (upd (upd (upd (upd F 2 (nI sz)) 9 (nI ((at9 + 1) + 1))) 10 0) 11 0) (updR R 1 (.ref pq)) Z B J K35.1 (fun q99 x99 => x99 = rep G a K35 q99) w 7 ((at9 + 1) + 1) sz (by omega) (by omega) (by decide) hO) (gV pw_797 pw_798 pw_799 pw_796 pw_789) hV_X8_takeIf qr91 5 hqr92 rfl rfl rfl (Nat.le_of_ble_eq_true rfl) dX8_declaration_105 ⟨(by show 5 + 0 ≤ 6; omega), (by show 25 + 0 ≤ 31; omega)⟩ ⟨Nat.le_of_ble_eq_true rfl, Nat.le_of_ble_eq_true rfl⟩ (fun v90 u88 H locs hw89 hP hD hS => ?_)
          obtain ⟨w, r93⟩ := u88
          obtain ⟨hw89, h94, h95, hO⟩ := hw89
          have h94 : r93 ≤ 1 := h94
          have h95 : ((at9 + 1) + 1) + r93 ≤ sz := h95
          obtain rfl : v90 = some (.int (nI r93)) := hw89
          have hO : OKP G h0 a (upd (upd (upd (upd F 2 (nI sz)) 9 (nI (((at9 + 1) + 1) + r93))) 10 0) 11 0) (updR R 1 (.ref pq)) Z B J K35 w := hO.to rfl
          refine W.widen (k := 5) (n := 25) (by show 5 + 0 ≤ 5; omega) (by show 25 + 0 ≤ 25; omega) ?_
          refine W.eq (g2 := F0 m 108 ls [.int (nI r93)]) rfl ?_
          refine lv_if_eq (tgt := 116) hx hb dX8_declaration_108 (by decide) (fun c96 => ?_) (fun c96 => ?_)
          · have n97 : r93 = 0 := (nI_eq (a := r93) (b := 0) (by omega) (by omega)).mp c96
            refine lv_aload_n hx hb dX8_declaration_116 rfl (lv_at hl 2 rfl) ?_
            refine lv_bipush (v := 32) hx hb dX8_declaration_117 (by decide) ?_
            have hO : OKW G h0 a (upd (upd (upd (upd (upd (upd (upd F 2 (nI sz)) 9 (nI at9)) 10 0) 11 0) 9 (nI (((at9 + 1) + 1) + r93))) 2 (nI sz)) 9 (nI (((at9 + 1) + 1) + r93))) (updR R 1 (.ref pq)) Z B J K35.1 (fun q99 x99 => x99 = rep G a K35 q99) w := hO.to rfl
            obtain ⟨_, qr101, hqr102⟩ := hO.2.1 23 _ (sg_23 G h0 a _ _ _ _ _)
            refine pn_V0 (G := G) (As := [.int 32]) (rest := []) hx hb hml hown hq hE hX pX0_al hP hD hS hA hl.1 (P_take l G h0 a (upd (upd (upd (upd (upd F 2 (nI sz)) 9 (nI at9)) 10 0) 11 0) 9 (nI (((at9 + 1) + 1) + r93))) (updR R 1 (.ref pq)) Z B J K35.1 (fun q99 x99 => x99 = rep G a K35 q99) w 32 (((at9 + 1) + 1) + r93) sz (by omega) (by omega) (by decide) hO hl0) (gV pw_793 pw_794 pw_795 pw_796 pw_781) hV_X8_take qr101 5 hqr102 rfl rfl rfl (Nat.le_of_ble_eq_true rfl) dX8_declaration_119 ⟨(by show 5 + 1 ≤ 6; omega), (by show 25 + 6 ≤ 31; omega)⟩ ⟨Nat.le_of_ble_eq_true rfl, Nat.le_of_ble_eq_true rfl⟩ (fun v100 u98 H locs hw99 hP hD hS => ?_) (fun ux ce9 q9 H9 locs9 hux hP9 hD9 hS9 hce hcv hcl => pb_out ux (ThQ.up (Thx.same (Thx.same (Thx.f Thx.rfl (by omega)) rfl) rfl) hux) hnt hlocks hce hcv hcl hP9 hD9 hS9 (by show 5 + 1 ≤ 6; omega) (by show 25 + 6 ≤ 31; omega))
            obtain ⟨w, _⟩ := u98
            obtain ⟨hw99, h103, hO⟩ := hw99
            have h103 : (((at9 + 1) + 1) + r93) + 1 ≤ sz := h103
            obtain rfl : v100 = some (.int (nI (((at9 + 1) + 1) + r93))) := hw99
            have hO : OKP G h0 a (upd (upd (upd (upd F 2 (nI sz)) 9 (nI ((((at9 + 1) + 1) + r93) + 1))) 10 0) 11 0) (updR R 1 (.ref pq)) Z B J K35 w := hO.to rfl
            refine W.widen (k := 5) (n := 25) (by show 5 + 0 ≤ 5; omega) (by show 25 + 0 ≤ 25; omega) ?_
            refine W.eq (g2 := F0 m 122 ls [.int (nI (((at9 + 1) + 1) + r93))]) rfl ?_
            refine lv_pop hx hb dX8_declaration_122 rfl ?_
            refine lv_aload_n hx hb dX8_declaration_123 rfl (lv_at hl 0 rfl) ?_
            refine W_size (fun hz1 hz2 => ?_)
            refine vx_ret ?_
            have hz104 : WPr G K35 g36 := h37
            have hz105 : PgS G K35 g36 (a 1) pq dr ml (nd + 1) nm cp it s9 := h38
            have hz106 : K35.1 r34 = 4 := h39
            have hz107 : at9 + 3 ≤ ((((at9 + 1) + 1) + r93) + 1) ∧ ((((at9 + 1) + 1) + r93) + 1) ≤ sz := (by omega)
            have hO : OKP G h0 a (upd (upd (upd (upd F 2 (nI sz)) 9 (nI ((((at9 + 1) + 1) + r93) + 1))) 10 0) 11 0) (updR R 1 (.ref pq)) Z B J K35 w := hO.to rfl
            refine W.widen (k := 6) (n := 31) (by omega) (by omega) ?_
            have hzz1 : H.size ≤ s.heap.size + (5) := (by have z : 5 ≤ 5 := (by omega); omega)
            have hzz2 : hSl H ≤ hSl s.heap + (25) := (by have z : 25 ≤ 25 := (by omega); omega)
            exact W.aret (v := .ref r34) hx hb hr (Or.inl ⟨_, rfl⟩) (Or.inr ⟨_, rfl⟩) (fun t99 ht99 hW99 => ⟨⟨_, (w, (K35, g36, r34, ((((at9 + 1) + 1) + r93) + 1), (nd + 1))), rfl, ⟨rfl, hz104, hz105, hz106, hz107, hO⟩, by rw [ht99]; exact hP, hD, by rw [ht99]; exact hzz1, by rw [ht99]; exact hzz2⟩, hS.F ht99⟩) hS.2.2 dX8_declaration_124
          · have n108 : ¬ (r93 = 0) := fun h9 => c96 ((nI_eq (a := r93) (b := 0) (by omega) (by omega)).mpr h9)
            refine lv_aload_n hx hb dX8_declaration_111 rfl (lv_at hl 2 rfl) ?_
            refine lv_aload_n hx hb dX8_declaration_112 rfl (lv_at hl 0 rfl) ?_
            have hO : OKP G h0 a (upd (upd (upd (upd (upd (upd (upd (upd (upd F 2 (nI sz)) 9 (nI at9)) 10 0) 11 0) 9 (nI (((at9 + 1) + 1) + r93))) 2 (nI sz)) 9 (nI (((at9 + 1) + 1) + r93))) 10 0) 11 0) (updR (updR R 1 (.ref pq)) 1 (.ref pq)) Z B J K35 w := hO.to rfl
            obtain ⟨_, qr112, hqr113⟩ := hO.2.1 23 _ (sg_23 G h0 a _ _ _ _ _)
            refine pn_V0 (G := G) (As := [.ref r34]) (rest := []) hx hb hml hown hq hE hX pX0_al hP hD hS hA hl.1 (P_listI l G h0 a (upd (upd (upd (upd (upd F 2 (nI sz)) 9 (nI at9)) 10 0) 11 0) 9 (nI (((at9 + 1) + 1) + r93))) (updR R 1 (.ref pq)) Z B J K35 w pq dr ml (nd + 1) nm cp it s9 r34 (((at9 + 1) + 1) + r93) sz g36 (by omega) (by omega) h37 h38 h39 hO hl0) (gV pw_815 pw_816 pw_817 pw_796 pw_800) hV_X8_listInterfaces qr112 5 hqr113 rfl rfl rfl (Nat.le_of_ble_eq_true rfl) dX8_declaration_113 ⟨(by show 5 + 1 ≤ 6; omega), (by show 25 + 6 ≤ 31; omega)⟩ ⟨Nat.le_of_ble_eq_true rfl, Nat.le_of_ble_eq_true rfl⟩ (fun v111 u109 H locs hw110 hP hD hS => ?_) (fun ux ce9 q9 H9 locs9 hux hP9 hD9 hS9 hce hcv hcl => pb_out ux (ThQ.up (Thx.same (Thx.same (Thx.same (Thx.same (Thx.f Thx.rfl (by omega)) rfl) rfl) rfl) rfl) hux) hnt hlocks hce hcv hcl hP9 hD9 hS9 (by show 5 + 1 ≤ 6; omega) (by show 25 + 6 ≤ 31; omega))
            obtain ⟨w, K114, g115, at116⟩ := u109
            obtain ⟨hw110, h117, h118, h119, h120, hO⟩ := hw110
            have h117 : WPr G K114 g115 := h117
            have h118 : PgS G K114 g115 (a 1) pq dr ml (nd + 1) nm cp it s9 := h118
            have h119 : K114.1 r34 = 4 := h119
            have h120 : (((at9 + 1) + 1) + r93) + 1 ≤ at116 ∧ at116 ≤ sz := h120
            obtain rfl : v111 = none := hw110
            have hO : OKP G h0 a (upd (upd (upd (upd F 2 (nI sz)) 9 (nI at116)) 10 0) 11 0) (updR R 1 (.ref pq)) Z B J K114 w := hO.to rfl
            refine W.widen (k := 5) (n := 25) (by show 5 + 0 ≤ 5; omega) (by show 25 + 0 ≤ 25; omega) ?_
            refine W.eq (g2 := F0 m 116 ls []) rfl ?_
            refine lv_aload_n hx hb dX8_declaration_116 rfl (lv_at hl 2 rfl) ?_
            refine lv_bipush (v := 32) hx hb dX8_declaration_117 (by decide) ?_
            have hO : OKW G h0 a (upd (upd (upd (upd (upd (upd (upd F 2 (nI sz)) 9 (nI at9)) 10 0) 11 0) 9 (nI at116)) 2 (nI sz)) 9 (nI at116)) (updR R 1 (.ref pq)) Z B J K114.1 (fun q99 x99 => x99 = rep G a K114 q99) w := hO.to rfl
            obtain ⟨_, qr124, hqr125⟩ := hO.2.1 23 _ (sg_23 G h0 a _ _ _ _ _)
            refine pn_V0 (G := G) (As := [.int 32]) (rest := []) hx hb hml hown hq hE hX pX0_al hP hD hS hA hl.1 (P_take l G h0 a (upd (upd (upd (upd (upd F 2 (nI sz)) 9 (nI at9)) 10 0) 11 0) 9 (nI at116)) (updR R 1 (.ref pq)) Z B J K114.1 (fun q99 x99 => x99 = rep G a K114 q99) w 32 at116 sz (by omega) (by omega) (by decide) hO hl0) (gV pw_793 pw_794 pw_795 pw_796 pw_781) hV_X8_take qr124 5 hqr125 rfl rfl rfl (Nat.le_of_ble_eq_true rfl) dX8_declaration_119 ⟨(by show 5 + 1 ≤ 6; omega), (by show 25 + 6 ≤ 31; omega)⟩ ⟨Nat.le_of_ble_eq_true rfl, Nat.le_of_ble_eq_true rfl⟩ (fun v123 u121 H locs hw122 hP hD hS => ?_) (fun ux ce9 q9 H9 locs9 hux hP9 hD9 hS9 hce hcv hcl => pb_out ux (ThQ.up (Thx.same (Thx.same (Thx.f Thx.rfl (by omega)) rfl) rfl) hux) hnt hlocks hce hcv hcl hP9 hD9 hS9 (by show 5 + 1 ≤ 6; omega) (by show 25 + 6 ≤ 31; omega))
            obtain ⟨w, _⟩ := u121
            obtain ⟨hw122, h126, hO⟩ := hw122
            have h126 : at116 + 1 ≤ sz := h126
            obtain rfl : v123 = some (.int (nI at116)) := hw122
            have hO : OKP G h0 a (upd (upd (upd (upd F 2 (nI sz)) 9 (nI (at116 + 1))) 10 0) 11 0) (updR R 1 (.ref pq)) Z B J K114 w := hO.to rfl
            refine W.widen (k := 5) (n := 25) (by show 5 + 0 ≤ 5; omega) (by show 25 + 0 ≤ 25; omega) ?_
            refine W.eq (g2 := F0 m 122 ls [.int (nI at116)]) rfl ?_
            refine lv_pop hx hb dX8_declaration_122 rfl ?_
            refine lv_aload_n hx hb dX8_declaration_123 rfl (lv_at hl 0 rfl) ?_
            refine W_size (fun hz1 hz2 => ?_)
            refine vx_ret ?_
            have hz127 : WPr G K114 g115 := h117
            have hz128 : PgS G K114 g115 (a 1) pq dr ml (nd + 1) nm cp it s9 := h118
            have hz129 : K114.1 r34 = 4 := h119
            have hz130 : at9 + 3 ≤ (at116 + 1) ∧ (at116 + 1) ≤ sz := (by omega)
            have hO : OKP G h0 a (upd (upd (upd (upd F 2 (nI sz)) 9 (nI (at116 + 1))) 10 0) 11 0) (updR R 1 (.ref pq)) Z B J K114 w := hO.to rfl
            refine W.widen (k := 6) (n := 31) (by omega) (by omega) ?_
            have hzz1 : H.size ≤ s.heap.size + (5) := (by have z : 5 ≤ 5 := (by omega); omega)
            have hzz2 : hSl H ≤ hSl s.heap + (25) := (by have z : 25 ≤ 25 := (by omega); omega)
            exact W.aret (v := .ref r34) hx hb hr (Or.inl ⟨_, rfl⟩) (Or.inr ⟨_, rfl⟩) (fun t99 ht99 hW99 => ⟨⟨_, (w, (K114, g115, r34, (at116 + 1), (nd + 1))), rfl, ⟨rfl, hz127, hz128, hz129, hz130, hO⟩, by rw [ht99]; exact hP, hD, by rw [ht99]; exact hzz1, by rw [ht99]; exact hzz2⟩, hS.F ht99⟩) hS.2.2 dX8_declaration_124
      · have n131 : r6 = 0 := (nI_eq (a := r6) (b := 0) (by omega) (by omega)).mp c40
        refine lv_aload_n hx hb dX8_declaration_74 rfl (lv_at hl 2 rfl) ?_
        refine lv_bipush (v := 7) hx hb dX8_declaration_75 (by decide) ?_
        have hO : OKW G h0 a (upd (upd (upd (upd (upd (upd F 2 (nI sz)) 9 (nI ((at9 + 1) + 1))) 10 0) 11 0) 2 (nI sz)) 9 (nI ((at9 + 1) + 1))) (updR R 1 (.ref pq)) Z B J K35.1 (fun q99 x99 => x99 = rep G a K35 q99) w := hO.to rfl
        obtain ⟨_, qr135, hqr136⟩ := hO.2.1 23 _ (sg_23 G h0 a _ _ _ _ _)
        refine pc_V0 (G := G) (As := [.int 7]) (rest := []) hx hb hml hown hq hE hX pX0_al hP hD hS hA hl.1 (P_takeIf l G h0 a (upd (upd (upd (upd F 2 (nI sz)) 9 (nI ((at9 + 1) + 1))) 10 0) 11 0) (updR R 1 (.ref pq)) Z B J K35.1 (fun q99 x99 => x99 = rep G a K35 q99) w 7 ((at9 + 1) + 1) sz (by omega) (by omega) (by decide) hO) (gV pw_797 pw_798 pw_799 pw_796 pw_789) hV_X8_takeIf qr135 5 hqr136 rfl rfl rfl (Nat.le_of_ble_eq_true rfl) dX8_declaration_77 ⟨(by show 5 + 0 ≤ 6; omega), (by show 25 + 0 ≤ 31; omega)⟩ ⟨Nat.le_of_ble_eq_true rfl, Nat.le_of_ble_eq_true rfl⟩ (fun v134 u132 H locs hw133 hP hD hS => ?_)
        obtain ⟨w, r137⟩ := u132
        obtain ⟨hw133, h138, h139, hO⟩ := hw133
        have h138 : r137 ≤ 1 := h138
        have h139 : ((at9 + 1) + 1) + r137 ≤ sz := h139
        obtain rfl : v134 = some (.int (nI r137)) := hw133
        have hO : OKP G h0 a (upd (upd (upd (upd F 2 (nI sz)) 9 (nI (((at9 + 1) + 1) + r137))) 10 0) 11 0) (updR R 1 (.ref pq)) Z B J K35 w := hO.to rfl
        refine W.widen (k := 5) (n := 25) (by show 5 + 0 ≤ 5; omega) (by show 25 + 0 ≤ 25; omega) ?_
        refine W.eq (g2 := F0 m 80 ls [.int (nI r137)]) rfl ?_
        refine lv_if_eq (tgt := 93) hx hb dX8_declaration_80 (by decide) (fun c140 => ?_) (fun c140 => ?_)
        · have n141 : r137 = 0 := (nI_eq (a := r137) (b := 0) (by omega) (by omega)).mp c140
          refine lv_aload_n hx hb dX8_declaration_93 rfl (lv_at hl 2 rfl) ?_
          refine lv_iload_n hx hb dX8_declaration_94 rfl (lv_at hl 1 rfl) ?_
          refine lv_if_eq (tgt := 103) hx hb dX8_declaration_95 (by decide) (fun c142 => ?_) (fun c142 => ?_)
          · have n143 : r6 = 0 := (nI_eq (a := r6) (b := 0) (by omega) (by omega)).mp c142
            refine lv_bipush (v := 12) hx hb dX8_declaration_103 (by decide) ?_
            have hO : OKW G h0 a (upd (upd (upd (upd (upd (upd F 2 (nI sz)) 9 (nI (((at9 + 1) + 1) + r137))) 10 0) 11 0) 2 (nI sz)) 9 (nI (((at9 + 1) + 1) + r137))) (updR R 1 (.ref pq)) Z B J K35.1 (fun q99 x99 => x99 = rep G a K35 q99) w := hO.to rfl
            obtain ⟨_, qr147, hqr148⟩ := hO.2.1 23 _ (sg_23 G h0 a _ _ _ _ _)
            refine pc_V0 (G := G) (As := [.int 12]) (rest := []) hx hb hml hown hq hE hX pX0_al hP hD hS hA hl.1 (P_takeIf l G h0 a (upd (upd (upd (upd F 2 (nI sz)) 9 (nI (((at9 + 1) + 1) + r137))) 10 0) 11 0) (updR R 1 (.ref pq)) Z B J K35.1 (fun q99 x99 => x99 = rep G a K35 q99) w 12 (((at9 + 1) + 1) + r137) sz (by omega) (by omega) (by decide) hO) (gV pw_797 pw_798 pw_799 pw_796 pw_789) hV_X8_takeIf qr147 5 hqr148 rfl rfl rfl (Nat.le_of_ble_eq_true rfl) dX8_declaration_105 ⟨(by show 5 + 0 ≤ 6; omega), (by show 25 + 0 ≤ 31; omega)⟩ ⟨Nat.le_of_ble_eq_true rfl, Nat.le_of_ble_eq_true rfl⟩ (fun v146 u144 H locs hw145 hP hD hS => ?_)
            obtain ⟨w, r149⟩ := u144
            obtain ⟨hw145, h150, h151, hO⟩ := hw145
            have h150 : r149 ≤ 1 := h150
            have h151 : (((at9 + 1) + 1) + r137) + r149 ≤ sz := h151
            obtain rfl : v146 = some (.int (nI r149)) := hw145
            have hO : OKP G h0 a (upd (upd (upd (upd F 2 (nI sz)) 9 (nI ((((at9 + 1) + 1) + r137) + r149))) 10 0) 11 0) (updR R 1 (.ref pq)) Z B J K35 w := hO.to rfl
            refine W.widen (k := 5) (n := 25) (by show 5 + 0 ≤ 5; omega) (by show 25 + 0 ≤ 25; omega) ?_
            refine W.eq (g2 := F0 m 108 ls [.int (nI r149)]) rfl ?_
            refine lv_if_eq (tgt := 116) hx hb dX8_declaration_108 (by decide) (fun c152 => ?_) (fun c152 => ?_)
            · have n153 : r149 = 0 := (nI_eq (a := r149) (b := 0) (by omega) (by omega)).mp c152
              refine lv_aload_n hx hb dX8_declaration_116 rfl (lv_at hl 2 rfl) ?_
              refine lv_bipush (v := 32) hx hb dX8_declaration_117 (by decide) ?_
              have hO : OKW G h0 a (upd (upd (upd (upd (upd (upd (upd F 2 (nI sz)) 9 (nI at9)) 10 0) 11 0) 9 (nI ((((at9 + 1) + 1) + r137) + r149))) 2 (nI sz)) 9 (nI ((((at9 + 1) + 1) + r137) + r149))) (updR R 1 (.ref pq)) Z B J K35.1 (fun q99 x99 => x99 = rep G a K35 q99) w := hO.to rfl
              obtain ⟨_, qr157, hqr158⟩ := hO.2.1 23 _ (sg_23 G h0 a _ _ _ _ _)
              refine pn_V0 (G := G) (As := [.int 32]) (rest := []) hx hb hml hown hq hE hX pX0_al hP hD hS hA hl.1 (P_take l G h0 a (upd (upd (upd (upd (upd F 2 (nI sz)) 9 (nI at9)) 10 0) 11 0) 9 (nI ((((at9 + 1) + 1) + r137) + r149))) (updR R 1 (.ref pq)) Z B J K35.1 (fun q99 x99 => x99 = rep G a K35 q99) w 32 ((((at9 + 1) + 1) + r137) + r149) sz (by omega) (by omega) (by decide) hO hl0) (gV pw_793 pw_794 pw_795 pw_796 pw_781) hV_X8_take qr157 5 hqr158 rfl rfl rfl (Nat.le_of_ble_eq_true rfl) dX8_declaration_119 ⟨(by show 5 + 1 ≤ 6; omega), (by show 25 + 6 ≤ 31; omega)⟩ ⟨Nat.le_of_ble_eq_true rfl, Nat.le_of_ble_eq_true rfl⟩ (fun v156 u154 H locs hw155 hP hD hS => ?_) (fun ux ce9 q9 H9 locs9 hux hP9 hD9 hS9 hce hcv hcl => pb_out ux (ThQ.up (Thx.same (Thx.same (Thx.f Thx.rfl (by omega)) rfl) rfl) hux) hnt hlocks hce hcv hcl hP9 hD9 hS9 (by show 5 + 1 ≤ 6; omega) (by show 25 + 6 ≤ 31; omega))
              obtain ⟨w, _⟩ := u154
              obtain ⟨hw155, h159, hO⟩ := hw155
              have h159 : ((((at9 + 1) + 1) + r137) + r149) + 1 ≤ sz := h159
              obtain rfl : v156 = some (.int (nI ((((at9 + 1) + 1) + r137) + r149))) := hw155
              have hO : OKP G h0 a (upd (upd (upd (upd F 2 (nI sz)) 9 (nI (((((at9 + 1) + 1) + r137) + r149) + 1))) 10 0) 11 0) (updR R 1 (.ref pq)) Z B J K35 w := hO.to rfl
              refine W.widen (k := 5) (n := 25) (by show 5 + 0 ≤ 5; omega) (by show 25 + 0 ≤ 25; omega) ?_
              refine W.eq (g2 := F0 m 122 ls [.int (nI ((((at9 + 1) + 1) + r137) + r149))]) rfl ?_
              refine lv_pop hx hb dX8_declaration_122 rfl ?_
              refine lv_aload_n hx hb dX8_declaration_123 rfl (lv_at hl 0 rfl) ?_
              refine W_size (fun hz1 hz2 => ?_)
              refine vx_ret ?_
              have hz160 : WPr G K35 g36 := h37
              have hz161 : PgS G K35 g36 (a 1) pq dr ml (nd + 1) nm cp it s9 := h38
              have hz162 : K35.1 r34 = 4 := h39
              have hz163 : at9 + 3 ≤ (((((at9 + 1) + 1) + r137) + r149) + 1) ∧ (((((at9 + 1) + 1) + r137) + r149) + 1) ≤ sz := (by omega)
              have hO : OKP G h0 a (upd (upd (upd (upd F 2 (nI sz)) 9 (nI (((((at9 + 1) + 1) + r137) + r149) + 1))) 10 0) 11 0) (updR R 1 (.ref pq)) Z B J K35 w := hO.to rfl
              refine W.widen (k := 6) (n := 31) (by omega) (by omega) ?_
              have hzz1 : H.size ≤ s.heap.size + (5) := (by have z : 5 ≤ 5 := (by omega); omega)
              have hzz2 : hSl H ≤ hSl s.heap + (25) := (by have z : 25 ≤ 25 := (by omega); omega)
              exact W.aret (v := .ref r34) hx hb hr (Or.inl ⟨_, rfl⟩) (Or.inr ⟨_, rfl⟩) (fun t99 ht99 hW99 => ⟨⟨_, (w, (K35, g36, r34, (((((at9 + 1) + 1) + r137) + r149) + 1), (nd + 1))), rfl, ⟨rfl, hz160, hz161, hz162, hz163, hO⟩, by rw [ht99]; exact hP, hD, by rw [ht99]; exact hzz1, by rw [ht99]; exact hzz2⟩, hS.F ht99⟩) hS.2.2 dX8_declaration_124
            · have n164 : ¬ (r149 = 0) := fun h9 => c152 ((nI_eq (a := r149) (b := 0) (by omega) (by omega)).mpr h9)
              refine lv_aload_n hx hb dX8_declaration_111 rfl (lv_at hl 2 rfl) ?_
              refine lv_aload_n hx hb dX8_declaration_112 rfl (lv_at hl 0 rfl) ?_
              have hO : OKP G h0 a (upd (upd (upd (upd (upd (upd (upd (upd (upd F 2 (nI sz)) 9 (nI at9)) 10 0) 11 0) 9 (nI ((((at9 + 1) + 1) + r137) + r149))) 2 (nI sz)) 9 (nI ((((at9 + 1) + 1) + r137) + r149))) 10 0) 11 0) (updR (updR R 1 (.ref pq)) 1 (.ref pq)) Z B J K35 w := hO.to rfl
              obtain ⟨_, qr168, hqr169⟩ := hO.2.1 23 _ (sg_23 G h0 a _ _ _ _ _)
              refine pn_V0 (G := G) (As := [.ref r34]) (rest := []) hx hb hml hown hq hE hX pX0_al hP hD hS hA hl.1 (P_listI l G h0 a (upd (upd (upd (upd (upd F 2 (nI sz)) 9 (nI at9)) 10 0) 11 0) 9 (nI ((((at9 + 1) + 1) + r137) + r149))) (updR R 1 (.ref pq)) Z B J K35 w pq dr ml (nd + 1) nm cp it s9 r34 ((((at9 + 1) + 1) + r137) + r149) sz g36 (by omega) (by omega) h37 h38 h39 hO hl0) (gV pw_815 pw_816 pw_817 pw_796 pw_800) hV_X8_listInterfaces qr168 5 hqr169 rfl rfl rfl (Nat.le_of_ble_eq_true rfl) dX8_declaration_113 ⟨(by show 5 + 1 ≤ 6; omega), (by show 25 + 6 ≤ 31; omega)⟩ ⟨Nat.le_of_ble_eq_true rfl, Nat.le_of_ble_eq_true rfl⟩ (fun v167 u165 H locs hw166 hP hD hS => ?_) (fun ux ce9 q9 H9 locs9 hux hP9 hD9 hS9 hce hcv hcl => pb_out ux (ThQ.up (Thx.same (Thx.same (Thx.same (Thx.same (Thx.f Thx.rfl (by omega)) rfl) rfl) rfl) rfl) hux) hnt hlocks hce hcv hcl hP9 hD9 hS9 (by show 5 + 1 ≤ 6; omega) (by show 25 + 6 ≤ 31; omega))
              obtain ⟨w, K170, g171, at172⟩ := u165
              obtain ⟨hw166, h173, h174, h175, h176, hO⟩ := hw166
              have h173 : WPr G K170 g171 := h173
              have h174 : PgS G K170 g171 (a 1) pq dr ml (nd + 1) nm cp it s9 := h174
              have h175 : K170.1 r34 = 4 := h175
              have h176 : ((((at9 + 1) + 1) + r137) + r149) + 1 ≤ at172 ∧ at172 ≤ sz := h176
              obtain rfl : v167 = none := hw166
              have hO : OKP G h0 a (upd (upd (upd (upd F 2 (nI sz)) 9 (nI at172)) 10 0) 11 0) (updR R 1 (.ref pq)) Z B J K170 w := hO.to rfl
              refine W.widen (k := 5) (n := 25) (by show 5 + 0 ≤ 5; omega) (by show 25 + 0 ≤ 25; omega) ?_
              refine W.eq (g2 := F0 m 116 ls []) rfl ?_
              refine lv_aload_n hx hb dX8_declaration_116 rfl (lv_at hl 2 rfl) ?_
              refine lv_bipush (v := 32) hx hb dX8_declaration_117 (by decide) ?_
              have hO : OKW G h0 a (upd (upd (upd (upd (upd (upd (upd F 2 (nI sz)) 9 (nI at9)) 10 0) 11 0) 9 (nI at172)) 2 (nI sz)) 9 (nI at172)) (updR R 1 (.ref pq)) Z B J K170.1 (fun q99 x99 => x99 = rep G a K170 q99) w := hO.to rfl
              obtain ⟨_, qr180, hqr181⟩ := hO.2.1 23 _ (sg_23 G h0 a _ _ _ _ _)
              refine pn_V0 (G := G) (As := [.int 32]) (rest := []) hx hb hml hown hq hE hX pX0_al hP hD hS hA hl.1 (P_take l G h0 a (upd (upd (upd (upd (upd F 2 (nI sz)) 9 (nI at9)) 10 0) 11 0) 9 (nI at172)) (updR R 1 (.ref pq)) Z B J K170.1 (fun q99 x99 => x99 = rep G a K170 q99) w 32 at172 sz (by omega) (by omega) (by decide) hO hl0) (gV pw_793 pw_794 pw_795 pw_796 pw_781) hV_X8_take qr180 5 hqr181 rfl rfl rfl (Nat.le_of_ble_eq_true rfl) dX8_declaration_119 ⟨(by show 5 + 1 ≤ 6; omega), (by show 25 + 6 ≤ 31; omega)⟩ ⟨Nat.le_of_ble_eq_true rfl, Nat.le_of_ble_eq_true rfl⟩ (fun v179 u177 H locs hw178 hP hD hS => ?_) (fun ux ce9 q9 H9 locs9 hux hP9 hD9 hS9 hce hcv hcl => pb_out ux (ThQ.up (Thx.same (Thx.same (Thx.f Thx.rfl (by omega)) rfl) rfl) hux) hnt hlocks hce hcv hcl hP9 hD9 hS9 (by show 5 + 1 ≤ 6; omega) (by show 25 + 6 ≤ 31; omega))
              obtain ⟨w, _⟩ := u177
              obtain ⟨hw178, h182, hO⟩ := hw178
              have h182 : at172 + 1 ≤ sz := h182
              obtain rfl : v179 = some (.int (nI at172)) := hw178
              have hO : OKP G h0 a (upd (upd (upd (upd F 2 (nI sz)) 9 (nI (at172 + 1))) 10 0) 11 0) (updR R 1 (.ref pq)) Z B J K170 w := hO.to rfl
              refine W.widen (k := 5) (n := 25) (by show 5 + 0 ≤ 5; omega) (by show 25 + 0 ≤ 25; omega) ?_
              refine W.eq (g2 := F0 m 122 ls [.int (nI at172)]) rfl ?_
              refine lv_pop hx hb dX8_declaration_122 rfl ?_
              refine lv_aload_n hx hb dX8_declaration_123 rfl (lv_at hl 0 rfl) ?_
              refine W_size (fun hz1 hz2 => ?_)
              refine vx_ret ?_
              have hz183 : WPr G K170 g171 := h173
              have hz184 : PgS G K170 g171 (a 1) pq dr ml (nd + 1) nm cp it s9 := h174
              have hz185 : K170.1 r34 = 4 := h175
              have hz186 : at9 + 3 ≤ (at172 + 1) ∧ (at172 + 1) ≤ sz := (by omega)
              have hO : OKP G h0 a (upd (upd (upd (upd F 2 (nI sz)) 9 (nI (at172 + 1))) 10 0) 11 0) (updR R 1 (.ref pq)) Z B J K170 w := hO.to rfl
              refine W.widen (k := 6) (n := 31) (by omega) (by omega) ?_
              have hzz1 : H.size ≤ s.heap.size + (5) := (by have z : 5 ≤ 5 := (by omega); omega)
              have hzz2 : hSl H ≤ hSl s.heap + (25) := (by have z : 25 ≤ 25 := (by omega); omega)
              exact W.aret (v := .ref r34) hx hb hr (Or.inl ⟨_, rfl⟩) (Or.inr ⟨_, rfl⟩) (fun t99 ht99 hW99 => ⟨⟨_, (w, (K170, g171, r34, (at172 + 1), (nd + 1))), rfl, ⟨rfl, hz183, hz184, hz185, hz186, hO⟩, by rw [ht99]; exact hP, hD, by rw [ht99]; exact hzz1, by rw [ht99]; exact hzz2⟩, hS.F ht99⟩) hS.2.2 dX8_declaration_124
          · have n187 : ¬ (r6 = 0) := fun h9 => c142 ((nI_eq (a := r6) (b := 0) (by omega) (by omega)).mpr h9)
            refine lv_bipush (v := 7) hx hb dX8_declaration_98 (by decide) ?_
            refine lv_goto (tgt := 105) hx hb dX8_declaration_100 (by decide) ?_
            have hO : OKW G h0 a (upd (upd (upd (upd (upd (upd F 2 (nI sz)) 9 (nI (((at9 + 1) + 1) + r137))) 10 0) 11 0) 2 (nI sz)) 9 (nI (((at9 + 1) + 1) + r137))) (updR R 1 (.ref pq)) Z B J K35.1 (fun q99 x99 => x99 = rep G a K35 q99) w := hO.to rfl
            obtain ⟨_, qr191, hqr192⟩ := hO.2.1 23 _ (sg_23 G h0 a _ _ _ _ _)
            refine pc_V0 (G := G) (As := [.int 7]) (rest := []) hx hb hml hown hq hE hX pX0_al hP hD hS hA hl.1 (P_takeIf l G h0 a (upd (upd (upd (upd F 2 (nI sz)) 9 (nI (((at9 + 1) + 1) + r137))) 10 0) 11 0) (updR R 1 (.ref pq)) Z B J K35.1 (fun q99 x99 => x99 = rep G a K35 q99) w 7 (((at9 + 1) + 1) + r137) sz (by omega) (by omega) (by decide) hO) (gV pw_797 pw_798 pw_799 pw_796 pw_789) hV_X8_takeIf qr191 5 hqr192 rfl rfl rfl (Nat.le_of_ble_eq_true rfl) dX8_declaration_105 ⟨(by show 5 + 0 ≤ 6; omega), (by show 25 + 0 ≤ 31; omega)⟩ ⟨Nat.le_of_ble_eq_true rfl, Nat.le_of_ble_eq_true rfl⟩ (fun v190 u188 H locs hw189 hP hD hS => ?_)
            obtain ⟨w, r193⟩ := u188
            obtain ⟨hw189, h194, h195, hO⟩ := hw189
            have h194 : r193 ≤ 1 := h194
            have h195 : (((at9 + 1) + 1) + r137) + r193 ≤ sz := h195
            obtain rfl : v190 = some (.int (nI r193)) := hw189
            have hO : OKP G h0 a (upd (upd (upd (upd F 2 (nI sz)) 9 (nI ((((at9 + 1) + 1) + r137) + r193))) 10 0) 11 0) (updR R 1 (.ref pq)) Z B J K35 w := hO.to rfl
            refine W.widen (k := 5) (n := 25) (by show 5 + 0 ≤ 5; omega) (by show 25 + 0 ≤ 25; omega) ?_
            refine W.eq (g2 := F0 m 108 ls [.int (nI r193)]) rfl ?_
            refine lv_if_eq (tgt := 116) hx hb dX8_declaration_108 (by decide) (fun c196 => ?_) (fun c196 => ?_)
            · have n197 : r193 = 0 := (nI_eq (a := r193) (b := 0) (by omega) (by omega)).mp c196
              refine lv_aload_n hx hb dX8_declaration_116 rfl (lv_at hl 2 rfl) ?_
              refine lv_bipush (v := 32) hx hb dX8_declaration_117 (by decide) ?_
              have hO : OKW G h0 a (upd (upd (upd (upd (upd (upd (upd F 2 (nI sz)) 9 (nI at9)) 10 0) 11 0) 9 (nI ((((at9 + 1) + 1) + r137) + r193))) 2 (nI sz)) 9 (nI ((((at9 + 1) + 1) + r137) + r193))) (updR R 1 (.ref pq)) Z B J K35.1 (fun q99 x99 => x99 = rep G a K35 q99) w := hO.to rfl
              obtain ⟨_, qr201, hqr202⟩ := hO.2.1 23 _ (sg_23 G h0 a _ _ _ _ _)
              refine pn_V0 (G := G) (As := [.int 32]) (rest := []) hx hb hml hown hq hE hX pX0_al hP hD hS hA hl.1 (P_take l G h0 a (upd (upd (upd (upd (upd F 2 (nI sz)) 9 (nI at9)) 10 0) 11 0) 9 (nI ((((at9 + 1) + 1) + r137) + r193))) (updR R 1 (.ref pq)) Z B J K35.1 (fun q99 x99 => x99 = rep G a K35 q99) w 32 ((((at9 + 1) + 1) + r137) + r193) sz (by omega) (by omega) (by decide) hO hl0) (gV pw_793 pw_794 pw_795 pw_796 pw_781) hV_X8_take qr201 5 hqr202 rfl rfl rfl (Nat.le_of_ble_eq_true rfl) dX8_declaration_119 ⟨(by show 5 + 1 ≤ 6; omega), (by show 25 + 6 ≤ 31; omega)⟩ ⟨Nat.le_of_ble_eq_true rfl, Nat.le_of_ble_eq_true rfl⟩ (fun v200 u198 H locs hw199 hP hD hS => ?_) (fun ux ce9 q9 H9 locs9 hux hP9 hD9 hS9 hce hcv hcl => pb_out ux (ThQ.up (Thx.same (Thx.same (Thx.f Thx.rfl (by omega)) rfl) rfl) hux) hnt hlocks hce hcv hcl hP9 hD9 hS9 (by show 5 + 1 ≤ 6; omega) (by show 25 + 6 ≤ 31; omega))
              obtain ⟨w, _⟩ := u198
              obtain ⟨hw199, h203, hO⟩ := hw199
              have h203 : ((((at9 + 1) + 1) + r137) + r193) + 1 ≤ sz := h203
              obtain rfl : v200 = some (.int (nI ((((at9 + 1) + 1) + r137) + r193))) := hw199
              have hO : OKP G h0 a (upd (upd (upd (upd F 2 (nI sz)) 9 (nI (((((at9 + 1) + 1) + r137) + r193) + 1))) 10 0) 11 0) (updR R 1 (.ref pq)) Z B J K35 w := hO.to rfl
              refine W.widen (k := 5) (n := 25) (by show 5 + 0 ≤ 5; omega) (by show 25 + 0 ≤ 25; omega) ?_
              refine W.eq (g2 := F0 m 122 ls [.int (nI ((((at9 + 1) + 1) + r137) + r193))]) rfl ?_
              refine lv_pop hx hb dX8_declaration_122 rfl ?_
              refine lv_aload_n hx hb dX8_declaration_123 rfl (lv_at hl 0 rfl) ?_
              refine W_size (fun hz1 hz2 => ?_)
              refine vx_ret ?_
              have hz204 : WPr G K35 g36 := h37
              have hz205 : PgS G K35 g36 (a 1) pq dr ml (nd + 1) nm cp it s9 := h38
              have hz206 : K35.1 r34 = 4 := h39
              have hz207 : at9 + 3 ≤ (((((at9 + 1) + 1) + r137) + r193) + 1) ∧ (((((at9 + 1) + 1) + r137) + r193) + 1) ≤ sz := (by omega)
              have hO : OKP G h0 a (upd (upd (upd (upd F 2 (nI sz)) 9 (nI (((((at9 + 1) + 1) + r137) + r193) + 1))) 10 0) 11 0) (updR R 1 (.ref pq)) Z B J K35 w := hO.to rfl
              refine W.widen (k := 6) (n := 31) (by omega) (by omega) ?_
              have hzz1 : H.size ≤ s.heap.size + (5) := (by have z : 5 ≤ 5 := (by omega); omega)
              have hzz2 : hSl H ≤ hSl s.heap + (25) := (by have z : 25 ≤ 25 := (by omega); omega)
              exact W.aret (v := .ref r34) hx hb hr (Or.inl ⟨_, rfl⟩) (Or.inr ⟨_, rfl⟩) (fun t99 ht99 hW99 => ⟨⟨_, (w, (K35, g36, r34, (((((at9 + 1) + 1) + r137) + r193) + 1), (nd + 1))), rfl, ⟨rfl, hz204, hz205, hz206, hz207, hO⟩, by rw [ht99]; exact hP, hD, by rw [ht99]; exact hzz1, by rw [ht99]; exact hzz2⟩, hS.F ht99⟩) hS.2.2 dX8_declaration_124
            · have n208 : ¬ (r193 = 0) := fun h9 => c196 ((nI_eq (a := r193) (b := 0) (by omega) (by omega)).mpr h9)
              refine lv_aload_n hx hb dX8_declaration_111 rfl (lv_at hl 2 rfl) ?_
              refine lv_aload_n hx hb dX8_declaration_112 rfl (lv_at hl 0 rfl) ?_
              have hO : OKP G h0 a (upd (upd (upd (upd (upd (upd (upd (upd (upd F 2 (nI sz)) 9 (nI at9)) 10 0) 11 0) 9 (nI ((((at9 + 1) + 1) + r137) + r193))) 2 (nI sz)) 9 (nI ((((at9 + 1) + 1) + r137) + r193))) 10 0) 11 0) (updR (updR R 1 (.ref pq)) 1 (.ref pq)) Z B J K35 w := hO.to rfl
              obtain ⟨_, qr212, hqr213⟩ := hO.2.1 23 _ (sg_23 G h0 a _ _ _ _ _)
              refine pn_V0 (G := G) (As := [.ref r34]) (rest := []) hx hb hml hown hq hE hX pX0_al hP hD hS hA hl.1 (P_listI l G h0 a (upd (upd (upd (upd (upd F 2 (nI sz)) 9 (nI at9)) 10 0) 11 0) 9 (nI ((((at9 + 1) + 1) + r137) + r193))) (updR R 1 (.ref pq)) Z B J K35 w pq dr ml (nd + 1) nm cp it s9 r34 ((((at9 + 1) + 1) + r137) + r193) sz g36 (by omega) (by omega) h37 h38 h39 hO hl0) (gV pw_815 pw_816 pw_817 pw_796 pw_800) hV_X8_listInterfaces qr212 5 hqr213 rfl rfl rfl (Nat.le_of_ble_eq_true rfl) dX8_declaration_113 ⟨(by show 5 + 1 ≤ 6; omega), (by show 25 + 6 ≤ 31; omega)⟩ ⟨Nat.le_of_ble_eq_true rfl, Nat.le_of_ble_eq_true rfl⟩ (fun v211 u209 H locs hw210 hP hD hS => ?_) (fun ux ce9 q9 H9 locs9 hux hP9 hD9 hS9 hce hcv hcl => pb_out ux (ThQ.up (Thx.same (Thx.same (Thx.same (Thx.same (Thx.f Thx.rfl (by omega)) rfl) rfl) rfl) rfl) hux) hnt hlocks hce hcv hcl hP9 hD9 hS9 (by show 5 + 1 ≤ 6; omega) (by show 25 + 6 ≤ 31; omega))
              obtain ⟨w, K214, g215, at216⟩ := u209
              obtain ⟨hw210, h217, h218, h219, h220, hO⟩ := hw210
              have h217 : WPr G K214 g215 := h217
              have h218 : PgS G K214 g215 (a 1) pq dr ml (nd + 1) nm cp it s9 := h218
              have h219 : K214.1 r34 = 4 := h219
              have h220 : ((((at9 + 1) + 1) + r137) + r193) + 1 ≤ at216 ∧ at216 ≤ sz := h220
              obtain rfl : v211 = none := hw210
              have hO : OKP G h0 a (upd (upd (upd (upd F 2 (nI sz)) 9 (nI at216)) 10 0) 11 0) (updR R 1 (.ref pq)) Z B J K214 w := hO.to rfl
              refine W.widen (k := 5) (n := 25) (by show 5 + 0 ≤ 5; omega) (by show 25 + 0 ≤ 25; omega) ?_
              refine W.eq (g2 := F0 m 116 ls []) rfl ?_
              refine lv_aload_n hx hb dX8_declaration_116 rfl (lv_at hl 2 rfl) ?_
              refine lv_bipush (v := 32) hx hb dX8_declaration_117 (by decide) ?_
              have hO : OKW G h0 a (upd (upd (upd (upd (upd (upd (upd F 2 (nI sz)) 9 (nI at9)) 10 0) 11 0) 9 (nI at216)) 2 (nI sz)) 9 (nI at216)) (updR R 1 (.ref pq)) Z B J K214.1 (fun q99 x99 => x99 = rep G a K214 q99) w := hO.to rfl
              obtain ⟨_, qr224, hqr225⟩ := hO.2.1 23 _ (sg_23 G h0 a _ _ _ _ _)
              refine pn_V0 (G := G) (As := [.int 32]) (rest := []) hx hb hml hown hq hE hX pX0_al hP hD hS hA hl.1 (P_take l G h0 a (upd (upd (upd (upd (upd F 2 (nI sz)) 9 (nI at9)) 10 0) 11 0) 9 (nI at216)) (updR R 1 (.ref pq)) Z B J K214.1 (fun q99 x99 => x99 = rep G a K214 q99) w 32 at216 sz (by omega) (by omega) (by decide) hO hl0) (gV pw_793 pw_794 pw_795 pw_796 pw_781) hV_X8_take qr224 5 hqr225 rfl rfl rfl (Nat.le_of_ble_eq_true rfl) dX8_declaration_119 ⟨(by show 5 + 1 ≤ 6; omega), (by show 25 + 6 ≤ 31; omega)⟩ ⟨Nat.le_of_ble_eq_true rfl, Nat.le_of_ble_eq_true rfl⟩ (fun v223 u221 H locs hw222 hP hD hS => ?_) (fun ux ce9 q9 H9 locs9 hux hP9 hD9 hS9 hce hcv hcl => pb_out ux (ThQ.up (Thx.same (Thx.same (Thx.f Thx.rfl (by omega)) rfl) rfl) hux) hnt hlocks hce hcv hcl hP9 hD9 hS9 (by show 5 + 1 ≤ 6; omega) (by show 25 + 6 ≤ 31; omega))
              obtain ⟨w, _⟩ := u221
              obtain ⟨hw222, h226, hO⟩ := hw222
              have h226 : at216 + 1 ≤ sz := h226
              obtain rfl : v223 = some (.int (nI at216)) := hw222
              have hO : OKP G h0 a (upd (upd (upd (upd F 2 (nI sz)) 9 (nI (at216 + 1))) 10 0) 11 0) (updR R 1 (.ref pq)) Z B J K214 w := hO.to rfl
              refine W.widen (k := 5) (n := 25) (by show 5 + 0 ≤ 5; omega) (by show 25 + 0 ≤ 25; omega) ?_
              refine W.eq (g2 := F0 m 122 ls [.int (nI at216)]) rfl ?_
              refine lv_pop hx hb dX8_declaration_122 rfl ?_
              refine lv_aload_n hx hb dX8_declaration_123 rfl (lv_at hl 0 rfl) ?_
              refine W_size (fun hz1 hz2 => ?_)
              refine vx_ret ?_
              have hz227 : WPr G K214 g215 := h217
              have hz228 : PgS G K214 g215 (a 1) pq dr ml (nd + 1) nm cp it s9 := h218
              have hz229 : K214.1 r34 = 4 := h219
              have hz230 : at9 + 3 ≤ (at216 + 1) ∧ (at216 + 1) ≤ sz := (by omega)
              have hO : OKP G h0 a (upd (upd (upd (upd F 2 (nI sz)) 9 (nI (at216 + 1))) 10 0) 11 0) (updR R 1 (.ref pq)) Z B J K214 w := hO.to rfl
              refine W.widen (k := 6) (n := 31) (by omega) (by omega) ?_
              have hzz1 : H.size ≤ s.heap.size + (5) := (by have z : 5 ≤ 5 := (by omega); omega)
              have hzz2 : hSl H ≤ hSl s.heap + (25) := (by have z : 25 ≤ 25 := (by omega); omega)
              exact W.aret (v := .ref r34) hx hb hr (Or.inl ⟨_, rfl⟩) (Or.inr ⟨_, rfl⟩) (fun t99 ht99 hW99 => ⟨⟨_, (w, (K214, g215, r34, (at216 + 1), (nd + 1))), rfl, ⟨rfl, hz227, hz228, hz229, hz230, hO⟩, by rw [ht99]; exact hP, hD, by rw [ht99]; exact hzz1, by rw [ht99]; exact hzz2⟩, hS.F ht99⟩) hS.2.2 dX8_declaration_124
        · have n231 : ¬ (r137 = 0) := fun h9 => c140 ((nI_eq (a := r137) (b := 0) (by omega) (by omega)).mpr h9)
          refine lv_aload_n hx hb dX8_declaration_83 rfl (lv_at hl 0 rfl) ?_
          refine lv_aload_n hx hb dX8_declaration_84 rfl (lv_at hl 2 rfl) ?_
          refine lv_bipush (v := 65) hx hb dX8_declaration_85 (by decide) ?_
          have hO : OKW G h0 a (upd (upd (upd (upd (upd (upd (upd F 2 (nI sz)) 9 (nI at9)) 10 0) 11 0) 9 (nI (((at9 + 1) + 1) + r137))) 2 (nI sz)) 9 (nI (((at9 + 1) + 1) + r137))) (updR R 1 (.ref pq)) Z B J K35.1 (fun q99 x99 => x99 = rep G a K35 q99) w := hO.to rfl
          obtain ⟨_, qr235, hqr236⟩ := hO.2.1 23 _ (sg_23 G h0 a _ _ _ _ _)
          refine pn_V0 (G := G) (As := [.int 65]) (rest := [.ref r34]) hx hb hml hown hq hE hX pX0_al hP hD hS hA hl.1 (P_take l G h0 a (upd (upd (upd (upd (upd F 2 (nI sz)) 9 (nI at9)) 10 0) 11 0) 9 (nI (((at9 + 1) + 1) + r137))) (updR R 1 (.ref pq)) Z B J K35.1 (fun q99 x99 => x99 = rep G a K35 q99) w 65 (((at9 + 1) + 1) + r137) sz (by omega) (by omega) (by decide) hO hl0) (gV pw_793 pw_794 pw_795 pw_796 pw_781) hV_X8_take qr235 5 hqr236 rfl rfl rfl (Nat.le_of_ble_eq_true rfl) dX8_declaration_87 ⟨(by show 5 + 1 ≤ 6; omega), (by show 25 + 6 ≤ 31; omega)⟩ ⟨Nat.le_of_ble_eq_true rfl, Nat.le_of_ble_eq_true rfl⟩ (fun v234 u232 H locs hw233 hP hD hS => ?_) (fun ux ce9 q9 H9 locs9 hux hP9 hD9 hS9 hce hcv hcl => pb_out ux (ThQ.up (Thx.same (Thx.same (Thx.f Thx.rfl (by omega)) rfl) rfl) hux) hnt hlocks hce hcv hcl hP9 hD9 hS9 (by show 5 + 1 ≤ 6; omega) (by show 25 + 6 ≤ 31; omega))
          obtain ⟨w, _⟩ := u232
          obtain ⟨hw233, h237, hO⟩ := hw233
          have h237 : (((at9 + 1) + 1) + r137) + 1 ≤ sz := h237
          obtain rfl : v234 = some (.int (nI (((at9 + 1) + 1) + r137))) := hw233
          have hO : OKP G h0 a (upd (upd (upd (upd F 2 (nI sz)) 9 (nI ((((at9 + 1) + 1) + r137) + 1))) 10 0) 11 0) (updR R 1 (.ref pq)) Z B J K35 w := hO.to rfl
          refine W.widen (k := 5) (n := 25) (by show 5 + 0 ≤ 5; omega) (by show 25 + 0 ≤ 25; omega) ?_
          refine W.eq (g2 := F0 m 90 ls [.int (nI (((at9 + 1) + 1) + r137)), .ref r34]) rfl ?_
          refine p_put (v := .int (nI (((at9 + 1) + 1) + r137))) (ty := .int) (C := RX2) (Tc := TX2) (N := 13) (ci := 2) (K' := (kI K35 19 r34 (nI (((at9 + 1) + 1) + r137)))) hx hb hq pin_wsX20 tyX2 tyX2_ok nmX2 hown hE hP hD hS hO (by rw [h39]; decide) (rep_4 h39) rfl 4 (by decide) (hq _ pw_802) (fun _ h9 => h9) rfl (by decide +kernel) rfl rfl (Nat.le_of_ble_eq_true rfl) rfl (by rw [rep_4 (show (kI K35 19 r34 (nI (((at9 + 1) + 1) + r137))).1 r34 = 4 from h39), pi_19] <;> rfl) (fun p9 hp9 => rep_kI hp9) dX8_declaration_90 (fun H locs w hP hD hS hO => ?_)
          obtain ⟨K238, hK239⟩ : ∃ z : PK, z = (kI K35 19 r34 (nI (((at9 + 1) + 1) + r137))) := ⟨_, rfl⟩
          rw [← hK239] at hO
          have hf240 : K238.1 r34 = 4 := (by rw [hK239]; exact h39)
          have hf241 : K238.2.1 19 r34 = (nI (((at9 + 1) + 1) + r137)) := by rw [hK239]; exact kI_eq
          have hwp242 : WPr G K238 g36 := by rw [hK239]; exact WPr.kI h37 (by decide)
          have hps243 : PgS G K238 g36 (a 1) pq dr ml (nd + 1) nm cp it s9 := by rw [hK239]; exact PgS.kI h38 (by decide)
          refine lv_aload_n hx hb dX8_declaration_93 rfl (lv_at hl 2 rfl) ?_
          refine lv_iload_n hx hb dX8_declaration_94 rfl (lv_at hl 1 rfl) ?_
          refine lv_if_eq (tgt := 103) hx hb dX8_declaration_95 (by decide) (fun c244 => ?_) (fun c244 => ?_)
          · have n245 : r6 = 0 := (nI_eq (a := r6) (b := 0) (by omega) (by omega)).mp c244
            refine lv_bipush (v := 12) hx hb dX8_declaration_103 (by decide) ?_
            have hO : OKW G h0 a (upd (upd (upd (upd (upd (upd F 2 (nI sz)) 9 (nI ((((at9 + 1) + 1) + r137) + 1))) 10 0) 11 0) 2 (nI sz)) 9 (nI ((((at9 + 1) + 1) + r137) + 1))) (updR R 1 (.ref pq)) Z B J K238.1 (fun q99 x99 => x99 = rep G a K238 q99) w := hO.to rfl
            obtain ⟨_, qr249, hqr250⟩ := hO.2.1 23 _ (sg_23 G h0 a _ _ _ _ _)
            refine pc_V0 (G := G) (As := [.int 12]) (rest := []) hx hb hml hown hq hE hX pX0_al hP hD hS hA hl.1 (P_takeIf l G h0 a (upd (upd (upd (upd F 2 (nI sz)) 9 (nI ((((at9 + 1) + 1) + r137) + 1))) 10 0) 11 0) (updR R 1 (.ref pq)) Z B J K238.1 (fun q99 x99 => x99 = rep G a K238 q99) w 12 ((((at9 + 1) + 1) + r137) + 1) sz (by omega) (by omega) (by decide) hO) (gV pw_797 pw_798 pw_799 pw_796 pw_789) hV_X8_takeIf qr249 5 hqr250 rfl rfl rfl (Nat.le_of_ble_eq_true rfl) dX8_declaration_105 ⟨(by show 5 + 0 ≤ 6; omega), (by show 25 + 0 ≤ 31; omega)⟩ ⟨Nat.le_of_ble_eq_true rfl, Nat.le_of_ble_eq_true rfl⟩ (fun v248 u246 H locs hw247 hP hD hS => ?_)
            obtain ⟨w, r251⟩ := u246
            obtain ⟨hw247, h252, h253, hO⟩ := hw247
            have h252 : r251 ≤ 1 := h252
            have h253 : ((((at9 + 1) + 1) + r137) + 1) + r251 ≤ sz := h253
            obtain rfl : v248 = some (.int (nI r251)) := hw247
            have hO : OKP G h0 a (upd (upd (upd (upd F 2 (nI sz)) 9 (nI (((((at9 + 1) + 1) + r137) + 1) + r251))) 10 0) 11 0) (updR R 1 (.ref pq)) Z B J K238 w := hO.to rfl
            refine W.widen (k := 5) (n := 25) (by show 5 + 0 ≤ 5; omega) (by show 25 + 0 ≤ 25; omega) ?_
            refine W.eq (g2 := F0 m 108 ls [.int (nI r251)]) rfl ?_
            refine lv_if_eq (tgt := 116) hx hb dX8_declaration_108 (by decide) (fun c254 => ?_) (fun c254 => ?_)
            · have n255 : r251 = 0 := (nI_eq (a := r251) (b := 0) (by omega) (by omega)).mp c254
              refine lv_aload_n hx hb dX8_declaration_116 rfl (lv_at hl 2 rfl) ?_
              refine lv_bipush (v := 32) hx hb dX8_declaration_117 (by decide) ?_
              have hO : OKW G h0 a (upd (upd (upd (upd (upd (upd (upd F 2 (nI sz)) 9 (nI at9)) 10 0) 11 0) 9 (nI (((((at9 + 1) + 1) + r137) + 1) + r251))) 2 (nI sz)) 9 (nI (((((at9 + 1) + 1) + r137) + 1) + r251))) (updR R 1 (.ref pq)) Z B J K238.1 (fun q99 x99 => x99 = rep G a K238 q99) w := hO.to rfl
              obtain ⟨_, qr259, hqr260⟩ := hO.2.1 23 _ (sg_23 G h0 a _ _ _ _ _)
              refine pn_V0 (G := G) (As := [.int 32]) (rest := []) hx hb hml hown hq hE hX pX0_al hP hD hS hA hl.1 (P_take l G h0 a (upd (upd (upd (upd (upd F 2 (nI sz)) 9 (nI at9)) 10 0) 11 0) 9 (nI (((((at9 + 1) + 1) + r137) + 1) + r251))) (updR R 1 (.ref pq)) Z B J K238.1 (fun q99 x99 => x99 = rep G a K238 q99) w 32 (((((at9 + 1) + 1) + r137) + 1) + r251) sz (by omega) (by omega) (by decide) hO hl0) (gV pw_793 pw_794 pw_795 pw_796 pw_781) hV_X8_take qr259 5 hqr260 rfl rfl rfl (Nat.le_of_ble_eq_true rfl) dX8_declaration_119 ⟨(by show 5 + 1 ≤ 6; omega), (by show 25 + 6 ≤ 31; omega)⟩ ⟨Nat.le_of_ble_eq_true rfl, Nat.le_of_ble_eq_true rfl⟩ (fun v258 u256 H locs hw257 hP hD hS => ?_) (fun ux ce9 q9 H9 locs9 hux hP9 hD9 hS9 hce hcv hcl => pb_out ux (ThQ.up (Thx.same (Thx.same (Thx.f Thx.rfl (by omega)) rfl) rfl) hux) hnt hlocks hce hcv hcl hP9 hD9 hS9 (by show 5 + 1 ≤ 6; omega) (by show 25 + 6 ≤ 31; omega))
              obtain ⟨w, _⟩ := u256
              obtain ⟨hw257, h261, hO⟩ := hw257
              have h261 : (((((at9 + 1) + 1) + r137) + 1) + r251) + 1 ≤ sz := h261
              obtain rfl : v258 = some (.int (nI (((((at9 + 1) + 1) + r137) + 1) + r251))) := hw257
              have hO : OKP G h0 a (upd (upd (upd (upd F 2 (nI sz)) 9 (nI ((((((at9 + 1) + 1) + r137) + 1) + r251) + 1))) 10 0) 11 0) (updR R 1 (.ref pq)) Z B J K238 w := hO.to rfl
              refine W.widen (k := 5) (n := 25) (by show 5 + 0 ≤ 5; omega) (by show 25 + 0 ≤ 25; omega) ?_
              refine W.eq (g2 := F0 m 122 ls [.int (nI (((((at9 + 1) + 1) + r137) + 1) + r251))]) rfl ?_
              refine lv_pop hx hb dX8_declaration_122 rfl ?_
              refine lv_aload_n hx hb dX8_declaration_123 rfl (lv_at hl 0 rfl) ?_
              refine W_size (fun hz1 hz2 => ?_)
              refine vx_ret ?_
              have hz262 : WPr G K238 g36 := hwp242
              have hz263 : PgS G K238 g36 (a 1) pq dr ml (nd + 1) nm cp it s9 := hps243
              have hz264 : K238.1 r34 = 4 := hf240
              have hz265 : at9 + 3 ≤ ((((((at9 + 1) + 1) + r137) + 1) + r251) + 1) ∧ ((((((at9 + 1) + 1) + r137) + 1) + r251) + 1) ≤ sz := (by omega)
              have hO : OKP G h0 a (upd (upd (upd (upd F 2 (nI sz)) 9 (nI ((((((at9 + 1) + 1) + r137) + 1) + r251) + 1))) 10 0) 11 0) (updR R 1 (.ref pq)) Z B J K238 w := hO.to rfl
              refine W.widen (k := 6) (n := 31) (by omega) (by omega) ?_
              have hzz1 : H.size ≤ s.heap.size + (5) := (by have z : 5 ≤ 5 := (by omega); omega)
              have hzz2 : hSl H ≤ hSl s.heap + (25) := (by have z : 25 ≤ 25 := (by omega); omega)
              exact W.aret (v := .ref r34) hx hb hr (Or.inl ⟨_, rfl⟩) (Or.inr ⟨_, rfl⟩) (fun t99 ht99 hW99 => ⟨⟨_, (w, (K238, g36, r34, ((((((at9 + 1) + 1) + r137) + 1) + r251) + 1), (nd + 1))), rfl, ⟨rfl, hz262, hz263, hz264, hz265, hO⟩, by rw [ht99]; exact hP, hD, by rw [ht99]; exact hzz1, by rw [ht99]; exact hzz2⟩, hS.F ht99⟩) hS.2.2 dX8_declaration_124
            · have n266 : ¬ (r251 = 0) := fun h9 => c254 ((nI_eq (a := r251) (b := 0) (by omega) (by omega)).mpr h9)
              refine lv_aload_n hx hb dX8_declaration_111 rfl (lv_at hl 2 rfl) ?_
              refine lv_aload_n hx hb dX8_declaration_112 rfl (lv_at hl 0 rfl) ?_
              have hO : OKP G h0 a (upd (upd (upd (upd (upd (upd (upd (upd (upd F 2 (nI sz)) 9 (nI at9)) 10 0) 11 0) 9 (nI (((((at9 + 1) + 1) + r137) + 1) + r251))) 2 (nI sz)) 9 (nI (((((at9 + 1) + 1) + r137) + 1) + r251))) 10 0) 11 0) (updR (updR R 1 (.ref pq)) 1 (.ref pq)) Z B J K238 w := hO.to rfl
              obtain ⟨_, qr270, hqr271⟩ := hO.2.1 23 _ (sg_23 G h0 a _ _ _ _ _)
              refine pn_V0 (G := G) (As := [.ref r34]) (rest := []) hx hb hml hown hq hE hX pX0_al hP hD hS hA hl.1 (P_listI l G h0 a (upd (upd (upd (upd (upd F 2 (nI sz)) 9 (nI at9)) 10 0) 11 0) 9 (nI (((((at9 + 1) + 1) + r137) + 1) + r251))) (updR R 1 (.ref pq)) Z B J K238 w pq dr ml (nd + 1) nm cp it s9 r34 (((((at9 + 1) + 1) + r137) + 1) + r251) sz g36 (by omega) (by omega) hwp242 hps243 hf240 hO hl0) (gV pw_815 pw_816 pw_817 pw_796 pw_800) hV_X8_listInterfaces qr270 5 hqr271 rfl rfl rfl (Nat.le_of_ble_eq_true rfl) dX8_declaration_113 ⟨(by show 5 + 1 ≤ 6; omega), (by show 25 + 6 ≤ 31; omega)⟩ ⟨Nat.le_of_ble_eq_true rfl, Nat.le_of_ble_eq_true rfl⟩ (fun v269 u267 H locs hw268 hP hD hS => ?_) (fun ux ce9 q9 H9 locs9 hux hP9 hD9 hS9 hce hcv hcl => pb_out ux (ThQ.up (Thx.same (Thx.same (Thx.same (Thx.same (Thx.f Thx.rfl (by omega)) rfl) rfl) rfl) rfl) hux) hnt hlocks hce hcv hcl hP9 hD9 hS9 (by show 5 + 1 ≤ 6; omega) (by show 25 + 6 ≤ 31; omega))
              obtain ⟨w, K272, g273, at274⟩ := u267
              obtain ⟨hw268, h275, h276, h277, h278, hO⟩ := hw268
              have h275 : WPr G K272 g273 := h275
              have h276 : PgS G K272 g273 (a 1) pq dr ml (nd + 1) nm cp it s9 := h276
              have h277 : K272.1 r34 = 4 := h277
              have h278 : (((((at9 + 1) + 1) + r137) + 1) + r251) + 1 ≤ at274 ∧ at274 ≤ sz := h278
              obtain rfl : v269 = none := hw268
              have hO : OKP G h0 a (upd (upd (upd (upd F 2 (nI sz)) 9 (nI at274)) 10 0) 11 0) (updR R 1 (.ref pq)) Z B J K272 w := hO.to rfl
              refine W.widen (k := 5) (n := 25) (by show 5 + 0 ≤ 5; omega) (by show 25 + 0 ≤ 25; omega) ?_
              refine W.eq (g2 := F0 m 116 ls []) rfl ?_
              refine lv_aload_n hx hb dX8_declaration_116 rfl (lv_at hl 2 rfl) ?_
              refine lv_bipush (v := 32) hx hb dX8_declaration_117 (by decide) ?_
              have hO : OKW G h0 a (upd (upd (upd (upd (upd (upd (upd F 2 (nI sz)) 9 (nI at9)) 10 0) 11 0) 9 (nI at274)) 2 (nI sz)) 9 (nI at274)) (updR R 1 (.ref pq)) Z B J K272.1 (fun q99 x99 => x99 = rep G a K272 q99) w := hO.to rfl
              obtain ⟨_, qr282, hqr283⟩ := hO.2.1 23 _ (sg_23 G h0 a _ _ _ _ _)
              refine pn_V0 (G := G) (As := [.int 32]) (rest := []) hx hb hml hown hq hE hX pX0_al hP hD hS hA hl.1 (P_take l G h0 a (upd (upd (upd (upd (upd F 2 (nI sz)) 9 (nI at9)) 10 0) 11 0) 9 (nI at274)) (updR R 1 (.ref pq)) Z B J K272.1 (fun q99 x99 => x99 = rep G a K272 q99) w 32 at274 sz (by omega) (by omega) (by decide) hO hl0) (gV pw_793 pw_794 pw_795 pw_796 pw_781) hV_X8_take qr282 5 hqr283 rfl rfl rfl (Nat.le_of_ble_eq_true rfl) dX8_declaration_119 ⟨(by show 5 + 1 ≤ 6; omega), (by show 25 + 6 ≤ 31; omega)⟩ ⟨Nat.le_of_ble_eq_true rfl, Nat.le_of_ble_eq_true rfl⟩ (fun v281 u279 H locs hw280 hP hD hS => ?_) (fun ux ce9 q9 H9 locs9 hux hP9 hD9 hS9 hce hcv hcl => pb_out ux (ThQ.up (Thx.same (Thx.same (Thx.f Thx.rfl (by omega)) rfl) rfl) hux) hnt hlocks hce hcv hcl hP9 hD9 hS9 (by show 5 + 1 ≤ 6; omega) (by show 25 + 6 ≤ 31; omega))
              obtain ⟨w, _⟩ := u279
              obtain ⟨hw280, h284, hO⟩ := hw280
              have h284 : at274 + 1 ≤ sz := h284
              obtain rfl : v281 = some (.int (nI at274)) := hw280
              have hO : OKP G h0 a (upd (upd (upd (upd F 2 (nI sz)) 9 (nI (at274 + 1))) 10 0) 11 0) (updR R 1 (.ref pq)) Z B J K272 w := hO.to rfl
              refine W.widen (k := 5) (n := 25) (by show 5 + 0 ≤ 5; omega) (by show 25 + 0 ≤ 25; omega) ?_
              refine W.eq (g2 := F0 m 122 ls [.int (nI at274)]) rfl ?_
              refine lv_pop hx hb dX8_declaration_122 rfl ?_
              refine lv_aload_n hx hb dX8_declaration_123 rfl (lv_at hl 0 rfl) ?_
              refine W_size (fun hz1 hz2 => ?_)
              refine vx_ret ?_
              have hz285 : WPr G K272 g273 := h275
              have hz286 : PgS G K272 g273 (a 1) pq dr ml (nd + 1) nm cp it s9 := h276
              have hz287 : K272.1 r34 = 4 := h277
              have hz288 : at9 + 3 ≤ (at274 + 1) ∧ (at274 + 1) ≤ sz := (by omega)
              have hO : OKP G h0 a (upd (upd (upd (upd F 2 (nI sz)) 9 (nI (at274 + 1))) 10 0) 11 0) (updR R 1 (.ref pq)) Z B J K272 w := hO.to rfl
              refine W.widen (k := 6) (n := 31) (by omega) (by omega) ?_
              have hzz1 : H.size ≤ s.heap.size + (5) := (by have z : 5 ≤ 5 := (by omega); omega)
              have hzz2 : hSl H ≤ hSl s.heap + (25) := (by have z : 25 ≤ 25 := (by omega); omega)
              exact W.aret (v := .ref r34) hx hb hr (Or.inl ⟨_, rfl⟩) (Or.inr ⟨_, rfl⟩) (fun t99 ht99 hW99 => ⟨⟨_, (w, (K272, g273, r34, (at274 + 1), (nd + 1))), rfl, ⟨rfl, hz285, hz286, hz287, hz288, hO⟩, by rw [ht99]; exact hP, hD, by rw [ht99]; exact hzz1, by rw [ht99]; exact hzz2⟩, hS.F ht99⟩) hS.2.2 dX8_declaration_124
          · have n289 : ¬ (r6 = 0) := fun h9 => c244 ((nI_eq (a := r6) (b := 0) (by omega) (by omega)).mpr h9)
            refine lv_bipush (v := 7) hx hb dX8_declaration_98 (by decide) ?_
            refine lv_goto (tgt := 105) hx hb dX8_declaration_100 (by decide) ?_
            have hO : OKW G h0 a (upd (upd (upd (upd (upd (upd F 2 (nI sz)) 9 (nI ((((at9 + 1) + 1) + r137) + 1))) 10 0) 11 0) 2 (nI sz)) 9 (nI ((((at9 + 1) + 1) + r137) + 1))) (updR R 1 (.ref pq)) Z B J K238.1 (fun q99 x99 => x99 = rep G a K238 q99) w := hO.to rfl
            obtain ⟨_, qr293, hqr294⟩ := hO.2.1 23 _ (sg_23 G h0 a _ _ _ _ _)
            refine pc_V0 (G := G) (As := [.int 7]) (rest := []) hx hb hml hown hq hE hX pX0_al hP hD hS hA hl.1 (P_takeIf l G h0 a (upd (upd (upd (upd F 2 (nI sz)) 9 (nI ((((at9 + 1) + 1) + r137) + 1))) 10 0) 11 0) (updR R 1 (.ref pq)) Z B J K238.1 (fun q99 x99 => x99 = rep G a K238 q99) w 7 ((((at9 + 1) + 1) + r137) + 1) sz (by omega) (by omega) (by decide) hO) (gV pw_797 pw_798 pw_799 pw_796 pw_789) hV_X8_takeIf qr293 5 hqr294 rfl rfl rfl (Nat.le_of_ble_eq_true rfl) dX8_declaration_105 ⟨(by show 5 + 0 ≤ 6; omega), (by show 25 + 0 ≤ 31; omega)⟩ ⟨Nat.le_of_ble_eq_true rfl, Nat.le_of_ble_eq_true rfl⟩ (fun v292 u290 H locs hw291 hP hD hS => ?_)
            obtain ⟨w, r295⟩ := u290
            obtain ⟨hw291, h296, h297, hO⟩ := hw291
            have h296 : r295 ≤ 1 := h296
            have h297 : ((((at9 + 1) + 1) + r137) + 1) + r295 ≤ sz := h297
            obtain rfl : v292 = some (.int (nI r295)) := hw291
            have hO : OKP G h0 a (upd (upd (upd (upd F 2 (nI sz)) 9 (nI (((((at9 + 1) + 1) + r137) + 1) + r295))) 10 0) 11 0) (updR R 1 (.ref pq)) Z B J K238 w := hO.to rfl
            refine W.widen (k := 5) (n := 25) (by show 5 + 0 ≤ 5; omega) (by show 25 + 0 ≤ 25; omega) ?_
            refine W.eq (g2 := F0 m 108 ls [.int (nI r295)]) rfl ?_
            refine lv_if_eq (tgt := 116) hx hb dX8_declaration_108 (by decide) (fun c298 => ?_) (fun c298 => ?_)
            · have n299 : r295 = 0 := (nI_eq (a := r295) (b := 0) (by omega) (by omega)).mp c298
              refine lv_aload_n hx hb dX8_declaration_116 rfl (lv_at hl 2 rfl) ?_
              refine lv_bipush (v := 32) hx hb dX8_declaration_117 (by decide) ?_
              have hO : OKW G h0 a (upd (upd (upd (upd (upd (upd (upd F 2 (nI sz)) 9 (nI at9)) 10 0) 11 0) 9 (nI (((((at9 + 1) + 1) + r137) + 1) + r295))) 2 (nI sz)) 9 (nI (((((at9 + 1) + 1) + r137) + 1) + r295))) (updR R 1 (.ref pq)) Z B J K238.1 (fun q99 x99 => x99 = rep G a K238 q99) w := hO.to rfl
              obtain ⟨_, qr303, hqr304⟩ := hO.2.1 23 _ (sg_23 G h0 a _ _ _ _ _)
              refine pn_V0 (G := G) (As := [.int 32]) (rest := []) hx hb hml hown hq hE hX pX0_al hP hD hS hA hl.1 (P_take l G h0 a (upd (upd (upd (upd (upd F 2 (nI sz)) 9 (nI at9)) 10 0) 11 0) 9 (nI (((((at9 + 1) + 1) + r137) + 1) + r295))) (updR R 1 (.ref pq)) Z B J K238.1 (fun q99 x99 => x99 = rep G a K238 q99) w 32 (((((at9 + 1) + 1) + r137) + 1) + r295) sz (by omega) (by omega) (by decide) hO hl0) (gV pw_793 pw_794 pw_795 pw_796 pw_781) hV_X8_take qr303 5 hqr304 rfl rfl rfl (Nat.le_of_ble_eq_true rfl) dX8_declaration_119 ⟨(by show 5 + 1 ≤ 6; omega), (by show 25 + 6 ≤ 31; omega)⟩ ⟨Nat.le_of_ble_eq_true rfl, Nat.le_of_ble_eq_true rfl⟩ (fun v302 u300 H locs hw301 hP hD hS => ?_) (fun ux ce9 q9 H9 locs9 hux hP9 hD9 hS9 hce hcv hcl => pb_out ux (ThQ.up (Thx.same (Thx.same (Thx.f Thx.rfl (by omega)) rfl) rfl) hux) hnt hlocks hce hcv hcl hP9 hD9 hS9 (by show 5 + 1 ≤ 6; omega) (by show 25 + 6 ≤ 31; omega))
              obtain ⟨w, _⟩ := u300
              obtain ⟨hw301, h305, hO⟩ := hw301
              have h305 : (((((at9 + 1) + 1) + r137) + 1) + r295) + 1 ≤ sz := h305
              obtain rfl : v302 = some (.int (nI (((((at9 + 1) + 1) + r137) + 1) + r295))) := hw301
              have hO : OKP G h0 a (upd (upd (upd (upd F 2 (nI sz)) 9 (nI ((((((at9 + 1) + 1) + r137) + 1) + r295) + 1))) 10 0) 11 0) (updR R 1 (.ref pq)) Z B J K238 w := hO.to rfl
              refine W.widen (k := 5) (n := 25) (by show 5 + 0 ≤ 5; omega) (by show 25 + 0 ≤ 25; omega) ?_
              refine W.eq (g2 := F0 m 122 ls [.int (nI (((((at9 + 1) + 1) + r137) + 1) + r295))]) rfl ?_
              refine lv_pop hx hb dX8_declaration_122 rfl ?_
              refine lv_aload_n hx hb dX8_declaration_123 rfl (lv_at hl 0 rfl) ?_
              refine W_size (fun hz1 hz2 => ?_)
              refine vx_ret ?_
              have hz306 : WPr G K238 g36 := hwp242
              have hz307 : PgS G K238 g36 (a 1) pq dr ml (nd + 1) nm cp it s9 := hps243
              have hz308 : K238.1 r34 = 4 := hf240
              have hz309 : at9 + 3 ≤ ((((((at9 + 1) + 1) + r137) + 1) + r295) + 1) ∧ ((((((at9 + 1) + 1) + r137) + 1) + r295) + 1) ≤ sz := (by omega)
              have hO : OKP G h0 a (upd (upd (upd (upd F 2 (nI sz)) 9 (nI ((((((at9 + 1) + 1) + r137) + 1) + r295) + 1))) 10 0) 11 0) (updR R 1 (.ref pq)) Z B J K238 w := hO.to rfl
              refine W.widen (k := 6) (n := 31) (by omega) (by omega) ?_
              have hzz1 : H.size ≤ s.heap.size + (5) := (by have z : 5 ≤ 5 := (by omega); omega)
              have hzz2 : hSl H ≤ hSl s.heap + (25) := (by have z : 25 ≤ 25 := (by omega); omega)
              exact W.aret (v := .ref r34) hx hb hr (Or.inl ⟨_, rfl⟩) (Or.inr ⟨_, rfl⟩) (fun t99 ht99 hW99 => ⟨⟨_, (w, (K238, g36, r34, ((((((at9 + 1) + 1) + r137) + 1) + r295) + 1), (nd + 1))), rfl, ⟨rfl, hz306, hz307, hz308, hz309, hO⟩, by rw [ht99]; exact hP, hD, by rw [ht99]; exact hzz1, by rw [ht99]; exact hzz2⟩, hS.F ht99⟩) hS.2.2 dX8_declaration_124
            · have n310 : ¬ (r295 = 0) := fun h9 => c298 ((nI_eq (a := r295) (b := 0) (by omega) (by omega)).mpr h9)
              refine lv_aload_n hx hb dX8_declaration_111 rfl (lv_at hl 2 rfl) ?_
              refine lv_aload_n hx hb dX8_declaration_112 rfl (lv_at hl 0 rfl) ?_
              have hO : OKP G h0 a (upd (upd (upd (upd (upd (upd (upd (upd (upd F 2 (nI sz)) 9 (nI at9)) 10 0) 11 0) 9 (nI (((((at9 + 1) + 1) + r137) + 1) + r295))) 2 (nI sz)) 9 (nI (((((at9 + 1) + 1) + r137) + 1) + r295))) 10 0) 11 0) (updR (updR R 1 (.ref pq)) 1 (.ref pq)) Z B J K238 w := hO.to rfl
              obtain ⟨_, qr314, hqr315⟩ := hO.2.1 23 _ (sg_23 G h0 a _ _ _ _ _)
              refine pn_V0 (G := G) (As := [.ref r34]) (rest := []) hx hb hml hown hq hE hX pX0_al hP hD hS hA hl.1 (P_listI l G h0 a (upd (upd (upd (upd (upd F 2 (nI sz)) 9 (nI at9)) 10 0) 11 0) 9 (nI (((((at9 + 1) + 1) + r137) + 1) + r295))) (updR R 1 (.ref pq)) Z B J K238 w pq dr ml (nd + 1) nm cp it s9 r34 (((((at9 + 1) + 1) + r137) + 1) + r295) sz g36 (by omega) (by omega) hwp242 hps243 hf240 hO hl0) (gV pw_815 pw_816 pw_817 pw_796 pw_800) hV_X8_listInterfaces qr314 5 hqr315 rfl rfl rfl (Nat.le_of_ble_eq_true rfl) dX8_declaration_113 ⟨(by show 5 + 1 ≤ 6; omega), (by show 25 + 6 ≤ 31; omega)⟩ ⟨Nat.le_of_ble_eq_true rfl, Nat.le_of_ble_eq_true rfl⟩ (fun v313 u311 H locs hw312 hP hD hS => ?_) (fun ux ce9 q9 H9 locs9 hux hP9 hD9 hS9 hce hcv hcl => pb_out ux (ThQ.up (Thx.same (Thx.same (Thx.same (Thx.same (Thx.f Thx.rfl (by omega)) rfl) rfl) rfl) rfl) hux) hnt hlocks hce hcv hcl hP9 hD9 hS9 (by show 5 + 1 ≤ 6; omega) (by show 25 + 6 ≤ 31; omega))
              obtain ⟨w, K316, g317, at318⟩ := u311
              obtain ⟨hw312, h319, h320, h321, h322, hO⟩ := hw312
              have h319 : WPr G K316 g317 := h319
              have h320 : PgS G K316 g317 (a 1) pq dr ml (nd + 1) nm cp it s9 := h320
              have h321 : K316.1 r34 = 4 := h321
              have h322 : (((((at9 + 1) + 1) + r137) + 1) + r295) + 1 ≤ at318 ∧ at318 ≤ sz := h322
              obtain rfl : v313 = none := hw312
              have hO : OKP G h0 a (upd (upd (upd (upd F 2 (nI sz)) 9 (nI at318)) 10 0) 11 0) (updR R 1 (.ref pq)) Z B J K316 w := hO.to rfl
              refine W.widen (k := 5) (n := 25) (by show 5 + 0 ≤ 5; omega) (by show 25 + 0 ≤ 25; omega) ?_
              refine W.eq (g2 := F0 m 116 ls []) rfl ?_
              refine lv_aload_n hx hb dX8_declaration_116 rfl (lv_at hl 2 rfl) ?_
              refine lv_bipush (v := 32) hx hb dX8_declaration_117 (by decide) ?_
              have hO : OKW G h0 a (upd (upd (upd (upd (upd (upd (upd F 2 (nI sz)) 9 (nI at9)) 10 0) 11 0) 9 (nI at318)) 2 (nI sz)) 9 (nI at318)) (updR R 1 (.ref pq)) Z B J K316.1 (fun q99 x99 => x99 = rep G a K316 q99) w := hO.to rfl
              obtain ⟨_, qr326, hqr327⟩ := hO.2.1 23 _ (sg_23 G h0 a _ _ _ _ _)
              refine pn_V0 (G := G) (As := [.int 32]) (rest := []) hx hb hml hown hq hE hX pX0_al hP hD hS hA hl.1 (P_take l G h0 a (upd (upd (upd (upd (upd F 2 (nI sz)) 9 (nI at9)) 10 0) 11 0) 9 (nI at318)) (updR R 1 (.ref pq)) Z B J K316.1 (fun q99 x99 => x99 = rep G a K316 q99) w 32 at318 sz (by omega) (by omega) (by decide) hO hl0) (gV pw_793 pw_794 pw_795 pw_796 pw_781) hV_X8_take qr326 5 hqr327 rfl rfl rfl (Nat.le_of_ble_eq_true rfl) dX8_declaration_119 ⟨(by show 5 + 1 ≤ 6; omega), (by show 25 + 6 ≤ 31; omega)⟩ ⟨Nat.le_of_ble_eq_true rfl, Nat.le_of_ble_eq_true rfl⟩ (fun v325 u323 H locs hw324 hP hD hS => ?_) (fun ux ce9 q9 H9 locs9 hux hP9 hD9 hS9 hce hcv hcl => pb_out ux (ThQ.up (Thx.same (Thx.same (Thx.f Thx.rfl (by omega)) rfl) rfl) hux) hnt hlocks hce hcv hcl hP9 hD9 hS9 (by show 5 + 1 ≤ 6; omega) (by show 25 + 6 ≤ 31; omega))
              obtain ⟨w, _⟩ := u323
              obtain ⟨hw324, h328, hO⟩ := hw324
              have h328 : at318 + 1 ≤ sz := h328
              obtain rfl : v325 = some (.int (nI at318)) := hw324
              have hO : OKP G h0 a (upd (upd (upd (upd F 2 (nI sz)) 9 (nI (at318 + 1))) 10 0) 11 0) (updR R 1 (.ref pq)) Z B J K316 w := hO.to rfl
              refine W.widen (k := 5) (n := 25) (by show 5 + 0 ≤ 5; omega) (by show 25 + 0 ≤ 25; omega) ?_
              refine W.eq (g2 := F0 m 122 ls [.int (nI at318)]) rfl ?_
              refine lv_pop hx hb dX8_declaration_122 rfl ?_
              refine lv_aload_n hx hb dX8_declaration_123 rfl (lv_at hl 0 rfl) ?_
              refine W_size (fun hz1 hz2 => ?_)
              refine vx_ret ?_
              have hz329 : WPr G K316 g317 := h319
              have hz330 : PgS G K316 g317 (a 1) pq dr ml (nd + 1) nm cp it s9 := h320
              have hz331 : K316.1 r34 = 4 := h321
              have hz332 : at9 + 3 ≤ (at318 + 1) ∧ (at318 + 1) ≤ sz := (by omega)
              have hO : OKP G h0 a (upd (upd (upd (upd F 2 (nI sz)) 9 (nI (at318 + 1))) 10 0) 11 0) (updR R 1 (.ref pq)) Z B J K316 w := hO.to rfl
              refine W.widen (k := 6) (n := 31) (by omega) (by omega) ?_
              have hzz1 : H.size ≤ s.heap.size + (5) := (by have z : 5 ≤ 5 := (by omega); omega)
              have hzz2 : hSl H ≤ hSl s.heap + (25) := (by have z : 25 ≤ 25 := (by omega); omega)
              exact W.aret (v := .ref r34) hx hb hr (Or.inl ⟨_, rfl⟩) (Or.inr ⟨_, rfl⟩) (fun t99 ht99 hW99 => ⟨⟨_, (w, (K316, g317, r34, (at318 + 1), (nd + 1))), rfl, ⟨rfl, hz329, hz330, hz331, hz332, hO⟩, by rw [ht99]; exact hP, hD, by rw [ht99]; exact hzz1, by rw [ht99]; exact hzz2⟩, hS.F ht99⟩) hS.2.2 dX8_declaration_124
    · have n333 : ¬ (r16 = 0) := fun h9 => c19 ((nI_eq (a := r16) (b := 0) (by omega) (by omega)).mpr h9)
      refine lv_aload_n hx hb dX8_declaration_33 rfl (lv_at hl 1 rfl) ?_
      refine c_get (v := .ref (a 1)) (C := RX8) (Tc := TX8) (N := 5) (ci := 5) hx hb hq pin_wsX80 hown hE hP hO 23 (sg_23 G h0 a _ _ _ _ _) rfl 0 (by decide) (hq _ pw_774) (fun _ h9 => h9) rfl dX8_declaration_34 ?_
      refine lv_iconst (v := 2) hx hb dX8_declaration_37 (by decide) ?_
      refine lv_aload_n hx hb dX8_declaration_38 rfl (lv_at hl 1 rfl) ?_
      refine c_get (v := .int (nI at9)) (C := RX8) (Tc := TX8) (N := 5) (ci := 5) hx hb hq pin_wsX80 hown hE hP hO 23 (sg_23 G h0 a _ _ _ _ _) rfl 2 (by decide) (hq _ pw_776) (fun _ h9 => h9) rfl dX8_declaration_39 ?_
      have hO : OKW G h0 a (upd (upd (upd (upd (upd F 2 (nI sz)) 9 (nI at9)) 10 0) 11 0) 2 (nI sz)) (updR R 1 (.ref pq)) Z B J K.1 (fun q99 x99 => x99 = rep G a K q99) w := hO.to rfl
      obtain ⟨_, qr337, hqr338⟩ := hO.2.1 2 _ (sg_2 G h0 a _ _ _ _ _)
      refine pn_V0 (G := G) (As := [.int 2, .int (nI at9)]) (rest := []) hx hb hml hown hq hE hX pX0_al hP hD hS hA hl.1 (K_fail l G h0 a (upd (upd (upd (upd F 2 (nI sz)) 9 (nI at9)) 10 0) 11 0) (updR R 1 (.ref pq)) Z B J K.1 (fun q99 x99 => x99 = rep G a K q99) w 2 (nI at9) sz (by omega) hO hl0) (gV pw_779 pw_65 pw_66 pw_59 pw_43) hV_X10_fail qr337 7 hqr338 rfl rfl rfl (Nat.le_of_ble_eq_true rfl) dX8_declaration_42 ⟨(by show 0 + 1 ≤ 6; omega), (by show 0 + 6 ≤ 31; omega)⟩ ⟨Nat.le_of_ble_eq_true rfl, Nat.le_of_ble_eq_true rfl⟩ (fun v336 u334 H locs hw335 hP hD hS => hw335.elim) (fun ux ce9 q9 H9 locs9 hux hP9 hD9 hS9 hce hcv hcl => pb_out ux (ThQ.up (Thx.same Thx.rfl rfl) hux) hnt hlocks hce hcv hcl hP9 hD9 hS9 (by show 0 + 1 ≤ 6; omega) (by show 0 + 6 ≤ 31; omega))
  · have n339 : r6 = 0 := (nI_eq (a := r6) (b := 0) (by omega) (by omega)).mp c9
    refine lv_aload_n hx hb dX8_declaration_11 rfl (lv_at hl 1 rfl) ?_
    refine lv_iconst (v := 4) hx hb dX8_declaration_12 (by decide) ?_
    have hO : OKW G h0 a (upd (upd (upd (upd (upd (upd F 2 (nI sz)) 9 (nI at9)) 10 0) 11 0) 2 (nI sz)) 9 (nI at9)) (updR R 1 (.ref pq)) Z B J K.1 (fun q99 x99 => x99 = rep G a K q99) w := hO.to rfl
    obtain ⟨_, qr343, hqr344⟩ := hO.2.1 23 _ (sg_23 G h0 a _ _ _ _ _)
    refine pc_V0 (G := G) (As := [.int 4]) (rest := []) hx hb hml hown hq hE hX pX0_al hP hD hS hA hl.1 (P_seesT l G h0 a (upd (upd (upd (upd F 2 (nI sz)) 9 (nI at9)) 10 0) 11 0) (updR R 1 (.ref pq)) Z B J K.1 (fun q99 x99 => x99 = rep G a K q99) w 4 at9 sz (by omega) (by omega) (by decide) hO) (gV pw_803 pw_804 pw_805 pw_796 pw_775) hV_X8_sees qr343 5 hqr344 rfl rfl rfl (Nat.le_of_ble_eq_true rfl) dX8_declaration_13 ⟨(by show 0 + 0 ≤ 6; omega), (by show 0 + 0 ≤ 31; omega)⟩ ⟨Nat.le_of_ble_eq_true rfl, Nat.le_of_ble_eq_true rfl⟩ (fun v342 u340 H locs hw341 hP hD hS => ?_)
    obtain ⟨w, r345⟩ := u340
    obtain ⟨hw341, h346, h347, hO⟩ := hw341
    have h346 : r345 ≤ 1 := h346
    have h347 : at9 + r345 ≤ sz := h347
    obtain rfl : v342 = some (.int (nI r345)) := hw341
    have hO : OKP G h0 a (upd (upd (upd (upd F 2 (nI sz)) 9 (nI at9)) 10 0) 11 0) (updR R 1 (.ref pq)) Z B J K w := hO.to rfl
    refine W.widen (k := 0) (n := 0) (Nat.le_of_ble_eq_true rfl) (Nat.le_of_ble_eq_true rfl) ?_
    refine W.eq (g2 := F0 m 16 ls [.int (nI r345)]) rfl ?_
    refine lv_if_ne (tgt := 23) hx hb dX8_declaration_16 (by decide) (fun c348 => ?_) (fun c348 => ?_)
    · have n349 : ¬ (r345 = 0) := fun h9 => c348 ((nI_eq (a := r345) (b := 0) (by omega) (by omega)).mpr h9)
      refine lv_aload_n hx hb dX8_declaration_23 rfl (lv_at hl 1 rfl) ?_
      refine c_get (v := .ref pq) (C := RX8) (Tc := TX8) (N := 5) (ci := 5) hx hb hq pin_wsX80 hown hE hP hO 23 (sg_23 G h0 a _ _ _ _ _) rfl 1 (by decide) (hq _ pw_801) (fun _ h9 => h9) rfl dX8_declaration_24 ?_
      have hO : OKP G h0 a (upd (upd (upd (upd F 2 (nI sz)) 9 (nI at9)) 10 0) 11 0) (updR R 1 (.ref pq)) Z B J K w := hO.to rfl
      obtain ⟨qr353, hqr354⟩ := p_recv hO (by rw [hp1]; decide) (rep_7 hp1)
      refine pc_V0 (G := G) (As := []) (rest := []) hx hb hml hown hq hE hX pX0_al hP hD hS hA hl.1 (G_isFull l G h0 a (upd (upd (upd (upd F 2 (nI sz)) 9 (nI at9)) 10 0) 11 0) (updR R 1 (.ref pq)) Z B J K w pq dr ml nd g hps.1 hO) (gV pw_809 pw_810 pw_811 pw_106 pw_780) hV_X9_isFull qr353 6 hqr354 rfl rfl rfl (Nat.le_of_ble_eq_true rfl) dX8_declaration_27 ⟨(by show 0 + 0 ≤ 6; omega), (by show 0 + 0 ≤ 31; omega)⟩ ⟨Nat.le_of_ble_eq_true rfl, Nat.le_of_ble_eq_true rfl⟩ (fun v352 u350 H locs hw351 hP hD hS => ?_)
      obtain ⟨w, r355⟩ := u350
      obtain ⟨hw351, h356, h357, hO⟩ := hw351
      have h356 : r355 ≤ 1 := h356
      have h357 : nd + 1 ≤ 37 + r355 := h357
      obtain rfl : v352 = some (.int (nI r355)) := hw351
      have hO : OKP G h0 a (upd (upd (upd (upd F 2 (nI sz)) 9 (nI at9)) 10 0) 11 0) (updR R 1 (.ref pq)) Z B J K w := hO.to rfl
      refine W.widen (k := 0) (n := 0) (Nat.le_of_ble_eq_true rfl) (Nat.le_of_ble_eq_true rfl) ?_
      refine W.eq (g2 := F0 m 30 ls [.int (nI r355)]) rfl ?_
      refine lv_if_eq (tgt := 45) hx hb dX8_declaration_30 (by decide) (fun c358 => ?_) (fun c358 => ?_)
      · have n359 : r355 = 0 := (nI_eq (a := r355) (b := 0) (by omega) (by omega)).mp c358
        refine lv_aload_n hx hb dX8_declaration_45 rfl (lv_at hl 1 rfl) ?_
        refine lv_dup hx hb dX8_declaration_46 rfl ?_
        refine c_get (v := .int (nI at9)) (C := RX8) (Tc := TX8) (N := 5) (ci := 5) hx hb hq pin_wsX80 hown hE hP hO 23 (sg_23 G h0 a _ _ _ _ _) rfl 2 (by decide) (hq _ pw_776) (fun _ h9 => h9) rfl dX8_declaration_47 ?_
        refine lv_iconst (v := 1) hx hb dX8_declaration_50 (by decide) ?_
        refine lv_iadd hx hb dX8_declaration_51 ?_
        refine lv_topi (fun x360 e361 => ?_)
        obtain rfl : x360 = nI (at9 + 1) := e361.trans (nI_add (at9) (1))
        refine c_put (v := .int (nI (at9 + 1))) (ty := .int) (C := RX8) (Tc := TX8) (N := 5) (ci := 5) hx hb hq pin_wsX80 tyX8 tyX8_ok nmX8 hown hE hP hD hS hO 23 (sg_23 G h0 a _ _ _ _ _) rfl 2 (by decide) (hq _ pw_776) (fun _ h9 => h9) rfl (by decide +kernel) rfl rfl (Nat.le_of_ble_eq_true rfl) (sf_9 G h0 a _ _ _ _ _ (nI (at9 + 1))) dX8_declaration_52 (fun H locs w hP hD hS hO => ?_)
        refine lv_aload_n hx hb dX8_declaration_55 rfl (lv_at hl 1 rfl) ?_
        refine c_get (v := .ref pq) (C := RX8) (Tc := TX8) (N := 5) (ci := 5) hx hb hq pin_wsX80 hown hE hP hO 23 (sg_23 G h0 a _ _ _ _ _) rfl 1 (by decide) (hq _ pw_801) (fun _ h9 => h9) rfl dX8_declaration_56 ?_
        refine lv_aload_n hx hb dX8_declaration_59 rfl (lv_at hl 1 rfl) ?_
        refine lv_bipush (v := 65) hx hb dX8_declaration_60 (by decide) ?_
        have hO : OKW G h0 a (upd (upd (upd (upd (upd (upd (upd F 2 (nI sz)) 9 (nI at9)) 10 0) 11 0) 9 (nI (at9 + 1))) 2 (nI sz)) 9 (nI (at9 + 1))) (updR R 1 (.ref pq)) Z B J K.1 (fun q99 x99 => x99 = rep G a K q99) w := hO.to rfl
        obtain ⟨_, qr365, hqr366⟩ := hO.2.1 23 _ (sg_23 G h0 a _ _ _ _ _)
        refine pn_V0 (G := G) (As := [.int 65]) (rest := [.ref pq]) hx hb hml hown hq hE hX pX0_al hP hD hS hA hl.1 (P_take l G h0 a (upd (upd (upd (upd (upd F 2 (nI sz)) 9 (nI at9)) 10 0) 11 0) 9 (nI (at9 + 1))) (updR R 1 (.ref pq)) Z B J K.1 (fun q99 x99 => x99 = rep G a K q99) w 65 (at9 + 1) sz (by omega) (by omega) (by decide) hO hl0) (gV pw_793 pw_794 pw_795 pw_796 pw_781) hV_X8_take qr365 5 hqr366 rfl rfl rfl (Nat.le_of_ble_eq_true rfl) dX8_declaration_62 ⟨(by show 0 + 1 ≤ 6; omega), (by show 0 + 6 ≤ 31; omega)⟩ ⟨Nat.le_of_ble_eq_true rfl, Nat.le_of_ble_eq_true rfl⟩ (fun v364 u362 H locs hw363 hP hD hS => ?_) (fun ux ce9 q9 H9 locs9 hux hP9 hD9 hS9 hce hcv hcl => pb_out ux (ThQ.up (Thx.same (Thx.same (Thx.f Thx.rfl (by omega)) rfl) rfl) hux) hnt hlocks hce hcv hcl hP9 hD9 hS9 (by show 0 + 1 ≤ 6; omega) (by show 0 + 6 ≤ 31; omega))
        obtain ⟨w, _⟩ := u362
        obtain ⟨hw363, h367, hO⟩ := hw363
        have h367 : (at9 + 1) + 1 ≤ sz := h367
        obtain rfl : v364 = some (.int (nI (at9 + 1))) := hw363
        have hO : OKP G h0 a (upd (upd (upd (upd F 2 (nI sz)) 9 (nI ((at9 + 1) + 1))) 10 0) 11 0) (updR R 1 (.ref pq)) Z B J K w := hO.to rfl
        refine W.widen (k := 0) (n := 0) (by show 0 + 0 ≤ 0; omega) (by show 0 + 0 ≤ 0; omega) ?_
        refine W.eq (g2 := F0 m 65 ls [.int (nI (at9 + 1)), .ref pq]) rfl ?_
        refine lv_iload_n hx hb dX8_declaration_65 rfl (lv_at hl 0 rfl) ?_
        have hO : OKP G h0 a (upd (upd (upd (upd (upd F 2 (nI sz)) 9 (nI ((at9 + 1) + 1))) 10 0) 11 0) 2 (nI sz)) (updR R 1 (.ref pq)) Z B J K w := hO.to rfl
        obtain ⟨qr371, hqr372⟩ := p_recv hO (by rw [hp1]; decide) (rep_7 hp1)
        refine pc_V0 (G := G) (As := [.int (nI (at9 + 1)), .int (nI r6)]) (rest := []) hx hb hml hown hq hE hX pX0_al hP hD hS hA hl.1 (G_addDecl l G h0 a (upd (upd (upd (upd F 2 (nI sz)) 9 (nI ((at9 + 1) + 1))) 10 0) 11 0) (updR R 1 (.ref pq)) Z B J K w pq dr ml nd nm cp it s9 (nI (at9 + 1)) r6 sz g (by omega) hwp hps (by omega) (by omega) hO) (gV pw_812 pw_813 pw_814 pw_106 pw_788) hV_X9_addDecl qr371 6 hqr372 rfl rfl rfl (Nat.le_of_ble_eq_true rfl) dX8_declaration_66 ⟨(by show 0 + 5 ≤ 6; omega), (by show 0 + 25 ≤ 31; omega)⟩ ⟨Nat.le_of_ble_eq_true rfl, Nat.le_of_ble_eq_true rfl⟩ (fun v370 u368 H locs hw369 hP hD hS => ?_)
        obtain ⟨w, r373, K374, g375⟩ := u368
        obtain ⟨hw369, h376, h377, h378, hO⟩ := hw369
        have h376 : WPr G K374 g375 := h376
        have h377 : PgS G K374 g375 (a 1) pq dr ml (nd + 1) nm cp it s9 := h377
        have h378 : K374.1 r373 = 4 := h378
        obtain rfl : v370 = some (.ref r373) := hw369
        have hO : OKP G h0 a (upd (upd (upd (upd F 2 (nI sz)) 9 (nI ((at9 + 1) + 1))) 10 0) 11 0) (updR R 1 (.ref pq)) Z B J K374 w := hO.to rfl
        refine W.widen (k := 5) (n := 25) (by show 0 + 5 ≤ 5; omega) (by show 0 + 25 ≤ 25; omega) ?_
        refine W.eq (g2 := F0 m 69 ls [.ref r373]) rfl ?_
        refine lv_astore_n (lv' := [(2, .ref r373), (1, .int (nI r6)), (0, .ref (a 3))]) hx hb dX8_declaration_69 rfl hl (by decide) rfl (fun ls hl => ?_)
        refine lv_iload_n hx hb dX8_declaration_70 rfl (lv_at hl 1 rfl) ?_
        refine lv_if_ne (tgt := 93) hx hb dX8_declaration_71 (by decide) (fun c379 => ?_) (fun c379 => ?_)
        · have n380 : ¬ (r6 = 0) := fun h9 => c379 ((nI_eq (a := r6) (b := 0) (by omega) (by omega)).mpr h9)
          refine lv_aload_n hx hb dX8_declaration_93 rfl (lv_at hl 2 rfl) ?_
          refine lv_iload_n hx hb dX8_declaration_94 rfl (lv_at hl 1 rfl) ?_
          refine lv_if_eq (tgt := 103) hx hb dX8_declaration_95 (by decide) (fun c381 => ?_) (fun c381 => ?_)
          · have n382 : r6 = 0 := (nI_eq (a := r6) (b := 0) (by omega) (by omega)).mp c381
            refine lv_bipush (v := 12) hx hb dX8_declaration_103 (by decide) ?_
            have hO : OKW G h0 a (upd (upd (upd (upd (upd (upd F 2 (nI sz)) 9 (nI ((at9 + 1) + 1))) 10 0) 11 0) 2 (nI sz)) 9 (nI ((at9 + 1) + 1))) (updR R 1 (.ref pq)) Z B J K374.1 (fun q99 x99 => x99 = rep G a K374 q99) w := hO.to rfl
            obtain ⟨_, qr386, hqr387⟩ := hO.2.1 23 _ (sg_23 G h0 a _ _ _ _ _)
            refine pc_V0 (G := G) (As := [.int 12]) (rest := []) hx hb hml hown hq hE hX pX0_al hP hD hS hA hl.1 (P_takeIf l G h0 a (upd (upd (upd (upd F 2 (nI sz)) 9 (nI ((at9 + 1) + 1))) 10 0) 11 0) (updR R 1 (.ref pq)) Z B J K374.1 (fun q99 x99 => x99 = rep G a K374 q99) w 12 ((at9 + 1) + 1) sz (by omega) (by omega) (by decide) hO) (gV pw_797 pw_798 pw_799 pw_796 pw_789) hV_X8_takeIf qr386 5 hqr387 rfl rfl rfl (Nat.le_of_ble_eq_true rfl) dX8_declaration_105 ⟨(by show 5 + 0 ≤ 6; omega), (by show 25 + 0 ≤ 31; omega)⟩ ⟨Nat.le_of_ble_eq_true rfl, Nat.le_of_ble_eq_true rfl⟩ (fun v385 u383 H locs hw384 hP hD hS => ?_)
            obtain ⟨w, r388⟩ := u383
            obtain ⟨hw384, h389, h390, hO⟩ := hw384
            have h389 : r388 ≤ 1 := h389
            have h390 : ((at9 + 1) + 1) + r388 ≤ sz := h390
            obtain rfl : v385 = some (.int (nI r388)) := hw384
            have hO : OKP G h0 a (upd (upd (upd (upd F 2 (nI sz)) 9 (nI (((at9 + 1) + 1) + r388))) 10 0) 11 0) (updR R 1 (.ref pq)) Z B J K374 w := hO.to rfl
            refine W.widen (k := 5) (n := 25) (by show 5 + 0 ≤ 5; omega) (by show 25 + 0 ≤ 25; omega) ?_
            refine W.eq (g2 := F0 m 108 ls [.int (nI r388)]) rfl ?_
            refine lv_if_eq (tgt := 116) hx hb dX8_declaration_108 (by decide) (fun c391 => ?_) (fun c391 => ?_)
            · have n392 : r388 = 0 := (nI_eq (a := r388) (b := 0) (by omega) (by omega)).mp c391
              refine lv_aload_n hx hb dX8_declaration_116 rfl (lv_at hl 2 rfl) ?_
              refine lv_bipush (v := 32) hx hb dX8_declaration_117 (by decide) ?_
              have hO : OKW G h0 a (upd (upd (upd (upd (upd (upd (upd F 2 (nI sz)) 9 (nI at9)) 10 0) 11 0) 9 (nI (((at9 + 1) + 1) + r388))) 2 (nI sz)) 9 (nI (((at9 + 1) + 1) + r388))) (updR R 1 (.ref pq)) Z B J K374.1 (fun q99 x99 => x99 = rep G a K374 q99) w := hO.to rfl
              obtain ⟨_, qr396, hqr397⟩ := hO.2.1 23 _ (sg_23 G h0 a _ _ _ _ _)
              refine pn_V0 (G := G) (As := [.int 32]) (rest := []) hx hb hml hown hq hE hX pX0_al hP hD hS hA hl.1 (P_take l G h0 a (upd (upd (upd (upd (upd F 2 (nI sz)) 9 (nI at9)) 10 0) 11 0) 9 (nI (((at9 + 1) + 1) + r388))) (updR R 1 (.ref pq)) Z B J K374.1 (fun q99 x99 => x99 = rep G a K374 q99) w 32 (((at9 + 1) + 1) + r388) sz (by omega) (by omega) (by decide) hO hl0) (gV pw_793 pw_794 pw_795 pw_796 pw_781) hV_X8_take qr396 5 hqr397 rfl rfl rfl (Nat.le_of_ble_eq_true rfl) dX8_declaration_119 ⟨(by show 5 + 1 ≤ 6; omega), (by show 25 + 6 ≤ 31; omega)⟩ ⟨Nat.le_of_ble_eq_true rfl, Nat.le_of_ble_eq_true rfl⟩ (fun v395 u393 H locs hw394 hP hD hS => ?_) (fun ux ce9 q9 H9 locs9 hux hP9 hD9 hS9 hce hcv hcl => pb_out ux (ThQ.up (Thx.same (Thx.same (Thx.f Thx.rfl (by omega)) rfl) rfl) hux) hnt hlocks hce hcv hcl hP9 hD9 hS9 (by show 5 + 1 ≤ 6; omega) (by show 25 + 6 ≤ 31; omega))
              obtain ⟨w, _⟩ := u393
              obtain ⟨hw394, h398, hO⟩ := hw394
              have h398 : (((at9 + 1) + 1) + r388) + 1 ≤ sz := h398
              obtain rfl : v395 = some (.int (nI (((at9 + 1) + 1) + r388))) := hw394
              have hO : OKP G h0 a (upd (upd (upd (upd F 2 (nI sz)) 9 (nI ((((at9 + 1) + 1) + r388) + 1))) 10 0) 11 0) (updR R 1 (.ref pq)) Z B J K374 w := hO.to rfl
              refine W.widen (k := 5) (n := 25) (by show 5 + 0 ≤ 5; omega) (by show 25 + 0 ≤ 25; omega) ?_
              refine W.eq (g2 := F0 m 122 ls [.int (nI (((at9 + 1) + 1) + r388))]) rfl ?_
              refine lv_pop hx hb dX8_declaration_122 rfl ?_
              refine lv_aload_n hx hb dX8_declaration_123 rfl (lv_at hl 0 rfl) ?_
              refine W_size (fun hz1 hz2 => ?_)
              refine vx_ret ?_
              have hz399 : WPr G K374 g375 := h376
              have hz400 : PgS G K374 g375 (a 1) pq dr ml (nd + 1) nm cp it s9 := h377
              have hz401 : K374.1 r373 = 4 := h378
              have hz402 : at9 + 3 ≤ ((((at9 + 1) + 1) + r388) + 1) ∧ ((((at9 + 1) + 1) + r388) + 1) ≤ sz := (by omega)
              have hO : OKP G h0 a (upd (upd (upd (upd F 2 (nI sz)) 9 (nI ((((at9 + 1) + 1) + r388) + 1))) 10 0) 11 0) (updR R 1 (.ref pq)) Z B J K374 w := hO.to rfl
              refine W.widen (k := 6) (n := 31) (by omega) (by omega) ?_
              have hzz1 : H.size ≤ s.heap.size + (5) := (by have z : 5 ≤ 5 := (by omega); omega)
              have hzz2 : hSl H ≤ hSl s.heap + (25) := (by have z : 25 ≤ 25 := (by omega); omega)
              exact W.aret (v := .ref r373) hx hb hr (Or.inl ⟨_, rfl⟩) (Or.inr ⟨_, rfl⟩) (fun t99 ht99 hW99 => ⟨⟨_, (w, (K374, g375, r373, ((((at9 + 1) + 1) + r388) + 1), (nd + 1))), rfl, ⟨rfl, hz399, hz400, hz401, hz402, hO⟩, by rw [ht99]; exact hP, hD, by rw [ht99]; exact hzz1, by rw [ht99]; exact hzz2⟩, hS.F ht99⟩) hS.2.2 dX8_declaration_124
            · have n403 : ¬ (r388 = 0) := fun h9 => c391 ((nI_eq (a := r388) (b := 0) (by omega) (by omega)).mpr h9)
              refine lv_aload_n hx hb dX8_declaration_111 rfl (lv_at hl 2 rfl) ?_
              refine lv_aload_n hx hb dX8_declaration_112 rfl (lv_at hl 0 rfl) ?_
              have hO : OKP G h0 a (upd (upd (upd (upd (upd (upd (upd (upd (upd F 2 (nI sz)) 9 (nI at9)) 10 0) 11 0) 9 (nI (((at9 + 1) + 1) + r388))) 2 (nI sz)) 9 (nI (((at9 + 1) + 1) + r388))) 10 0) 11 0) (updR (updR R 1 (.ref pq)) 1 (.ref pq)) Z B J K374 w := hO.to rfl
              obtain ⟨_, qr407, hqr408⟩ := hO.2.1 23 _ (sg_23 G h0 a _ _ _ _ _)
              refine pn_V0 (G := G) (As := [.ref r373]) (rest := []) hx hb hml hown hq hE hX pX0_al hP hD hS hA hl.1 (P_listI l G h0 a (upd (upd (upd (upd (upd F 2 (nI sz)) 9 (nI at9)) 10 0) 11 0) 9 (nI (((at9 + 1) + 1) + r388))) (updR R 1 (.ref pq)) Z B J K374 w pq dr ml (nd + 1) nm cp it s9 r373 (((at9 + 1) + 1) + r388) sz g375 (by omega) (by omega) h376 h377 h378 hO hl0) (gV pw_815 pw_816 pw_817 pw_796 pw_800) hV_X8_listInterfaces qr407 5 hqr408 rfl rfl rfl (Nat.le_of_ble_eq_true rfl) dX8_declaration_113 ⟨(by show 5 + 1 ≤ 6; omega), (by show 25 + 6 ≤ 31; omega)⟩ ⟨Nat.le_of_ble_eq_true rfl, Nat.le_of_ble_eq_true rfl⟩ (fun v406 u404 H locs hw405 hP hD hS => ?_) (fun ux ce9 q9 H9 locs9 hux hP9 hD9 hS9 hce hcv hcl => pb_out ux (ThQ.up (Thx.same (Thx.same (Thx.same (Thx.same (Thx.f Thx.rfl (by omega)) rfl) rfl) rfl) rfl) hux) hnt hlocks hce hcv hcl hP9 hD9 hS9 (by show 5 + 1 ≤ 6; omega) (by show 25 + 6 ≤ 31; omega))
              obtain ⟨w, K409, g410, at411⟩ := u404
              obtain ⟨hw405, h412, h413, h414, h415, hO⟩ := hw405
              have h412 : WPr G K409 g410 := h412
              have h413 : PgS G K409 g410 (a 1) pq dr ml (nd + 1) nm cp it s9 := h413
              have h414 : K409.1 r373 = 4 := h414
              have h415 : (((at9 + 1) + 1) + r388) + 1 ≤ at411 ∧ at411 ≤ sz := h415
              obtain rfl : v406 = none := hw405
              have hO : OKP G h0 a (upd (upd (upd (upd F 2 (nI sz)) 9 (nI at411)) 10 0) 11 0) (updR R 1 (.ref pq)) Z B J K409 w := hO.to rfl
              refine W.widen (k := 5) (n := 25) (by show 5 + 0 ≤ 5; omega) (by show 25 + 0 ≤ 25; omega) ?_
              refine W.eq (g2 := F0 m 116 ls []) rfl ?_
              refine lv_aload_n hx hb dX8_declaration_116 rfl (lv_at hl 2 rfl) ?_
              refine lv_bipush (v := 32) hx hb dX8_declaration_117 (by decide) ?_
              have hO : OKW G h0 a (upd (upd (upd (upd (upd (upd (upd F 2 (nI sz)) 9 (nI at9)) 10 0) 11 0) 9 (nI at411)) 2 (nI sz)) 9 (nI at411)) (updR R 1 (.ref pq)) Z B J K409.1 (fun q99 x99 => x99 = rep G a K409 q99) w := hO.to rfl
              obtain ⟨_, qr419, hqr420⟩ := hO.2.1 23 _ (sg_23 G h0 a _ _ _ _ _)
              refine pn_V0 (G := G) (As := [.int 32]) (rest := []) hx hb hml hown hq hE hX pX0_al hP hD hS hA hl.1 (P_take l G h0 a (upd (upd (upd (upd (upd F 2 (nI sz)) 9 (nI at9)) 10 0) 11 0) 9 (nI at411)) (updR R 1 (.ref pq)) Z B J K409.1 (fun q99 x99 => x99 = rep G a K409 q99) w 32 at411 sz (by omega) (by omega) (by decide) hO hl0) (gV pw_793 pw_794 pw_795 pw_796 pw_781) hV_X8_take qr419 5 hqr420 rfl rfl rfl (Nat.le_of_ble_eq_true rfl) dX8_declaration_119 ⟨(by show 5 + 1 ≤ 6; omega), (by show 25 + 6 ≤ 31; omega)⟩ ⟨Nat.le_of_ble_eq_true rfl, Nat.le_of_ble_eq_true rfl⟩ (fun v418 u416 H locs hw417 hP hD hS => ?_) (fun ux ce9 q9 H9 locs9 hux hP9 hD9 hS9 hce hcv hcl => pb_out ux (ThQ.up (Thx.same (Thx.same (Thx.f Thx.rfl (by omega)) rfl) rfl) hux) hnt hlocks hce hcv hcl hP9 hD9 hS9 (by show 5 + 1 ≤ 6; omega) (by show 25 + 6 ≤ 31; omega))
              obtain ⟨w, _⟩ := u416
              obtain ⟨hw417, h421, hO⟩ := hw417
              have h421 : at411 + 1 ≤ sz := h421
              obtain rfl : v418 = some (.int (nI at411)) := hw417
              have hO : OKP G h0 a (upd (upd (upd (upd F 2 (nI sz)) 9 (nI (at411 + 1))) 10 0) 11 0) (updR R 1 (.ref pq)) Z B J K409 w := hO.to rfl
              refine W.widen (k := 5) (n := 25) (by show 5 + 0 ≤ 5; omega) (by show 25 + 0 ≤ 25; omega) ?_
              refine W.eq (g2 := F0 m 122 ls [.int (nI at411)]) rfl ?_
              refine lv_pop hx hb dX8_declaration_122 rfl ?_
              refine lv_aload_n hx hb dX8_declaration_123 rfl (lv_at hl 0 rfl) ?_
              refine W_size (fun hz1 hz2 => ?_)
              refine vx_ret ?_
              have hz422 : WPr G K409 g410 := h412
              have hz423 : PgS G K409 g410 (a 1) pq dr ml (nd + 1) nm cp it s9 := h413
              have hz424 : K409.1 r373 = 4 := h414
              have hz425 : at9 + 3 ≤ (at411 + 1) ∧ (at411 + 1) ≤ sz := (by omega)
              have hO : OKP G h0 a (upd (upd (upd (upd F 2 (nI sz)) 9 (nI (at411 + 1))) 10 0) 11 0) (updR R 1 (.ref pq)) Z B J K409 w := hO.to rfl
              refine W.widen (k := 6) (n := 31) (by omega) (by omega) ?_
              have hzz1 : H.size ≤ s.heap.size + (5) := (by have z : 5 ≤ 5 := (by omega); omega)
              have hzz2 : hSl H ≤ hSl s.heap + (25) := (by have z : 25 ≤ 25 := (by omega); omega)
              exact W.aret (v := .ref r373) hx hb hr (Or.inl ⟨_, rfl⟩) (Or.inr ⟨_, rfl⟩) (fun t99 ht99 hW99 => ⟨⟨_, (w, (K409, g410, r373, (at411 + 1), (nd + 1))), rfl, ⟨rfl, hz422, hz423, hz424, hz425, hO⟩, by rw [ht99]; exact hP, hD, by rw [ht99]; exact hzz1, by rw [ht99]; exact hzz2⟩, hS.F ht99⟩) hS.2.2 dX8_declaration_124
          · have n426 : ¬ (r6 = 0) := fun h9 => c381 ((nI_eq (a := r6) (b := 0) (by omega) (by omega)).mpr h9)
            refine lv_bipush (v := 7) hx hb dX8_declaration_98 (by decide) ?_
            refine lv_goto (tgt := 105) hx hb dX8_declaration_100 (by decide) ?_
            have hO : OKW G h0 a (upd (upd (upd (upd (upd (upd F 2 (nI sz)) 9 (nI ((at9 + 1) + 1))) 10 0) 11 0) 2 (nI sz)) 9 (nI ((at9 + 1) + 1))) (updR R 1 (.ref pq)) Z B J K374.1 (fun q99 x99 => x99 = rep G a K374 q99) w := hO.to rfl
            obtain ⟨_, qr430, hqr431⟩ := hO.2.1 23 _ (sg_23 G h0 a _ _ _ _ _)
            refine pc_V0 (G := G) (As := [.int 7]) (rest := []) hx hb hml hown hq hE hX pX0_al hP hD hS hA hl.1 (P_takeIf l G h0 a (upd (upd (upd (upd F 2 (nI sz)) 9 (nI ((at9 + 1) + 1))) 10 0) 11 0) (updR R 1 (.ref pq)) Z B J K374.1 (fun q99 x99 => x99 = rep G a K374 q99) w 7 ((at9 + 1) + 1) sz (by omega) (by omega) (by decide) hO) (gV pw_797 pw_798 pw_799 pw_796 pw_789) hV_X8_takeIf qr430 5 hqr431 rfl rfl rfl (Nat.le_of_ble_eq_true rfl) dX8_declaration_105 ⟨(by show 5 + 0 ≤ 6; omega), (by show 25 + 0 ≤ 31; omega)⟩ ⟨Nat.le_of_ble_eq_true rfl, Nat.le_of_ble_eq_true rfl⟩ (fun v429 u427 H locs hw428 hP hD hS => ?_)
            obtain ⟨w, r432⟩ := u427
            obtain ⟨hw428, h433, h434, hO⟩ := hw428
            have h433 : r432 ≤ 1 := h433
            have h434 : ((at9 + 1) + 1) + r432 ≤ sz := h434
            obtain rfl : v429 = some (.int (nI r432)) := hw428
            have hO : OKP G h0 a (upd (upd (upd (upd F 2 (nI sz)) 9 (nI (((at9 + 1) + 1) + r432))) 10 0) 11 0) (updR R 1 (.ref pq)) Z B J K374 w := hO.to rfl
            refine W.widen (k := 5) (n := 25) (by show 5 + 0 ≤ 5; omega) (by show 25 + 0 ≤ 25; omega) ?_
            refine W.eq (g2 := F0 m 108 ls [.int (nI r432)]) rfl ?_
            refine lv_if_eq (tgt := 116) hx hb dX8_declaration_108 (by decide) (fun c435 => ?_) (fun c435 => ?_)
            · have n436 : r432 = 0 := (nI_eq (a := r432) (b := 0) (by omega) (by omega)).mp c435
              refine lv_aload_n hx hb dX8_declaration_116 rfl (lv_at hl 2 rfl) ?_
              refine lv_bipush (v := 32) hx hb dX8_declaration_117 (by decide) ?_
              have hO : OKW G h0 a (upd (upd (upd (upd (upd (upd (upd F 2 (nI sz)) 9 (nI at9)) 10 0) 11 0) 9 (nI (((at9 + 1) + 1) + r432))) 2 (nI sz)) 9 (nI (((at9 + 1) + 1) + r432))) (updR R 1 (.ref pq)) Z B J K374.1 (fun q99 x99 => x99 = rep G a K374 q99) w := hO.to rfl
              obtain ⟨_, qr440, hqr441⟩ := hO.2.1 23 _ (sg_23 G h0 a _ _ _ _ _)
              refine pn_V0 (G := G) (As := [.int 32]) (rest := []) hx hb hml hown hq hE hX pX0_al hP hD hS hA hl.1 (P_take l G h0 a (upd (upd (upd (upd (upd F 2 (nI sz)) 9 (nI at9)) 10 0) 11 0) 9 (nI (((at9 + 1) + 1) + r432))) (updR R 1 (.ref pq)) Z B J K374.1 (fun q99 x99 => x99 = rep G a K374 q99) w 32 (((at9 + 1) + 1) + r432) sz (by omega) (by omega) (by decide) hO hl0) (gV pw_793 pw_794 pw_795 pw_796 pw_781) hV_X8_take qr440 5 hqr441 rfl rfl rfl (Nat.le_of_ble_eq_true rfl) dX8_declaration_119 ⟨(by show 5 + 1 ≤ 6; omega), (by show 25 + 6 ≤ 31; omega)⟩ ⟨Nat.le_of_ble_eq_true rfl, Nat.le_of_ble_eq_true rfl⟩ (fun v439 u437 H locs hw438 hP hD hS => ?_) (fun ux ce9 q9 H9 locs9 hux hP9 hD9 hS9 hce hcv hcl => pb_out ux (ThQ.up (Thx.same (Thx.same (Thx.f Thx.rfl (by omega)) rfl) rfl) hux) hnt hlocks hce hcv hcl hP9 hD9 hS9 (by show 5 + 1 ≤ 6; omega) (by show 25 + 6 ≤ 31; omega))
              obtain ⟨w, _⟩ := u437
              obtain ⟨hw438, h442, hO⟩ := hw438
              have h442 : (((at9 + 1) + 1) + r432) + 1 ≤ sz := h442
              obtain rfl : v439 = some (.int (nI (((at9 + 1) + 1) + r432))) := hw438
              have hO : OKP G h0 a (upd (upd (upd (upd F 2 (nI sz)) 9 (nI ((((at9 + 1) + 1) + r432) + 1))) 10 0) 11 0) (updR R 1 (.ref pq)) Z B J K374 w := hO.to rfl
              refine W.widen (k := 5) (n := 25) (by show 5 + 0 ≤ 5; omega) (by show 25 + 0 ≤ 25; omega) ?_
              refine W.eq (g2 := F0 m 122 ls [.int (nI (((at9 + 1) + 1) + r432))]) rfl ?_
              refine lv_pop hx hb dX8_declaration_122 rfl ?_
              refine lv_aload_n hx hb dX8_declaration_123 rfl (lv_at hl 0 rfl) ?_
              refine W_size (fun hz1 hz2 => ?_)
              refine vx_ret ?_
              have hz443 : WPr G K374 g375 := h376
              have hz444 : PgS G K374 g375 (a 1) pq dr ml (nd + 1) nm cp it s9 := h377
              have hz445 : K374.1 r373 = 4 := h378
              have hz446 : at9 + 3 ≤ ((((at9 + 1) + 1) + r432) + 1) ∧ ((((at9 + 1) + 1) + r432) + 1) ≤ sz := (by omega)
              have hO : OKP G h0 a (upd (upd (upd (upd F 2 (nI sz)) 9 (nI ((((at9 + 1) + 1) + r432) + 1))) 10 0) 11 0) (updR R 1 (.ref pq)) Z B J K374 w := hO.to rfl
              refine W.widen (k := 6) (n := 31) (by omega) (by omega) ?_
              have hzz1 : H.size ≤ s.heap.size + (5) := (by have z : 5 ≤ 5 := (by omega); omega)
              have hzz2 : hSl H ≤ hSl s.heap + (25) := (by have z : 25 ≤ 25 := (by omega); omega)
              exact W.aret (v := .ref r373) hx hb hr (Or.inl ⟨_, rfl⟩) (Or.inr ⟨_, rfl⟩) (fun t99 ht99 hW99 => ⟨⟨_, (w, (K374, g375, r373, ((((at9 + 1) + 1) + r432) + 1), (nd + 1))), rfl, ⟨rfl, hz443, hz444, hz445, hz446, hO⟩, by rw [ht99]; exact hP, hD, by rw [ht99]; exact hzz1, by rw [ht99]; exact hzz2⟩, hS.F ht99⟩) hS.2.2 dX8_declaration_124
            · have n447 : ¬ (r432 = 0) := fun h9 => c435 ((nI_eq (a := r432) (b := 0) (by omega) (by omega)).mpr h9)
              refine lv_aload_n hx hb dX8_declaration_111 rfl (lv_at hl 2 rfl) ?_
              refine lv_aload_n hx hb dX8_declaration_112 rfl (lv_at hl 0 rfl) ?_
              have hO : OKP G h0 a (upd (upd (upd (upd (upd (upd (upd (upd (upd F 2 (nI sz)) 9 (nI at9)) 10 0) 11 0) 9 (nI (((at9 + 1) + 1) + r432))) 2 (nI sz)) 9 (nI (((at9 + 1) + 1) + r432))) 10 0) 11 0) (updR (updR R 1 (.ref pq)) 1 (.ref pq)) Z B J K374 w := hO.to rfl
              obtain ⟨_, qr451, hqr452⟩ := hO.2.1 23 _ (sg_23 G h0 a _ _ _ _ _)
              refine pn_V0 (G := G) (As := [.ref r373]) (rest := []) hx hb hml hown hq hE hX pX0_al hP hD hS hA hl.1 (P_listI l G h0 a (upd (upd (upd (upd (upd F 2 (nI sz)) 9 (nI at9)) 10 0) 11 0) 9 (nI (((at9 + 1) + 1) + r432))) (updR R 1 (.ref pq)) Z B J K374 w pq dr ml (nd + 1) nm cp it s9 r373 (((at9 + 1) + 1) + r432) sz g375 (by omega) (by omega) h376 h377 h378 hO hl0) (gV pw_815 pw_816 pw_817 pw_796 pw_800) hV_X8_listInterfaces qr451 5 hqr452 rfl rfl rfl (Nat.le_of_ble_eq_true rfl) dX8_declaration_113 ⟨(by show 5 + 1 ≤ 6; omega), (by show 25 + 6 ≤ 31; omega)⟩ ⟨Nat.le_of_ble_eq_true rfl, Nat.le_of_ble_eq_true rfl⟩ (fun v450 u448 H locs hw449 hP hD hS => ?_) (fun ux ce9 q9 H9 locs9 hux hP9 hD9 hS9 hce hcv hcl => pb_out ux (ThQ.up (Thx.same (Thx.same (Thx.same (Thx.same (Thx.f Thx.rfl (by omega)) rfl) rfl) rfl) rfl) hux) hnt hlocks hce hcv hcl hP9 hD9 hS9 (by show 5 + 1 ≤ 6; omega) (by show 25 + 6 ≤ 31; omega))
              obtain ⟨w, K453, g454, at455⟩ := u448
              obtain ⟨hw449, h456, h457, h458, h459, hO⟩ := hw449
              have h456 : WPr G K453 g454 := h456
              have h457 : PgS G K453 g454 (a 1) pq dr ml (nd + 1) nm cp it s9 := h457
              have h458 : K453.1 r373 = 4 := h458
              have h459 : (((at9 + 1) + 1) + r432) + 1 ≤ at455 ∧ at455 ≤ sz := h459
              obtain rfl : v450 = none := hw449
              have hO : OKP G h0 a (upd (upd (upd (upd F 2 (nI sz)) 9 (nI at455)) 10 0) 11 0) (updR R 1 (.ref pq)) Z B J K453 w := hO.to rfl
              refine W.widen (k := 5) (n := 25) (by show 5 + 0 ≤ 5; omega) (by show 25 + 0 ≤ 25; omega) ?_
              refine W.eq (g2 := F0 m 116 ls []) rfl ?_
              refine lv_aload_n hx hb dX8_declaration_116 rfl (lv_at hl 2 rfl) ?_
              refine lv_bipush (v := 32) hx hb dX8_declaration_117 (by decide) ?_
              have hO : OKW G h0 a (upd (upd (upd (upd (upd (upd (upd F 2 (nI sz)) 9 (nI at9)) 10 0) 11 0) 9 (nI at455)) 2 (nI sz)) 9 (nI at455)) (updR R 1 (.ref pq)) Z B J K453.1 (fun q99 x99 => x99 = rep G a K453 q99) w := hO.to rfl
              obtain ⟨_, qr463, hqr464⟩ := hO.2.1 23 _ (sg_23 G h0 a _ _ _ _ _)
              refine pn_V0 (G := G) (As := [.int 32]) (rest := []) hx hb hml hown hq hE hX pX0_al hP hD hS hA hl.1 (P_take l G h0 a (upd (upd (upd (upd (upd F 2 (nI sz)) 9 (nI at9)) 10 0) 11 0) 9 (nI at455)) (updR R 1 (.ref pq)) Z B J K453.1 (fun q99 x99 => x99 = rep G a K453 q99) w 32 at455 sz (by omega) (by omega) (by decide) hO hl0) (gV pw_793 pw_794 pw_795 pw_796 pw_781) hV_X8_take qr463 5 hqr464 rfl rfl rfl (Nat.le_of_ble_eq_true rfl) dX8_declaration_119 ⟨(by show 5 + 1 ≤ 6; omega), (by show 25 + 6 ≤ 31; omega)⟩ ⟨Nat.le_of_ble_eq_true rfl, Nat.le_of_ble_eq_true rfl⟩ (fun v462 u460 H locs hw461 hP hD hS => ?_) (fun ux ce9 q9 H9 locs9 hux hP9 hD9 hS9 hce hcv hcl => pb_out ux (ThQ.up (Thx.same (Thx.same (Thx.f Thx.rfl (by omega)) rfl) rfl) hux) hnt hlocks hce hcv hcl hP9 hD9 hS9 (by show 5 + 1 ≤ 6; omega) (by show 25 + 6 ≤ 31; omega))
              obtain ⟨w, _⟩ := u460
              obtain ⟨hw461, h465, hO⟩ := hw461
              have h465 : at455 + 1 ≤ sz := h465
              obtain rfl : v462 = some (.int (nI at455)) := hw461
              have hO : OKP G h0 a (upd (upd (upd (upd F 2 (nI sz)) 9 (nI (at455 + 1))) 10 0) 11 0) (updR R 1 (.ref pq)) Z B J K453 w := hO.to rfl
              refine W.widen (k := 5) (n := 25) (by show 5 + 0 ≤ 5; omega) (by show 25 + 0 ≤ 25; omega) ?_
              refine W.eq (g2 := F0 m 122 ls [.int (nI at455)]) rfl ?_
              refine lv_pop hx hb dX8_declaration_122 rfl ?_
              refine lv_aload_n hx hb dX8_declaration_123 rfl (lv_at hl 0 rfl) ?_
              refine W_size (fun hz1 hz2 => ?_)
              refine vx_ret ?_
              have hz466 : WPr G K453 g454 := h456
              have hz467 : PgS G K453 g454 (a 1) pq dr ml (nd + 1) nm cp it s9 := h457
              have hz468 : K453.1 r373 = 4 := h458
              have hz469 : at9 + 3 ≤ (at455 + 1) ∧ (at455 + 1) ≤ sz := (by omega)
              have hO : OKP G h0 a (upd (upd (upd (upd F 2 (nI sz)) 9 (nI (at455 + 1))) 10 0) 11 0) (updR R 1 (.ref pq)) Z B J K453 w := hO.to rfl
              refine W.widen (k := 6) (n := 31) (by omega) (by omega) ?_
              have hzz1 : H.size ≤ s.heap.size + (5) := (by have z : 5 ≤ 5 := (by omega); omega)
              have hzz2 : hSl H ≤ hSl s.heap + (25) := (by have z : 25 ≤ 25 := (by omega); omega)
              exact W.aret (v := .ref r373) hx hb hr (Or.inl ⟨_, rfl⟩) (Or.inr ⟨_, rfl⟩) (fun t99 ht99 hW99 => ⟨⟨_, (w, (K453, g454, r373, (at455 + 1), (nd + 1))), rfl, ⟨rfl, hz466, hz467, hz468, hz469, hO⟩, by rw [ht99]; exact hP, hD, by rw [ht99]; exact hzz1, by rw [ht99]; exact hzz2⟩, hS.F ht99⟩) hS.2.2 dX8_declaration_124
        · have n470 : r6 = 0 := (nI_eq (a := r6) (b := 0) (by omega) (by omega)).mp c379
          refine lv_aload_n hx hb dX8_declaration_74 rfl (lv_at hl 2 rfl) ?_
          refine lv_bipush (v := 7) hx hb dX8_declaration_75 (by decide) ?_
          have hO : OKW G h0 a (upd (upd (upd (upd (upd (upd F 2 (nI sz)) 9 (nI ((at9 + 1) + 1))) 10 0) 11 0) 2 (nI sz)) 9 (nI ((at9 + 1) + 1))) (updR R 1 (.ref pq)) Z B J K374.1 (fun q99 x99 => x99 = rep G a K374 q99) w := hO.to rfl
          obtain ⟨_, qr474, hqr475⟩ := hO.2.1 23 _ (sg_23 G h0 a _ _ _ _ _)
          refine pc_V0 (G := G) (As := [.int 7]) (rest := []) hx hb hml hown hq hE hX pX0_al hP hD hS hA hl.1 (P_takeIf l G h0 a (upd (upd (upd (upd F 2 (nI sz)) 9 (nI ((at9 + 1) + 1))) 10 0) 11 0) (updR R 1 (.ref pq)) Z B J K374.1 (fun q99 x99 => x99 = rep G a K374 q99) w 7 ((at9 + 1) + 1) sz (by omega) (by omega) (by decide) hO) (gV pw_797 pw_798 pw_799 pw_796 pw_789) hV_X8_takeIf qr474 5 hqr475 rfl rfl rfl (Nat.le_of_ble_eq_true rfl) dX8_declaration_77 ⟨(by show 5 + 0 ≤ 6; omega), (by show 25 + 0 ≤ 31; omega)⟩ ⟨Nat.le_of_ble_eq_true rfl, Nat.le_of_ble_eq_true rfl⟩ (fun v473 u471 H locs hw472 hP hD hS => ?_)
          obtain ⟨w, r476⟩ := u471
          obtain ⟨hw472, h477, h478, hO⟩ := hw472
          have h477 : r476 ≤ 1 := h477
          have h478 : ((at9 + 1) + 1) + r476 ≤ sz := h478
          obtain rfl : v473 = some (.int (nI r476)) := hw472
          have hO : OKP G h0 a (upd (upd (upd (upd F 2 (nI sz)) 9 (nI (((at9 + 1) + 1) + r476))) 10 0) 11 0) (updR R 1 (.ref pq)) Z B J K374 w := hO.to rfl
          refine W.widen (k := 5) (n := 25) (by show 5 + 0 ≤ 5; omega) (by show 25 + 0 ≤ 25; omega) ?_
          refine W.eq (g2 := F0 m 80 ls [.int (nI r476)]) rfl ?_
          refine lv_if_eq (tgt := 93) hx hb dX8_declaration_80 (by decide) (fun c479 => ?_) (fun c479 => ?_)
          · have n480 : r476 = 0 := (nI_eq (a := r476) (b := 0) (by omega) (by omega)).mp c479
            refine lv_aload_n hx hb dX8_declaration_93 rfl (lv_at hl 2 rfl) ?_
            refine lv_iload_n hx hb dX8_declaration_94 rfl (lv_at hl 1 rfl) ?_
            refine lv_if_eq (tgt := 103) hx hb dX8_declaration_95 (by decide) (fun c481 => ?_) (fun c481 => ?_)
            · have n482 : r6 = 0 := (nI_eq (a := r6) (b := 0) (by omega) (by omega)).mp c481
              refine lv_bipush (v := 12) hx hb dX8_declaration_103 (by decide) ?_
              have hO : OKW G h0 a (upd (upd (upd (upd (upd (upd F 2 (nI sz)) 9 (nI (((at9 + 1) + 1) + r476))) 10 0) 11 0) 2 (nI sz)) 9 (nI (((at9 + 1) + 1) + r476))) (updR R 1 (.ref pq)) Z B J K374.1 (fun q99 x99 => x99 = rep G a K374 q99) w := hO.to rfl
              obtain ⟨_, qr486, hqr487⟩ := hO.2.1 23 _ (sg_23 G h0 a _ _ _ _ _)
              refine pc_V0 (G := G) (As := [.int 12]) (rest := []) hx hb hml hown hq hE hX pX0_al hP hD hS hA hl.1 (P_takeIf l G h0 a (upd (upd (upd (upd F 2 (nI sz)) 9 (nI (((at9 + 1) + 1) + r476))) 10 0) 11 0) (updR R 1 (.ref pq)) Z B J K374.1 (fun q99 x99 => x99 = rep G a K374 q99) w 12 (((at9 + 1) + 1) + r476) sz (by omega) (by omega) (by decide) hO) (gV pw_797 pw_798 pw_799 pw_796 pw_789) hV_X8_takeIf qr486 5 hqr487 rfl rfl rfl (Nat.le_of_ble_eq_true rfl) dX8_declaration_105 ⟨(by show 5 + 0 ≤ 6; omega), (by show 25 + 0 ≤ 31; omega)⟩ ⟨Nat.le_of_ble_eq_true rfl, Nat.le_of_ble_eq_true rfl⟩ (fun v485 u483 H locs hw484 hP hD hS => ?_)
              obtain ⟨w, r488⟩ := u483
              obtain ⟨hw484, h489, h490, hO⟩ := hw484
              have h489 : r488 ≤ 1 := h489
              have h490 : (((at9 + 1) + 1) + r476) + r488 ≤ sz := h490
              obtain rfl : v485 = some (.int (nI r488)) := hw484
              have hO : OKP G h0 a (upd (upd (upd (upd F 2 (nI sz)) 9 (nI ((((at9 + 1) + 1) + r476) + r488))) 10 0) 11 0) (updR R 1 (.ref pq)) Z B J K374 w := hO.to rfl
              refine W.widen (k := 5) (n := 25) (by show 5 + 0 ≤ 5; omega) (by show 25 + 0 ≤ 25; omega) ?_
              refine W.eq (g2 := F0 m 108 ls [.int (nI r488)]) rfl ?_
              refine lv_if_eq (tgt := 116) hx hb dX8_declaration_108 (by decide) (fun c491 => ?_) (fun c491 => ?_)
              · have n492 : r488 = 0 := (nI_eq (a := r488) (b := 0) (by omega) (by omega)).mp c491
                refine lv_aload_n hx hb dX8_declaration_116 rfl (lv_at hl 2 rfl) ?_
                refine lv_bipush (v := 32) hx hb dX8_declaration_117 (by decide) ?_
                have hO : OKW G h0 a (upd (upd (upd (upd (upd (upd (upd F 2 (nI sz)) 9 (nI at9)) 10 0) 11 0) 9 (nI ((((at9 + 1) + 1) + r476) + r488))) 2 (nI sz)) 9 (nI ((((at9 + 1) + 1) + r476) + r488))) (updR R 1 (.ref pq)) Z B J K374.1 (fun q99 x99 => x99 = rep G a K374 q99) w := hO.to rfl
                obtain ⟨_, qr496, hqr497⟩ := hO.2.1 23 _ (sg_23 G h0 a _ _ _ _ _)
                refine pn_V0 (G := G) (As := [.int 32]) (rest := []) hx hb hml hown hq hE hX pX0_al hP hD hS hA hl.1 (P_take l G h0 a (upd (upd (upd (upd (upd F 2 (nI sz)) 9 (nI at9)) 10 0) 11 0) 9 (nI ((((at9 + 1) + 1) + r476) + r488))) (updR R 1 (.ref pq)) Z B J K374.1 (fun q99 x99 => x99 = rep G a K374 q99) w 32 ((((at9 + 1) + 1) + r476) + r488) sz (by omega) (by omega) (by decide) hO hl0) (gV pw_793 pw_794 pw_795 pw_796 pw_781) hV_X8_take qr496 5 hqr497 rfl rfl rfl (Nat.le_of_ble_eq_true rfl) dX8_declaration_119 ⟨(by show 5 + 1 ≤ 6; omega), (by show 25 + 6 ≤ 31; omega)⟩ ⟨Nat.le_of_ble_eq_true rfl, Nat.le_of_ble_eq_true rfl⟩ (fun v495 u493 H locs hw494 hP hD hS => ?_) (fun ux ce9 q9 H9 locs9 hux hP9 hD9 hS9 hce hcv hcl => pb_out ux (ThQ.up (Thx.same (Thx.same (Thx.f Thx.rfl (by omega)) rfl) rfl) hux) hnt hlocks hce hcv hcl hP9 hD9 hS9 (by show 5 + 1 ≤ 6; omega) (by show 25 + 6 ≤ 31; omega))
                obtain ⟨w, _⟩ := u493
                obtain ⟨hw494, h498, hO⟩ := hw494
                have h498 : ((((at9 + 1) + 1) + r476) + r488) + 1 ≤ sz := h498
                obtain rfl : v495 = some (.int (nI ((((at9 + 1) + 1) + r476) + r488))) := hw494
                have hO : OKP G h0 a (upd (upd (upd (upd F 2 (nI sz)) 9 (nI (((((at9 + 1) + 1) + r476) + r488) + 1))) 10 0) 11 0) (updR R 1 (.ref pq)) Z B J K374 w := hO.to rfl
                refine W.widen (k := 5) (n := 25) (by show 5 + 0 ≤ 5; omega) (by show 25 + 0 ≤ 25; omega) ?_
                refine W.eq (g2 := F0 m 122 ls [.int (nI ((((at9 + 1) + 1) + r476) + r488))]) rfl ?_
                refine lv_pop hx hb dX8_declaration_122 rfl ?_
                refine lv_aload_n hx hb dX8_declaration_123 rfl (lv_at hl 0 rfl) ?_
                refine W_size (fun hz1 hz2 => ?_)
                refine vx_ret ?_
                have hz499 : WPr G K374 g375 := h376
                have hz500 : PgS G K374 g375 (a 1) pq dr ml (nd + 1) nm cp it s9 := h377
                have hz501 : K374.1 r373 = 4 := h378
                have hz502 : at9 + 3 ≤ (((((at9 + 1) + 1) + r476) + r488) + 1) ∧ (((((at9 + 1) + 1) + r476) + r488) + 1) ≤ sz := (by omega)
                have hO : OKP G h0 a (upd (upd (upd (upd F 2 (nI sz)) 9 (nI (((((at9 + 1) + 1) + r476) + r488) + 1))) 10 0) 11 0) (updR R 1 (.ref pq)) Z B J K374 w := hO.to rfl
                refine W.widen (k := 6) (n := 31) (by omega) (by omega) ?_
                have hzz1 : H.size ≤ s.heap.size + (5) := (by have z : 5 ≤ 5 := (by omega); omega)
                have hzz2 : hSl H ≤ hSl s.heap + (25) := (by have z : 25 ≤ 25 := (by omega); omega)
                exact W.aret (v := .ref r373) hx hb hr (Or.inl ⟨_, rfl⟩) (Or.inr ⟨_, rfl⟩) (fun t99 ht99 hW99 => ⟨⟨_, (w, (K374, g375, r373, (((((at9 + 1) + 1) + r476) + r488) + 1), (nd + 1))), rfl, ⟨rfl, hz499, hz500, hz501, hz502, hO⟩, by rw [ht99]; exact hP, hD, by rw [ht99]; exact hzz1, by rw [ht99]; exact hzz2⟩, hS.F ht99⟩) hS.2.2 dX8_declaration_124
              · have n503 : ¬ (r488 = 0) := fun h9 => c491 ((nI_eq (a := r488) (b := 0) (by omega) (by omega)).mpr h9)
                refine lv_aload_n hx hb dX8_declaration_111 rfl (lv_at hl 2 rfl) ?_
                refine lv_aload_n hx hb dX8_declaration_112 rfl (lv_at hl 0 rfl) ?_
                have hO : OKP G h0 a (upd (upd (upd (upd (upd (upd (upd (upd (upd F 2 (nI sz)) 9 (nI at9)) 10 0) 11 0) 9 (nI ((((at9 + 1) + 1) + r476) + r488))) 2 (nI sz)) 9 (nI ((((at9 + 1) + 1) + r476) + r488))) 10 0) 11 0) (updR (updR R 1 (.ref pq)) 1 (.ref pq)) Z B J K374 w := hO.to rfl
                obtain ⟨_, qr507, hqr508⟩ := hO.2.1 23 _ (sg_23 G h0 a _ _ _ _ _)
                refine pn_V0 (G := G) (As := [.ref r373]) (rest := []) hx hb hml hown hq hE hX pX0_al hP hD hS hA hl.1 (P_listI l G h0 a (upd (upd (upd (upd (upd F 2 (nI sz)) 9 (nI at9)) 10 0) 11 0) 9 (nI ((((at9 + 1) + 1) + r476) + r488))) (updR R 1 (.ref pq)) Z B J K374 w pq dr ml (nd + 1) nm cp it s9 r373 ((((at9 + 1) + 1) + r476) + r488) sz g375 (by omega) (by omega) h376 h377 h378 hO hl0) (gV pw_815 pw_816 pw_817 pw_796 pw_800) hV_X8_listInterfaces qr507 5 hqr508 rfl rfl rfl (Nat.le_of_ble_eq_true rfl) dX8_declaration_113 ⟨(by show 5 + 1 ≤ 6; omega), (by show 25 + 6 ≤ 31; omega)⟩ ⟨Nat.le_of_ble_eq_true rfl, Nat.le_of_ble_eq_true rfl⟩ (fun v506 u504 H locs hw505 hP hD hS => ?_) (fun ux ce9 q9 H9 locs9 hux hP9 hD9 hS9 hce hcv hcl => pb_out ux (ThQ.up (Thx.same (Thx.same (Thx.same (Thx.same (Thx.f Thx.rfl (by omega)) rfl) rfl) rfl) rfl) hux) hnt hlocks hce hcv hcl hP9 hD9 hS9 (by show 5 + 1 ≤ 6; omega) (by show 25 + 6 ≤ 31; omega))
                obtain ⟨w, K509, g510, at511⟩ := u504
                obtain ⟨hw505, h512, h513, h514, h515, hO⟩ := hw505
                have h512 : WPr G K509 g510 := h512
                have h513 : PgS G K509 g510 (a 1) pq dr ml (nd + 1) nm cp it s9 := h513
                have h514 : K509.1 r373 = 4 := h514
                have h515 : ((((at9 + 1) + 1) + r476) + r488) + 1 ≤ at511 ∧ at511 ≤ sz := h515
                obtain rfl : v506 = none := hw505
                have hO : OKP G h0 a (upd (upd (upd (upd F 2 (nI sz)) 9 (nI at511)) 10 0) 11 0) (updR R 1 (.ref pq)) Z B J K509 w := hO.to rfl
                refine W.widen (k := 5) (n := 25) (by show 5 + 0 ≤ 5; omega) (by show 25 + 0 ≤ 25; omega) ?_
                refine W.eq (g2 := F0 m 116 ls []) rfl ?_
                refine lv_aload_n hx hb dX8_declaration_116 rfl (lv_at hl 2 rfl) ?_
                refine lv_bipush (v := 32) hx hb dX8_declaration_117 (by decide) ?_
                have hO : OKW G h0 a (upd (upd (upd (upd (upd (upd (upd F 2 (nI sz)) 9 (nI at9)) 10 0) 11 0) 9 (nI at511)) 2 (nI sz)) 9 (nI at511)) (updR R 1 (.ref pq)) Z B J K509.1 (fun q99 x99 => x99 = rep G a K509 q99) w := hO.to rfl
                obtain ⟨_, qr519, hqr520⟩ := hO.2.1 23 _ (sg_23 G h0 a _ _ _ _ _)
                refine pn_V0 (G := G) (As := [.int 32]) (rest := []) hx hb hml hown hq hE hX pX0_al hP hD hS hA hl.1 (P_take l G h0 a (upd (upd (upd (upd (upd F 2 (nI sz)) 9 (nI at9)) 10 0) 11 0) 9 (nI at511)) (updR R 1 (.ref pq)) Z B J K509.1 (fun q99 x99 => x99 = rep G a K509 q99) w 32 at511 sz (by omega) (by omega) (by decide) hO hl0) (gV pw_793 pw_794 pw_795 pw_796 pw_781) hV_X8_take qr519 5 hqr520 rfl rfl rfl (Nat.le_of_ble_eq_true rfl) dX8_declaration_119 ⟨(by show 5 + 1 ≤ 6; omega), (by show 25 + 6 ≤ 31; omega)⟩ ⟨Nat.le_of_ble_eq_true rfl, Nat.le_of_ble_eq_true rfl⟩ (fun v518 u516 H locs hw517 hP hD hS => ?_) (fun ux ce9 q9 H9 locs9 hux hP9 hD9 hS9 hce hcv hcl => pb_out ux (ThQ.up (Thx.same (Thx.same (Thx.f Thx.rfl (by omega)) rfl) rfl) hux) hnt hlocks hce hcv hcl hP9 hD9 hS9 (by show 5 + 1 ≤ 6; omega) (by show 25 + 6 ≤ 31; omega))
                obtain ⟨w, _⟩ := u516
                obtain ⟨hw517, h521, hO⟩ := hw517
                have h521 : at511 + 1 ≤ sz := h521
                obtain rfl : v518 = some (.int (nI at511)) := hw517
                have hO : OKP G h0 a (upd (upd (upd (upd F 2 (nI sz)) 9 (nI (at511 + 1))) 10 0) 11 0) (updR R 1 (.ref pq)) Z B J K509 w := hO.to rfl
                refine W.widen (k := 5) (n := 25) (by show 5 + 0 ≤ 5; omega) (by show 25 + 0 ≤ 25; omega) ?_
                refine W.eq (g2 := F0 m 122 ls [.int (nI at511)]) rfl ?_
                refine lv_pop hx hb dX8_declaration_122 rfl ?_
                refine lv_aload_n hx hb dX8_declaration_123 rfl (lv_at hl 0 rfl) ?_
                refine W_size (fun hz1 hz2 => ?_)
                refine vx_ret ?_
                have hz522 : WPr G K509 g510 := h512
                have hz523 : PgS G K509 g510 (a 1) pq dr ml (nd + 1) nm cp it s9 := h513
                have hz524 : K509.1 r373 = 4 := h514
                have hz525 : at9 + 3 ≤ (at511 + 1) ∧ (at511 + 1) ≤ sz := (by omega)
                have hO : OKP G h0 a (upd (upd (upd (upd F 2 (nI sz)) 9 (nI (at511 + 1))) 10 0) 11 0) (updR R 1 (.ref pq)) Z B J K509 w := hO.to rfl
                refine W.widen (k := 6) (n := 31) (by omega) (by omega) ?_
                have hzz1 : H.size ≤ s.heap.size + (5) := (by have z : 5 ≤ 5 := (by omega); omega)
                have hzz2 : hSl H ≤ hSl s.heap + (25) := (by have z : 25 ≤ 25 := (by omega); omega)
                exact W.aret (v := .ref r373) hx hb hr (Or.inl ⟨_, rfl⟩) (Or.inr ⟨_, rfl⟩) (fun t99 ht99 hW99 => ⟨⟨_, (w, (K509, g510, r373, (at511 + 1), (nd + 1))), rfl, ⟨rfl, hz522, hz523, hz524, hz525, hO⟩, by rw [ht99]; exact hP, hD, by rw [ht99]; exact hzz1, by rw [ht99]; exact hzz2⟩, hS.F ht99⟩) hS.2.2 dX8_declaration_124
            · have n526 : ¬ (r6 = 0) := fun h9 => c481 ((nI_eq (a := r6) (b := 0) (by omega) (by omega)).mpr h9)
              refine lv_bipush (v := 7) hx hb dX8_declaration_98 (by decide) ?_
              refine lv_goto (tgt := 105) hx hb dX8_declaration_100 (by decide) ?_
              have hO : OKW G h0 a (upd (upd (upd (upd (upd (upd F 2 (nI sz)) 9 (nI (((at9 + 1) + 1) + r476))) 10 0) 11 0) 2 (nI sz)) 9 (nI (((at9 + 1) + 1) + r476))) (updR R 1 (.ref pq)) Z B J K374.1 (fun q99 x99 => x99 = rep G a K374 q99) w := hO.to rfl
              obtain ⟨_, qr530, hqr531⟩ := hO.2.1 23 _ (sg_23 G h0 a _ _ _ _ _)
              refine pc_V0 (G := G) (As := [.int 7]) (rest := []) hx hb hml hown hq hE hX pX0_al hP hD hS hA hl.1 (P_takeIf l G h0 a (upd (upd (upd (upd F 2 (nI sz)) 9 (nI (((at9 + 1) + 1) + r476))) 10 0) 11 0) (updR R 1 (.ref pq)) Z B J K374.1 (fun q99 x99 => x99 = rep G a K374 q99) w 7 (((at9 + 1) + 1) + r476) sz (by omega) (by omega) (by decide) hO) (gV pw_797 pw_798 pw_799 pw_796 pw_789) hV_X8_takeIf qr530 5 hqr531 rfl rfl rfl (Nat.le_of_ble_eq_true rfl) dX8_declaration_105 ⟨(by show 5 + 0 ≤ 6; omega), (by show 25 + 0 ≤ 31; omega)⟩ ⟨Nat.le_of_ble_eq_true rfl, Nat.le_of_ble_eq_true rfl⟩ (fun v529 u527 H locs hw528 hP hD hS => ?_)
              obtain ⟨w, r532⟩ := u527
              obtain ⟨hw528, h533, h534, hO⟩ := hw528
              have h533 : r532 ≤ 1 := h533
              have h534 : (((at9 + 1) + 1) + r476) + r532 ≤ sz := h534
              obtain rfl : v529 = some (.int (nI r532)) := hw528
              have hO : OKP G h0 a (upd (upd (upd (upd F 2 (nI sz)) 9 (nI ((((at9 + 1) + 1) + r476) + r532))) 10 0) 11 0) (updR R 1 (.ref pq)) Z B J K374 w := hO.to rfl
              refine W.widen (k := 5) (n := 25) (by show 5 + 0 ≤ 5; omega) (by show 25 + 0 ≤ 25; omega) ?_
              refine W.eq (g2 := F0 m 108 ls [.int (nI r532)]) rfl ?_
              refine lv_if_eq (tgt := 116) hx hb dX8_declaration_108 (by decide) (fun c535 => ?_) (fun c535 => ?_)
              · have n536 : r532 = 0 := (nI_eq (a := r532) (b := 0) (by omega) (by omega)).mp c535
                refine lv_aload_n hx hb dX8_declaration_116 rfl (lv_at hl 2 rfl) ?_
                refine lv_bipush (v := 32) hx hb dX8_declaration_117 (by decide) ?_
                have hO : OKW G h0 a (upd (upd (upd (upd (upd (upd (upd F 2 (nI sz)) 9 (nI at9)) 10 0) 11 0) 9 (nI ((((at9 + 1) + 1) + r476) + r532))) 2 (nI sz)) 9 (nI ((((at9 + 1) + 1) + r476) + r532))) (updR R 1 (.ref pq)) Z B J K374.1 (fun q99 x99 => x99 = rep G a K374 q99) w := hO.to rfl
                obtain ⟨_, qr540, hqr541⟩ := hO.2.1 23 _ (sg_23 G h0 a _ _ _ _ _)
                refine pn_V0 (G := G) (As := [.int 32]) (rest := []) hx hb hml hown hq hE hX pX0_al hP hD hS hA hl.1 (P_take l G h0 a (upd (upd (upd (upd (upd F 2 (nI sz)) 9 (nI at9)) 10 0) 11 0) 9 (nI ((((at9 + 1) + 1) + r476) + r532))) (updR R 1 (.ref pq)) Z B J K374.1 (fun q99 x99 => x99 = rep G a K374 q99) w 32 ((((at9 + 1) + 1) + r476) + r532) sz (by omega) (by omega) (by decide) hO hl0) (gV pw_793 pw_794 pw_795 pw_796 pw_781) hV_X8_take qr540 5 hqr541 rfl rfl rfl (Nat.le_of_ble_eq_true rfl) dX8_declaration_119 ⟨(by show 5 + 1 ≤ 6; omega), (by show 25 + 6 ≤ 31; omega)⟩ ⟨Nat.le_of_ble_eq_true rfl, Nat.le_of_ble_eq_true rfl⟩ (fun v539 u537 H locs hw538 hP hD hS => ?_) (fun ux ce9 q9 H9 locs9 hux hP9 hD9 hS9 hce hcv hcl => pb_out ux (ThQ.up (Thx.same (Thx.same (Thx.f Thx.rfl (by omega)) rfl) rfl) hux) hnt hlocks hce hcv hcl hP9 hD9 hS9 (by show 5 + 1 ≤ 6; omega) (by show 25 + 6 ≤ 31; omega))
                obtain ⟨w, _⟩ := u537
                obtain ⟨hw538, h542, hO⟩ := hw538
                have h542 : ((((at9 + 1) + 1) + r476) + r532) + 1 ≤ sz := h542
                obtain rfl : v539 = some (.int (nI ((((at9 + 1) + 1) + r476) + r532))) := hw538
                have hO : OKP G h0 a (upd (upd (upd (upd F 2 (nI sz)) 9 (nI (((((at9 + 1) + 1) + r476) + r532) + 1))) 10 0) 11 0) (updR R 1 (.ref pq)) Z B J K374 w := hO.to rfl
                refine W.widen (k := 5) (n := 25) (by show 5 + 0 ≤ 5; omega) (by show 25 + 0 ≤ 25; omega) ?_
                refine W.eq (g2 := F0 m 122 ls [.int (nI ((((at9 + 1) + 1) + r476) + r532))]) rfl ?_
                refine lv_pop hx hb dX8_declaration_122 rfl ?_
                refine lv_aload_n hx hb dX8_declaration_123 rfl (lv_at hl 0 rfl) ?_
                refine W_size (fun hz1 hz2 => ?_)
                refine vx_ret ?_
                have hz543 : WPr G K374 g375 := h376
                have hz544 : PgS G K374 g375 (a 1) pq dr ml (nd + 1) nm cp it s9 := h377
                have hz545 : K374.1 r373 = 4 := h378
                have hz546 : at9 + 3 ≤ (((((at9 + 1) + 1) + r476) + r532) + 1) ∧ (((((at9 + 1) + 1) + r476) + r532) + 1) ≤ sz := (by omega)
                have hO : OKP G h0 a (upd (upd (upd (upd F 2 (nI sz)) 9 (nI (((((at9 + 1) + 1) + r476) + r532) + 1))) 10 0) 11 0) (updR R 1 (.ref pq)) Z B J K374 w := hO.to rfl
                refine W.widen (k := 6) (n := 31) (by omega) (by omega) ?_
                have hzz1 : H.size ≤ s.heap.size + (5) := (by have z : 5 ≤ 5 := (by omega); omega)
                have hzz2 : hSl H ≤ hSl s.heap + (25) := (by have z : 25 ≤ 25 := (by omega); omega)
                exact W.aret (v := .ref r373) hx hb hr (Or.inl ⟨_, rfl⟩) (Or.inr ⟨_, rfl⟩) (fun t99 ht99 hW99 => ⟨⟨_, (w, (K374, g375, r373, (((((at9 + 1) + 1) + r476) + r532) + 1), (nd + 1))), rfl, ⟨rfl, hz543, hz544, hz545, hz546, hO⟩, by rw [ht99]; exact hP, hD, by rw [ht99]; exact hzz1, by rw [ht99]; exact hzz2⟩, hS.F ht99⟩) hS.2.2 dX8_declaration_124
              · have n547 : ¬ (r532 = 0) := fun h9 => c535 ((nI_eq (a := r532) (b := 0) (by omega) (by omega)).mpr h9)
                refine lv_aload_n hx hb dX8_declaration_111 rfl (lv_at hl 2 rfl) ?_
                refine lv_aload_n hx hb dX8_declaration_112 rfl (lv_at hl 0 rfl) ?_
                have hO : OKP G h0 a (upd (upd (upd (upd (upd (upd (upd (upd (upd F 2 (nI sz)) 9 (nI at9)) 10 0) 11 0) 9 (nI ((((at9 + 1) + 1) + r476) + r532))) 2 (nI sz)) 9 (nI ((((at9 + 1) + 1) + r476) + r532))) 10 0) 11 0) (updR (updR R 1 (.ref pq)) 1 (.ref pq)) Z B J K374 w := hO.to rfl
                obtain ⟨_, qr551, hqr552⟩ := hO.2.1 23 _ (sg_23 G h0 a _ _ _ _ _)
                refine pn_V0 (G := G) (As := [.ref r373]) (rest := []) hx hb hml hown hq hE hX pX0_al hP hD hS hA hl.1 (P_listI l G h0 a (upd (upd (upd (upd (upd F 2 (nI sz)) 9 (nI at9)) 10 0) 11 0) 9 (nI ((((at9 + 1) + 1) + r476) + r532))) (updR R 1 (.ref pq)) Z B J K374 w pq dr ml (nd + 1) nm cp it s9 r373 ((((at9 + 1) + 1) + r476) + r532) sz g375 (by omega) (by omega) h376 h377 h378 hO hl0) (gV pw_815 pw_816 pw_817 pw_796 pw_800) hV_X8_listInterfaces qr551 5 hqr552 rfl rfl rfl (Nat.le_of_ble_eq_true rfl) dX8_declaration_113 ⟨(by show 5 + 1 ≤ 6; omega), (by show 25 + 6 ≤ 31; omega)⟩ ⟨Nat.le_of_ble_eq_true rfl, Nat.le_of_ble_eq_true rfl⟩ (fun v550 u548 H locs hw549 hP hD hS => ?_) (fun ux ce9 q9 H9 locs9 hux hP9 hD9 hS9 hce hcv hcl => pb_out ux (ThQ.up (Thx.same (Thx.same (Thx.same (Thx.same (Thx.f Thx.rfl (by omega)) rfl) rfl) rfl) rfl) hux) hnt hlocks hce hcv hcl hP9 hD9 hS9 (by show 5 + 1 ≤ 6; omega) (by show 25 + 6 ≤ 31; omega))
                obtain ⟨w, K553, g554, at555⟩ := u548
                obtain ⟨hw549, h556, h557, h558, h559, hO⟩ := hw549
                have h556 : WPr G K553 g554 := h556
                have h557 : PgS G K553 g554 (a 1) pq dr ml (nd + 1) nm cp it s9 := h557
                have h558 : K553.1 r373 = 4 := h558
                have h559 : ((((at9 + 1) + 1) + r476) + r532) + 1 ≤ at555 ∧ at555 ≤ sz := h559
                obtain rfl : v550 = none := hw549
                have hO : OKP G h0 a (upd (upd (upd (upd F 2 (nI sz)) 9 (nI at555)) 10 0) 11 0) (updR R 1 (.ref pq)) Z B J K553 w := hO.to rfl
                refine W.widen (k := 5) (n := 25) (by show 5 + 0 ≤ 5; omega) (by show 25 + 0 ≤ 25; omega) ?_
                refine W.eq (g2 := F0 m 116 ls []) rfl ?_
                refine lv_aload_n hx hb dX8_declaration_116 rfl (lv_at hl 2 rfl) ?_
                refine lv_bipush (v := 32) hx hb dX8_declaration_117 (by decide) ?_
                have hO : OKW G h0 a (upd (upd (upd (upd (upd (upd (upd F 2 (nI sz)) 9 (nI at9)) 10 0) 11 0) 9 (nI at555)) 2 (nI sz)) 9 (nI at555)) (updR R 1 (.ref pq)) Z B J K553.1 (fun q99 x99 => x99 = rep G a K553 q99) w := hO.to rfl
                obtain ⟨_, qr563, hqr564⟩ := hO.2.1 23 _ (sg_23 G h0 a _ _ _ _ _)
                refine pn_V0 (G := G) (As := [.int 32]) (rest := []) hx hb hml hown hq hE hX pX0_al hP hD hS hA hl.1 (P_take l G h0 a (upd (upd (upd (upd (upd F 2 (nI sz)) 9 (nI at9)) 10 0) 11 0) 9 (nI at555)) (updR R 1 (.ref pq)) Z B J K553.1 (fun q99 x99 => x99 = rep G a K553 q99) w 32 at555 sz (by omega) (by omega) (by decide) hO hl0) (gV pw_793 pw_794 pw_795 pw_796 pw_781) hV_X8_take qr563 5 hqr564 rfl rfl rfl (Nat.le_of_ble_eq_true rfl) dX8_declaration_119 ⟨(by show 5 + 1 ≤ 6; omega), (by show 25 + 6 ≤ 31; omega)⟩ ⟨Nat.le_of_ble_eq_true rfl, Nat.le_of_ble_eq_true rfl⟩ (fun v562 u560 H locs hw561 hP hD hS => ?_) (fun ux ce9 q9 H9 locs9 hux hP9 hD9 hS9 hce hcv hcl => pb_out ux (ThQ.up (Thx.same (Thx.same (Thx.f Thx.rfl (by omega)) rfl) rfl) hux) hnt hlocks hce hcv hcl hP9 hD9 hS9 (by show 5 + 1 ≤ 6; omega) (by show 25 + 6 ≤ 31; omega))
                obtain ⟨w, _⟩ := u560
                obtain ⟨hw561, h565, hO⟩ := hw561
                have h565 : at555 + 1 ≤ sz := h565
                obtain rfl : v562 = some (.int (nI at555)) := hw561
                have hO : OKP G h0 a (upd (upd (upd (upd F 2 (nI sz)) 9 (nI (at555 + 1))) 10 0) 11 0) (updR R 1 (.ref pq)) Z B J K553 w := hO.to rfl
                refine W.widen (k := 5) (n := 25) (by show 5 + 0 ≤ 5; omega) (by show 25 + 0 ≤ 25; omega) ?_
                refine W.eq (g2 := F0 m 122 ls [.int (nI at555)]) rfl ?_
                refine lv_pop hx hb dX8_declaration_122 rfl ?_
                refine lv_aload_n hx hb dX8_declaration_123 rfl (lv_at hl 0 rfl) ?_
                refine W_size (fun hz1 hz2 => ?_)
                refine vx_ret ?_
                have hz566 : WPr G K553 g554 := h556
                have hz567 : PgS G K553 g554 (a 1) pq dr ml (nd + 1) nm cp it s9 := h557
                have hz568 : K553.1 r373 = 4 := h558
                have hz569 : at9 + 3 ≤ (at555 + 1) ∧ (at555 + 1) ≤ sz := (by omega)
                have hO : OKP G h0 a (upd (upd (upd (upd F 2 (nI sz)) 9 (nI (at555 + 1))) 10 0) 11 0) (updR R 1 (.ref pq)) Z B J K553 w := hO.to rfl
                refine W.widen (k := 6) (n := 31) (by omega) (by omega) ?_
                have hzz1 : H.size ≤ s.heap.size + (5) := (by have z : 5 ≤ 5 := (by omega); omega)
                have hzz2 : hSl H ≤ hSl s.heap + (25) := (by have z : 25 ≤ 25 := (by omega); omega)
                exact W.aret (v := .ref r373) hx hb hr (Or.inl ⟨_, rfl⟩) (Or.inr ⟨_, rfl⟩) (fun t99 ht99 hW99 => ⟨⟨_, (w, (K553, g554, r373, (at555 + 1), (nd + 1))), rfl, ⟨rfl, hz566, hz567, hz568, hz569, hO⟩, by rw [ht99]; exact hP, hD, by rw [ht99]; exact hzz1, by rw [ht99]; exact hzz2⟩, hS.F ht99⟩) hS.2.2 dX8_declaration_124
          · have n570 : ¬ (r476 = 0) := fun h9 => c479 ((nI_eq (a := r476) (b := 0) (by omega) (by omega)).mpr h9)
            refine lv_aload_n hx hb dX8_declaration_83 rfl (lv_at hl 0 rfl) ?_
            refine lv_aload_n hx hb dX8_declaration_84 rfl (lv_at hl 2 rfl) ?_
            refine lv_bipush (v := 65) hx hb dX8_declaration_85 (by decide) ?_
            have hO : OKW G h0 a (upd (upd (upd (upd (upd (upd (upd F 2 (nI sz)) 9 (nI at9)) 10 0) 11 0) 9 (nI (((at9 + 1) + 1) + r476))) 2 (nI sz)) 9 (nI (((at9 + 1) + 1) + r476))) (updR R 1 (.ref pq)) Z B J K374.1 (fun q99 x99 => x99 = rep G a K374 q99) w := hO.to rfl
            obtain ⟨_, qr574, hqr575⟩ := hO.2.1 23 _ (sg_23 G h0 a _ _ _ _ _)
            refine pn_V0 (G := G) (As := [.int 65]) (rest := [.ref r373]) hx hb hml hown hq hE hX pX0_al hP hD hS hA hl.1 (P_take l G h0 a (upd (upd (upd (upd (upd F 2 (nI sz)) 9 (nI at9)) 10 0) 11 0) 9 (nI (((at9 + 1) + 1) + r476))) (updR R 1 (.ref pq)) Z B J K374.1 (fun q99 x99 => x99 = rep G a K374 q99) w 65 (((at9 + 1) + 1) + r476) sz (by omega) (by omega) (by decide) hO hl0) (gV pw_793 pw_794 pw_795 pw_796 pw_781) hV_X8_take qr574 5 hqr575 rfl rfl rfl (Nat.le_of_ble_eq_true rfl) dX8_declaration_87 ⟨(by show 5 + 1 ≤ 6; omega), (by show 25 + 6 ≤ 31; omega)⟩ ⟨Nat.le_of_ble_eq_true rfl, Nat.le_of_ble_eq_true rfl⟩ (fun v573 u571 H locs hw572 hP hD hS => ?_) (fun ux ce9 q9 H9 locs9 hux hP9 hD9 hS9 hce hcv hcl => pb_out ux (ThQ.up (Thx.same (Thx.same (Thx.f Thx.rfl (by omega)) rfl) rfl) hux) hnt hlocks hce hcv hcl hP9 hD9 hS9 (by show 5 + 1 ≤ 6; omega) (by show 25 + 6 ≤ 31; omega))
            obtain ⟨w, _⟩ := u571
            obtain ⟨hw572, h576, hO⟩ := hw572
            have h576 : (((at9 + 1) + 1) + r476) + 1 ≤ sz := h576
            obtain rfl : v573 = some (.int (nI (((at9 + 1) + 1) + r476))) := hw572
            have hO : OKP G h0 a (upd (upd (upd (upd F 2 (nI sz)) 9 (nI ((((at9 + 1) + 1) + r476) + 1))) 10 0) 11 0) (updR R 1 (.ref pq)) Z B J K374 w := hO.to rfl
            refine W.widen (k := 5) (n := 25) (by show 5 + 0 ≤ 5; omega) (by show 25 + 0 ≤ 25; omega) ?_
            refine W.eq (g2 := F0 m 90 ls [.int (nI (((at9 + 1) + 1) + r476)), .ref r373]) rfl ?_
            refine p_put (v := .int (nI (((at9 + 1) + 1) + r476))) (ty := .int) (C := RX2) (Tc := TX2) (N := 13) (ci := 2) (K' := (kI K374 19 r373 (nI (((at9 + 1) + 1) + r476)))) hx hb hq pin_wsX20 tyX2 tyX2_ok nmX2 hown hE hP hD hS hO (by rw [h378]; decide) (rep_4 h378) rfl 4 (by decide) (hq _ pw_802) (fun _ h9 => h9) rfl (by decide +kernel) rfl rfl (Nat.le_of_ble_eq_true rfl) rfl (by rw [rep_4 (show (kI K374 19 r373 (nI (((at9 + 1) + 1) + r476))).1 r373 = 4 from h378), pi_19] <;> rfl) (fun p9 hp9 => rep_kI hp9) dX8_declaration_90 (fun H locs w hP hD hS hO => ?_)
            obtain ⟨K577, hK578⟩ : ∃ z : PK, z = (kI K374 19 r373 (nI (((at9 + 1) + 1) + r476))) := ⟨_, rfl⟩
            rw [← hK578] at hO
            have hf579 : K577.1 r373 = 4 := (by rw [hK578]; exact h378)
            have hf580 : K577.2.1 19 r373 = (nI (((at9 + 1) + 1) + r476)) := by rw [hK578]; exact kI_eq
            have hwp581 : WPr G K577 g375 := by rw [hK578]; exact WPr.kI h376 (by decide)
            have hps582 : PgS G K577 g375 (a 1) pq dr ml (nd + 1) nm cp it s9 := by rw [hK578]; exact PgS.kI h377 (by decide)
            refine lv_aload_n hx hb dX8_declaration_93 rfl (lv_at hl 2 rfl) ?_
            refine lv_iload_n hx hb dX8_declaration_94 rfl (lv_at hl 1 rfl) ?_
            refine lv_if_eq (tgt := 103) hx hb dX8_declaration_95 (by decide) (fun c583 => ?_) (fun c583 => ?_)
            · have n584 : r6 = 0 := (nI_eq (a := r6) (b := 0) (by omega) (by omega)).mp c583
              refine lv_bipush (v := 12) hx hb dX8_declaration_103 (by decide) ?_
              have hO : OKW G h0 a (upd (upd (upd (upd (upd (upd F 2 (nI sz)) 9 (nI ((((at9 + 1) + 1) + r476) + 1))) 10 0) 11 0) 2 (nI sz)) 9 (nI ((((at9 + 1) + 1) + r476) + 1))) (updR R 1 (.ref pq)) Z B J K577.1 (fun q99 x99 => x99 = rep G a K577 q99) w := hO.to rfl
              obtain ⟨_, qr588, hqr589⟩ := hO.2.1 23 _ (sg_23 G h0 a _ _ _ _ _)
              refine pc_V0 (G := G) (As := [.int 12]) (rest := []) hx hb hml hown hq hE hX pX0_al hP hD hS hA hl.1 (P_takeIf l G h0 a (upd (upd (upd (upd F 2 (nI sz)) 9 (nI ((((at9 + 1) + 1) + r476) + 1))) 10 0) 11 0) (updR R 1 (.ref pq)) Z B J K577.1 (fun q99 x99 => x99 = rep G a K577 q99) w 12 ((((at9 + 1) + 1) + r476) + 1) sz (by omega) (by omega) (by decide) hO) (gV pw_797 pw_798 pw_799 pw_796 pw_789) hV_X8_takeIf qr588 5 hqr589 rfl rfl rfl (Nat.le_of_ble_eq_true rfl) dX8_declaration_105 ⟨(by show 5 + 0 ≤ 6; omega), (by show 25 + 0 ≤ 31; omega)⟩ ⟨Nat.le_of_ble_eq_true rfl, Nat.le_of_ble_eq_true rfl⟩ (fun v587 u585 H locs hw586 hP hD hS => ?_)
              obtain ⟨w, r590⟩ := u585
              obtain ⟨hw586, h591, h592, hO⟩ := hw586
              have h591 : r590 ≤ 1 := h591
              have h592 : ((((at9 + 1) + 1) + r476) + 1) + r590 ≤ sz := h592
              obtain rfl : v587 = some (.int (nI r590)) := hw586
              have hO : OKP G h0 a (upd (upd (upd (upd F 2 (nI sz)) 9 (nI (((((at9 + 1) + 1) + r476) + 1) + r590))) 10 0) 11 0) (updR R 1 (.ref pq)) Z B J K577 w := hO.to rfl
              refine W.widen (k := 5) (n := 25) (by show 5 + 0 ≤ 5; omega) (by show 25 + 0 ≤ 25; omega) ?_
              refine W.eq (g2 := F0 m 108 ls [.int (nI r590)]) rfl ?_
              refine lv_if_eq (tgt := 116) hx hb dX8_declaration_108 (by decide) (fun c593 => ?_) (fun c593 => ?_)
              · have n594 : r590 = 0 := (nI_eq (a := r590) (b := 0) (by omega) (by omega)).mp c593
                refine lv_aload_n hx hb dX8_declaration_116 rfl (lv_at hl 2 rfl) ?_
                refine lv_bipush (v := 32) hx hb dX8_declaration_117 (by decide) ?_
                have hO : OKW G h0 a (upd (upd (upd (upd (upd (upd (upd F 2 (nI sz)) 9 (nI at9)) 10 0) 11 0) 9 (nI (((((at9 + 1) + 1) + r476) + 1) + r590))) 2 (nI sz)) 9 (nI (((((at9 + 1) + 1) + r476) + 1) + r590))) (updR R 1 (.ref pq)) Z B J K577.1 (fun q99 x99 => x99 = rep G a K577 q99) w := hO.to rfl
                obtain ⟨_, qr598, hqr599⟩ := hO.2.1 23 _ (sg_23 G h0 a _ _ _ _ _)
                refine pn_V0 (G := G) (As := [.int 32]) (rest := []) hx hb hml hown hq hE hX pX0_al hP hD hS hA hl.1 (P_take l G h0 a (upd (upd (upd (upd (upd F 2 (nI sz)) 9 (nI at9)) 10 0) 11 0) 9 (nI (((((at9 + 1) + 1) + r476) + 1) + r590))) (updR R 1 (.ref pq)) Z B J K577.1 (fun q99 x99 => x99 = rep G a K577 q99) w 32 (((((at9 + 1) + 1) + r476) + 1) + r590) sz (by omega) (by omega) (by decide) hO hl0) (gV pw_793 pw_794 pw_795 pw_796 pw_781) hV_X8_take qr598 5 hqr599 rfl rfl rfl (Nat.le_of_ble_eq_true rfl) dX8_declaration_119 ⟨(by show 5 + 1 ≤ 6; omega), (by show 25 + 6 ≤ 31; omega)⟩ ⟨Nat.le_of_ble_eq_true rfl, Nat.le_of_ble_eq_true rfl⟩ (fun v597 u595 H locs hw596 hP hD hS => ?_) (fun ux ce9 q9 H9 locs9 hux hP9 hD9 hS9 hce hcv hcl => pb_out ux (ThQ.up (Thx.same (Thx.same (Thx.f Thx.rfl (by omega)) rfl) rfl) hux) hnt hlocks hce hcv hcl hP9 hD9 hS9 (by show 5 + 1 ≤ 6; omega) (by show 25 + 6 ≤ 31; omega))
                obtain ⟨w, _⟩ := u595
                obtain ⟨hw596, h600, hO⟩ := hw596
                have h600 : (((((at9 + 1) + 1) + r476) + 1) + r590) + 1 ≤ sz := h600
                obtain rfl : v597 = some (.int (nI (((((at9 + 1) + 1) + r476) + 1) + r590))) := hw596
                have hO : OKP G h0 a (upd (upd (upd (upd F 2 (nI sz)) 9 (nI ((((((at9 + 1) + 1) + r476) + 1) + r590) + 1))) 10 0) 11 0) (updR R 1 (.ref pq)) Z B J K577 w := hO.to rfl
                refine W.widen (k := 5) (n := 25) (by show 5 + 0 ≤ 5; omega) (by show 25 + 0 ≤ 25; omega) ?_
                refine W.eq (g2 := F0 m 122 ls [.int (nI (((((at9 + 1) + 1) + r476) + 1) + r590))]) rfl ?_
                refine lv_pop hx hb dX8_declaration_122 rfl ?_
                refine lv_aload_n hx hb dX8_declaration_123 rfl (lv_at hl 0 rfl) ?_
                refine W_size (fun hz1 hz2 => ?_)
                refine vx_ret ?_
                have hz601 : WPr G K577 g375 := hwp581
                have hz602 : PgS G K577 g375 (a 1) pq dr ml (nd + 1) nm cp it s9 := hps582
                have hz603 : K577.1 r373 = 4 := hf579
                have hz604 : at9 + 3 ≤ ((((((at9 + 1) + 1) + r476) + 1) + r590) + 1) ∧ ((((((at9 + 1) + 1) + r476) + 1) + r590) + 1) ≤ sz := (by omega)
                have hO : OKP G h0 a (upd (upd (upd (upd F 2 (nI sz)) 9 (nI ((((((at9 + 1) + 1) + r476) + 1) + r590) + 1))) 10 0) 11 0) (updR R 1 (.ref pq)) Z B J K577 w := hO.to rfl
                refine W.widen (k := 6) (n := 31) (by omega) (by omega) ?_
                have hzz1 : H.size ≤ s.heap.size + (5) := (by have z : 5 ≤ 5 := (by omega); omega)
                have hzz2 : hSl H ≤ hSl s.heap + (25) := (by have z : 25 ≤ 25 := (by omega); omega)
                exact W.aret (v := .ref r373) hx hb hr (Or.inl ⟨_, rfl⟩) (Or.inr ⟨_, rfl⟩) (fun t99 ht99 hW99 => ⟨⟨_, (w, (K577, g375, r373, ((((((at9 + 1) + 1) + r476) + 1) + r590) + 1), (nd + 1))), rfl, ⟨rfl, hz601, hz602, hz603, hz604, hO⟩, by rw [ht99]; exact hP, hD, by rw [ht99]; exact hzz1, by rw [ht99]; exact hzz2⟩, hS.F ht99⟩) hS.2.2 dX8_declaration_124
              · have n605 : ¬ (r590 = 0) := fun h9 => c593 ((nI_eq (a := r590) (b := 0) (by omega) (by omega)).mpr h9)
                refine lv_aload_n hx hb dX8_declaration_111 rfl (lv_at hl 2 rfl) ?_
                refine lv_aload_n hx hb dX8_declaration_112 rfl (lv_at hl 0 rfl) ?_
                have hO : OKP G h0 a (upd (upd (upd (upd (upd (upd (upd (upd (upd F 2 (nI sz)) 9 (nI at9)) 10 0) 11 0) 9 (nI (((((at9 + 1) + 1) + r476) + 1) + r590))) 2 (nI sz)) 9 (nI (((((at9 + 1) + 1) + r476) + 1) + r590))) 10 0) 11 0) (updR (updR R 1 (.ref pq)) 1 (.ref pq)) Z B J K577 w := hO.to rfl
                obtain ⟨_, qr609, hqr610⟩ := hO.2.1 23 _ (sg_23 G h0 a _ _ _ _ _)
                refine pn_V0 (G := G) (As := [.ref r373]) (rest := []) hx hb hml hown hq hE hX pX0_al hP hD hS hA hl.1 (P_listI l G h0 a (upd (upd (upd (upd (upd F 2 (nI sz)) 9 (nI at9)) 10 0) 11 0) 9 (nI (((((at9 + 1) + 1) + r476) + 1) + r590))) (updR R 1 (.ref pq)) Z B J K577 w pq dr ml (nd + 1) nm cp it s9 r373 (((((at9 + 1) + 1) + r476) + 1) + r590) sz g375 (by omega) (by omega) hwp581 hps582 hf579 hO hl0) (gV pw_815 pw_816 pw_817 pw_796 pw_800) hV_X8_listInterfaces qr609 5 hqr610 rfl rfl rfl (Nat.le_of_ble_eq_true rfl) dX8_declaration_113 ⟨(by show 5 + 1 ≤ 6; omega), (by show 25 + 6 ≤ 31; omega)⟩ ⟨Nat.le_of_ble_eq_true rfl, Nat.le_of_ble_eq_true rfl⟩ (fun v608 u606 H locs hw607 hP hD hS => ?_) (fun ux ce9 q9 H9 locs9 hux hP9 hD9 hS9 hce hcv hcl => pb_out ux (ThQ.up (Thx.same (Thx.same (Thx.same (Thx.same (Thx.f Thx.rfl (by omega)) rfl) rfl) rfl) rfl) hux) hnt hlocks hce hcv hcl hP9 hD9 hS9 (by show 5 + 1 ≤ 6; omega) (by show 25 + 6 ≤ 31; omega))
                obtain ⟨w, K611, g612, at613⟩ := u606
                obtain ⟨hw607, h614, h615, h616, h617, hO⟩ := hw607
                have h614 : WPr G K611 g612 := h614
                have h615 : PgS G K611 g612 (a 1) pq dr ml (nd + 1) nm cp it s9 := h615
                have h616 : K611.1 r373 = 4 := h616
                have h617 : (((((at9 + 1) + 1) + r476) + 1) + r590) + 1 ≤ at613 ∧ at613 ≤ sz := h617
                obtain rfl : v608 = none := hw607
                have hO : OKP G h0 a (upd (upd (upd (upd F 2 (nI sz)) 9 (nI at613)) 10 0) 11 0) (updR R 1 (.ref pq)) Z B J K611 w := hO.to rfl
                refine W.widen (k := 5) (n := 25) (by show 5 + 0 ≤ 5; omega) (by show 25 + 0 ≤ 25; omega) ?_
                refine W.eq (g2 := F0 m 116 ls []) rfl ?_
                refine lv_aload_n hx hb dX8_declaration_116 rfl (lv_at hl 2 rfl) ?_
                refine lv_bipush (v := 32) hx hb dX8_declaration_117 (by decide) ?_
                have hO : OKW G h0 a (upd (upd (upd (upd (upd (upd (upd F 2 (nI sz)) 9 (nI at9)) 10 0) 11 0) 9 (nI at613)) 2 (nI sz)) 9 (nI at613)) (updR R 1 (.ref pq)) Z B J K611.1 (fun q99 x99 => x99 = rep G a K611 q99) w := hO.to rfl
                obtain ⟨_, qr621, hqr622⟩ := hO.2.1 23 _ (sg_23 G h0 a _ _ _ _ _)
                refine pn_V0 (G := G) (As := [.int 32]) (rest := []) hx hb hml hown hq hE hX pX0_al hP hD hS hA hl.1 (P_take l G h0 a (upd (upd (upd (upd (upd F 2 (nI sz)) 9 (nI at9)) 10 0) 11 0) 9 (nI at613)) (updR R 1 (.ref pq)) Z B J K611.1 (fun q99 x99 => x99 = rep G a K611 q99) w 32 at613 sz (by omega) (by omega) (by decide) hO hl0) (gV pw_793 pw_794 pw_795 pw_796 pw_781) hV_X8_take qr621 5 hqr622 rfl rfl rfl (Nat.le_of_ble_eq_true rfl) dX8_declaration_119 ⟨(by show 5 + 1 ≤ 6; omega), (by show 25 + 6 ≤ 31; omega)⟩ ⟨Nat.le_of_ble_eq_true rfl, Nat.le_of_ble_eq_true rfl⟩ (fun v620 u618 H locs hw619 hP hD hS => ?_) (fun ux ce9 q9 H9 locs9 hux hP9 hD9 hS9 hce hcv hcl => pb_out ux (ThQ.up (Thx.same (Thx.same (Thx.f Thx.rfl (by omega)) rfl) rfl) hux) hnt hlocks hce hcv hcl hP9 hD9 hS9 (by show 5 + 1 ≤ 6; omega) (by show 25 + 6 ≤ 31; omega))
                obtain ⟨w, _⟩ := u618
                obtain ⟨hw619, h623, hO⟩ := hw619
                have h623 : at613 + 1 ≤ sz := h623
                obtain rfl : v620 = some (.int (nI at613)) := hw619
                have hO : OKP G h0 a (upd (upd (upd (upd F 2 (nI sz)) 9 (nI (at613 + 1))) 10 0) 11 0) (updR R 1 (.ref pq)) Z B J K611 w := hO.to rfl
                refine W.widen (k := 5) (n := 25) (by show 5 + 0 ≤ 5; omega) (by show 25 + 0 ≤ 25; omega) ?_
                refine W.eq (g2 := F0 m 122 ls [.int (nI at613)]) rfl ?_
                refine lv_pop hx hb dX8_declaration_122 rfl ?_
                refine lv_aload_n hx hb dX8_declaration_123 rfl (lv_at hl 0 rfl) ?_
                refine W_size (fun hz1 hz2 => ?_)
                refine vx_ret ?_
                have hz624 : WPr G K611 g612 := h614
                have hz625 : PgS G K611 g612 (a 1) pq dr ml (nd + 1) nm cp it s9 := h615
                have hz626 : K611.1 r373 = 4 := h616
                have hz627 : at9 + 3 ≤ (at613 + 1) ∧ (at613 + 1) ≤ sz := (by omega)
                have hO : OKP G h0 a (upd (upd (upd (upd F 2 (nI sz)) 9 (nI (at613 + 1))) 10 0) 11 0) (updR R 1 (.ref pq)) Z B J K611 w := hO.to rfl
                refine W.widen (k := 6) (n := 31) (by omega) (by omega) ?_
                have hzz1 : H.size ≤ s.heap.size + (5) := (by have z : 5 ≤ 5 := (by omega); omega)
                have hzz2 : hSl H ≤ hSl s.heap + (25) := (by have z : 25 ≤ 25 := (by omega); omega)
                exact W.aret (v := .ref r373) hx hb hr (Or.inl ⟨_, rfl⟩) (Or.inr ⟨_, rfl⟩) (fun t99 ht99 hW99 => ⟨⟨_, (w, (K611, g612, r373, (at613 + 1), (nd + 1))), rfl, ⟨rfl, hz624, hz625, hz626, hz627, hO⟩, by rw [ht99]; exact hP, hD, by rw [ht99]; exact hzz1, by rw [ht99]; exact hzz2⟩, hS.F ht99⟩) hS.2.2 dX8_declaration_124
            · have n628 : ¬ (r6 = 0) := fun h9 => c583 ((nI_eq (a := r6) (b := 0) (by omega) (by omega)).mpr h9)
              refine lv_bipush (v := 7) hx hb dX8_declaration_98 (by decide) ?_
              refine lv_goto (tgt := 105) hx hb dX8_declaration_100 (by decide) ?_
              have hO : OKW G h0 a (upd (upd (upd (upd (upd (upd F 2 (nI sz)) 9 (nI ((((at9 + 1) + 1) + r476) + 1))) 10 0) 11 0) 2 (nI sz)) 9 (nI ((((at9 + 1) + 1) + r476) + 1))) (updR R 1 (.ref pq)) Z B J K577.1 (fun q99 x99 => x99 = rep G a K577 q99) w := hO.to rfl
              obtain ⟨_, qr632, hqr633⟩ := hO.2.1 23 _ (sg_23 G h0 a _ _ _ _ _)
              refine pc_V0 (G := G) (As := [.int 7]) (rest := []) hx hb hml hown hq hE hX pX0_al hP hD hS hA hl.1 (P_takeIf l G h0 a (upd (upd (upd (upd F 2 (nI sz)) 9 (nI ((((at9 + 1) + 1) + r476) + 1))) 10 0) 11 0) (updR R 1 (.ref pq)) Z B J K577.1 (fun q99 x99 => x99 = rep G a K577 q99) w 7 ((((at9 + 1) + 1) + r476) + 1) sz (by omega) (by omega) (by decide) hO) (gV pw_797 pw_798 pw_799 pw_796 pw_789) hV_X8_takeIf qr632 5 hqr633 rfl rfl rfl (Nat.le_of_ble_eq_true rfl) dX8_declaration_105 ⟨(by show 5 + 0 ≤ 6; omega), (by show 25 + 0 ≤ 31; omega)⟩ ⟨Nat.le_of_ble_eq_true rfl, Nat.le_of_ble_eq_true rfl⟩ (fun v631 u629 H locs hw630 hP hD hS => ?_)
              obtain ⟨w, r634⟩ := u629
              obtain ⟨hw630, h635, h636, hO⟩ := hw630
              have h635 : r634 ≤ 1 := h635
              have h636 : ((((at9 + 1) + 1) + r476) + 1) + r634 ≤ sz := h636
              obtain rfl : v631 = some (.int (nI r634)) := hw630
              have hO : OKP G h0 a (upd (upd (upd (upd F 2 (nI sz)) 9 (nI (((((at9 + 1) + 1) + r476) + 1) + r634))) 10 0) 11 0) (updR R 1 (.ref pq)) Z B J K577 w := hO.to rfl
              refine W.widen (k := 5) (n := 25) (by show 5 + 0 ≤ 5; omega) (by show 25 + 0 ≤ 25; omega) ?_
              refine W.eq (g2 := F0 m 108 ls [.int (nI r634)]) rfl ?_
              refine lv_if_eq (tgt := 116) hx hb dX8_declaration_108 (by decide) (fun c637 => ?_) (fun c637 => ?_)
              · have n638 : r634 = 0 := (nI_eq (a := r634) (b := 0) (by omega) (by omega)).mp c637
                refine lv_aload_n hx hb dX8_declaration_116 rfl (lv_at hl 2 rfl) ?_
                refine lv_bipush (v := 32) hx hb dX8_declaration_117 (by decide) ?_
                have hO : OKW G h0 a (upd (upd (upd (upd (upd (upd (upd F 2 (nI sz)) 9 (nI at9)) 10 0) 11 0) 9 (nI (((((at9 + 1) + 1) + r476) + 1) + r634))) 2 (nI sz)) 9 (nI (((((at9 + 1) + 1) + r476) + 1) + r634))) (updR R 1 (.ref pq)) Z B J K577.1 (fun q99 x99 => x99 = rep G a K577 q99) w := hO.to rfl
                obtain ⟨_, qr642, hqr643⟩ := hO.2.1 23 _ (sg_23 G h0 a _ _ _ _ _)
                refine pn_V0 (G := G) (As := [.int 32]) (rest := []) hx hb hml hown hq hE hX pX0_al hP hD hS hA hl.1 (P_take l G h0 a (upd (upd (upd (upd (upd F 2 (nI sz)) 9 (nI at9)) 10 0) 11 0) 9 (nI (((((at9 + 1) + 1) + r476) + 1) + r634))) (updR R 1 (.ref pq)) Z B J K577.1 (fun q99 x99 => x99 = rep G a K577 q99) w 32 (((((at9 + 1) + 1) + r476) + 1) + r634) sz (by omega) (by omega) (by decide) hO hl0) (gV pw_793 pw_794 pw_795 pw_796 pw_781) hV_X8_take qr642 5 hqr643 rfl rfl rfl (Nat.le_of_ble_eq_true rfl) dX8_declaration_119 ⟨(by show 5 + 1 ≤ 6; omega), (by show 25 + 6 ≤ 31; omega)⟩ ⟨Nat.le_of_ble_eq_true rfl, Nat.le_of_ble_eq_true rfl⟩ (fun v641 u639 H locs hw640 hP hD hS => ?_) (fun ux ce9 q9 H9 locs9 hux hP9 hD9 hS9 hce hcv hcl => pb_out ux (ThQ.up (Thx.same (Thx.same (Thx.f Thx.rfl (by omega)) rfl) rfl) hux) hnt hlocks hce hcv hcl hP9 hD9 hS9 (by show 5 + 1 ≤ 6; omega) (by show 25 + 6 ≤ 31; omega))
                obtain ⟨w, _⟩ := u639
                obtain ⟨hw640, h644, hO⟩ := hw640
                have h644 : (((((at9 + 1) + 1) + r476) + 1) + r634) + 1 ≤ sz := h644
                obtain rfl : v641 = some (.int (nI (((((at9 + 1) + 1) + r476) + 1) + r634))) := hw640
                have hO : OKP G h0 a (upd (upd (upd (upd F 2 (nI sz)) 9 (nI ((((((at9 + 1) + 1) + r476) + 1) + r634) + 1))) 10 0) 11 0) (updR R 1 (.ref pq)) Z B J K577 w := hO.to rfl
                refine W.widen (k := 5) (n := 25) (by show 5 + 0 ≤ 5; omega) (by show 25 + 0 ≤ 25; omega) ?_
                refine W.eq (g2 := F0 m 122 ls [.int (nI (((((at9 + 1) + 1) + r476) + 1) + r634))]) rfl ?_
                refine lv_pop hx hb dX8_declaration_122 rfl ?_
                refine lv_aload_n hx hb dX8_declaration_123 rfl (lv_at hl 0 rfl) ?_
                refine W_size (fun hz1 hz2 => ?_)
                refine vx_ret ?_
                have hz645 : WPr G K577 g375 := hwp581
                have hz646 : PgS G K577 g375 (a 1) pq dr ml (nd + 1) nm cp it s9 := hps582
                have hz647 : K577.1 r373 = 4 := hf579
                have hz648 : at9 + 3 ≤ ((((((at9 + 1) + 1) + r476) + 1) + r634) + 1) ∧ ((((((at9 + 1) + 1) + r476) + 1) + r634) + 1) ≤ sz := (by omega)
                have hO : OKP G h0 a (upd (upd (upd (upd F 2 (nI sz)) 9 (nI ((((((at9 + 1) + 1) + r476) + 1) + r634) + 1))) 10 0) 11 0) (updR R 1 (.ref pq)) Z B J K577 w := hO.to rfl
                refine W.widen (k := 6) (n := 31) (by omega) (by omega) ?_
                have hzz1 : H.size ≤ s.heap.size + (5) := (by have z : 5 ≤ 5 := (by omega); omega)
                have hzz2 : hSl H ≤ hSl s.heap + (25) := (by have z : 25 ≤ 25 := (by omega); omega)
                exact W.aret (v := .ref r373) hx hb hr (Or.inl ⟨_, rfl⟩) (Or.inr ⟨_, rfl⟩) (fun t99 ht99 hW99 => ⟨⟨_, (w, (K577, g375, r373, ((((((at9 + 1) + 1) + r476) + 1) + r634) + 1), (nd + 1))), rfl, ⟨rfl, hz645, hz646, hz647, hz648, hO⟩, by rw [ht99]; exact hP, hD, by rw [ht99]; exact hzz1, by rw [ht99]; exact hzz2⟩, hS.F ht99⟩) hS.2.2 dX8_declaration_124
              · have n649 : ¬ (r634 = 0) := fun h9 => c637 ((nI_eq (a := r634) (b := 0) (by omega) (by omega)).mpr h9)
                refine lv_aload_n hx hb dX8_declaration_111 rfl (lv_at hl 2 rfl) ?_
                refine lv_aload_n hx hb dX8_declaration_112 rfl (lv_at hl 0 rfl) ?_
                have hO : OKP G h0 a (upd (upd (upd (upd (upd (upd (upd (upd (upd F 2 (nI sz)) 9 (nI at9)) 10 0) 11 0) 9 (nI (((((at9 + 1) + 1) + r476) + 1) + r634))) 2 (nI sz)) 9 (nI (((((at9 + 1) + 1) + r476) + 1) + r634))) 10 0) 11 0) (updR (updR R 1 (.ref pq)) 1 (.ref pq)) Z B J K577 w := hO.to rfl
                obtain ⟨_, qr653, hqr654⟩ := hO.2.1 23 _ (sg_23 G h0 a _ _ _ _ _)
                refine pn_V0 (G := G) (As := [.ref r373]) (rest := []) hx hb hml hown hq hE hX pX0_al hP hD hS hA hl.1 (P_listI l G h0 a (upd (upd (upd (upd (upd F 2 (nI sz)) 9 (nI at9)) 10 0) 11 0) 9 (nI (((((at9 + 1) + 1) + r476) + 1) + r634))) (updR R 1 (.ref pq)) Z B J K577 w pq dr ml (nd + 1) nm cp it s9 r373 (((((at9 + 1) + 1) + r476) + 1) + r634) sz g375 (by omega) (by omega) hwp581 hps582 hf579 hO hl0) (gV pw_815 pw_816 pw_817 pw_796 pw_800) hV_X8_listInterfaces qr653 5 hqr654 rfl rfl rfl (Nat.le_of_ble_eq_true rfl) dX8_declaration_113 ⟨(by show 5 + 1 ≤ 6; omega), (by show 25 + 6 ≤ 31; omega)⟩ ⟨Nat.le_of_ble_eq_true rfl, Nat.le_of_ble_eq_true rfl⟩ (fun v652 u650 H locs hw651 hP hD hS => ?_) (fun ux ce9 q9 H9 locs9 hux hP9 hD9 hS9 hce hcv hcl => pb_out ux (ThQ.up (Thx.same (Thx.same (Thx.same (Thx.same (Thx.f Thx.rfl (by omega)) rfl) rfl) rfl) rfl) hux) hnt hlocks hce hcv hcl hP9 hD9 hS9 (by show 5 + 1 ≤ 6; omega) (by show 25 + 6 ≤ 31; omega))
                obtain ⟨w, K655, g656, at657⟩ := u650
                obtain ⟨hw651, h658, h659, h660, h661, hO⟩ := hw651
                have h658 : WPr G K655 g656 := h658
                have h659 : PgS G K655 g656 (a 1) pq dr ml (nd + 1) nm cp it s9 := h659
                have h660 : K655.1 r373 = 4 := h660
                have h661 : (((((at9 + 1) + 1) + r476) + 1) + r634) + 1 ≤ at657 ∧ at657 ≤ sz := h661
                obtain rfl : v652 = none := hw651
                have hO : OKP G h0 a (upd (upd (upd (upd F 2 (nI sz)) 9 (nI at657)) 10 0) 11 0) (updR R 1 (.ref pq)) Z B J K655 w := hO.to rfl
                refine W.widen (k := 5) (n := 25) (by show 5 + 0 ≤ 5; omega) (by show 25 + 0 ≤ 25; omega) ?_
                refine W.eq (g2 := F0 m 116 ls []) rfl ?_
                refine lv_aload_n hx hb dX8_declaration_116 rfl (lv_at hl 2 rfl) ?_
                refine lv_bipush (v := 32) hx hb dX8_declaration_117 (by decide) ?_
                have hO : OKW G h0 a (upd (upd (upd (upd (upd (upd (upd F 2 (nI sz)) 9 (nI at9)) 10 0) 11 0) 9 (nI at657)) 2 (nI sz)) 9 (nI at657)) (updR R 1 (.ref pq)) Z B J K655.1 (fun q99 x99 => x99 = rep G a K655 q99) w := hO.to rfl
                obtain ⟨_, qr665, hqr666⟩ := hO.2.1 23 _ (sg_23 G h0 a _ _ _ _ _)
                refine pn_V0 (G := G) (As := [.int 32]) (rest := []) hx hb hml hown hq hE hX pX0_al hP hD hS hA hl.1 (P_take l G h0 a (upd (upd (upd (upd (upd F 2 (nI sz)) 9 (nI at9)) 10 0) 11 0) 9 (nI at657)) (updR R 1 (.ref pq)) Z B J K655.1 (fun q99 x99 => x99 = rep G a K655 q99) w 32 at657 sz (by omega) (by omega) (by decide) hO hl0) (gV pw_793 pw_794 pw_795 pw_796 pw_781) hV_X8_take qr665 5 hqr666 rfl rfl rfl (Nat.le_of_ble_eq_true rfl) dX8_declaration_119 ⟨(by show 5 + 1 ≤ 6; omega), (by show 25 + 6 ≤ 31; omega)⟩ ⟨Nat.le_of_ble_eq_true rfl, Nat.le_of_ble_eq_true rfl⟩ (fun v664 u662 H locs hw663 hP hD hS => ?_) (fun ux ce9 q9 H9 locs9 hux hP9 hD9 hS9 hce hcv hcl => pb_out ux (ThQ.up (Thx.same (Thx.same (Thx.f Thx.rfl (by omega)) rfl) rfl) hux) hnt hlocks hce hcv hcl hP9 hD9 hS9 (by show 5 + 1 ≤ 6; omega) (by show 25 + 6 ≤ 31; omega))
                obtain ⟨w, _⟩ := u662
                obtain ⟨hw663, h667, hO⟩ := hw663
                have h667 : at657 + 1 ≤ sz := h667
                obtain rfl : v664 = some (.int (nI at657)) := hw663
                have hO : OKP G h0 a (upd (upd (upd (upd F 2 (nI sz)) 9 (nI (at657 + 1))) 10 0) 11 0) (updR R 1 (.ref pq)) Z B J K655 w := hO.to rfl
                refine W.widen (k := 5) (n := 25) (by show 5 + 0 ≤ 5; omega) (by show 25 + 0 ≤ 25; omega) ?_
                refine W.eq (g2 := F0 m 122 ls [.int (nI at657)]) rfl ?_
                refine lv_pop hx hb dX8_declaration_122 rfl ?_
                refine lv_aload_n hx hb dX8_declaration_123 rfl (lv_at hl 0 rfl) ?_
                refine W_size (fun hz1 hz2 => ?_)
                refine vx_ret ?_
                have hz668 : WPr G K655 g656 := h658
                have hz669 : PgS G K655 g656 (a 1) pq dr ml (nd + 1) nm cp it s9 := h659
                have hz670 : K655.1 r373 = 4 := h660
                have hz671 : at9 + 3 ≤ (at657 + 1) ∧ (at657 + 1) ≤ sz := (by omega)
                have hO : OKP G h0 a (upd (upd (upd (upd F 2 (nI sz)) 9 (nI (at657 + 1))) 10 0) 11 0) (updR R 1 (.ref pq)) Z B J K655 w := hO.to rfl
                refine W.widen (k := 6) (n := 31) (by omega) (by omega) ?_
                have hzz1 : H.size ≤ s.heap.size + (5) := (by have z : 5 ≤ 5 := (by omega); omega)
                have hzz2 : hSl H ≤ hSl s.heap + (25) := (by have z : 25 ≤ 25 := (by omega); omega)
                exact W.aret (v := .ref r373) hx hb hr (Or.inl ⟨_, rfl⟩) (Or.inr ⟨_, rfl⟩) (fun t99 ht99 hW99 => ⟨⟨_, (w, (K655, g656, r373, (at657 + 1), (nd + 1))), rfl, ⟨rfl, hz668, hz669, hz670, hz671, hO⟩, by rw [ht99]; exact hP, hD, by rw [ht99]; exact hzz1, by rw [ht99]; exact hzz2⟩, hS.F ht99⟩) hS.2.2 dX8_declaration_124
      · have n672 : ¬ (r355 = 0) := fun h9 => c358 ((nI_eq (a := r355) (b := 0) (by omega) (by omega)).mpr h9)
        refine lv_aload_n hx hb dX8_declaration_33 rfl (lv_at hl 1 rfl) ?_
        refine c_get (v := .ref (a 1)) (C := RX8) (Tc := TX8) (N := 5) (ci := 5) hx hb hq pin_wsX80 hown hE hP hO 23 (sg_23 G h0 a _ _ _ _ _) rfl 0 (by decide) (hq _ pw_774) (fun _ h9 => h9) rfl dX8_declaration_34 ?_
        refine lv_iconst (v := 2) hx hb dX8_declaration_37 (by decide) ?_
        refine lv_aload_n hx hb dX8_declaration_38 rfl (lv_at hl 1 rfl) ?_
        refine c_get (v := .int (nI at9)) (C := RX8) (Tc := TX8) (N := 5) (ci := 5) hx hb hq pin_wsX80 hown hE hP hO 23 (sg_23 G h0 a _ _ _ _ _) rfl 2 (by decide) (hq _ pw_776) (fun _ h9 => h9) rfl dX8_declaration_39 ?_
        have hO : OKW G h0 a (upd (upd (upd (upd (upd F 2 (nI sz)) 9 (nI at9)) 10 0) 11 0) 2 (nI sz)) (updR R 1 (.ref pq)) Z B J K.1 (fun q99 x99 => x99 = rep G a K q99) w := hO.to rfl
        obtain ⟨_, qr676, hqr677⟩ := hO.2.1 2 _ (sg_2 G h0 a _ _ _ _ _)
        refine pn_V0 (G := G) (As := [.int 2, .int (nI at9)]) (rest := []) hx hb hml hown hq hE hX pX0_al hP hD hS hA hl.1 (K_fail l G h0 a (upd (upd (upd (upd F 2 (nI sz)) 9 (nI at9)) 10 0) 11 0) (updR R 1 (.ref pq)) Z B J K.1 (fun q99 x99 => x99 = rep G a K q99) w 2 (nI at9) sz (by omega) hO hl0) (gV pw_779 pw_65 pw_66 pw_59 pw_43) hV_X10_fail qr676 7 hqr677 rfl rfl rfl (Nat.le_of_ble_eq_true rfl) dX8_declaration_42 ⟨(by show 0 + 1 ≤ 6; omega), (by show 0 + 6 ≤ 31; omega)⟩ ⟨Nat.le_of_ble_eq_true rfl, Nat.le_of_ble_eq_true rfl⟩ (fun v675 u673 H locs hw674 hP hD hS => hw674.elim) (fun ux ce9 q9 H9 locs9 hux hP9 hD9 hS9 hce hcv hcl => pb_out ux (ThQ.up (Thx.same Thx.rfl rfl) hux) hnt hlocks hce hcv hcl hP9 hD9 hS9 (by show 0 + 1 ≤ 6; omega) (by show 0 + 6 ≤ 31; omega))
    · have n678 : r345 = 0 := (nI_eq (a := r345) (b := 0) (by omega) (by omega)).mp c348
      refine lv_aload_n hx hb dX8_declaration_19 rfl (lv_at hl 1 rfl) ?_
      have hO : OKW G h0 a (upd (upd (upd (upd (upd (upd F 2 (nI sz)) 9 (nI at9)) 10 0) 11 0) 2 (nI sz)) 9 (nI at9)) (updR R 1 (.ref pq)) Z B J K.1 (fun q99 x99 => x99 = rep G a K q99) w := hO.to rfl
      obtain ⟨_, qr682, hqr683⟩ := hO.2.1 23 _ (sg_23 G h0 a _ _ _ _ _)
      refine pn_V0 (G := G) (As := []) (rest := []) hx hb hml hown hq hE hX pX0_al hP hD hS hA hl.1 (P_refuse l G h0 a (upd (upd (upd (upd F 2 (nI sz)) 9 (nI at9)) 10 0) 11 0) (updR R 1 (.ref pq)) Z B J K.1 (fun q99 x99 => x99 = rep G a K q99) w at9 sz (by omega) (by omega) hO hl0) (gV pw_806 pw_807 pw_808 pw_796 pw_778) hV_X8_refuse qr682 5 hqr683 rfl rfl rfl (Nat.le_of_ble_eq_true rfl) dX8_declaration_20 ⟨(by show 0 + 1 ≤ 6; omega), (by show 0 + 6 ≤ 31; omega)⟩ ⟨Nat.le_of_ble_eq_true rfl, Nat.le_of_ble_eq_true rfl⟩ (fun v681 u679 H locs hw680 hP hD hS => hw680.elim) (fun ux ce9 q9 H9 locs9 hux hP9 hD9 hS9 hce hcv hcl => pb_out ux (ThQ.up (Thx.same (Thx.same Thx.rfl rfl) rfl) hux) hnt hlocks hce hcv hcl hP9 hD9 hS9 (by show 0 + 1 ≤ 6; omega) (by show 0 + 6 ≤ 31; omega))
