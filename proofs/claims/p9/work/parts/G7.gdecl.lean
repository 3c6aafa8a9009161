theorem dX8_listInterfaces_0 : decode cX8_listInterfaces 0 = .ok (.aload_n 1, 1) := by decide +kernel
theorem dX8_listInterfaces_1 : decode cX8_listInterfaces 1 = .ok (.aload_n 0, 1) := by decide +kernel
theorem dX8_listInterfaces_2 : decode cX8_listInterfaces 2 = .ok (.bipush 65, 2) := by decide +kernel
theorem dX8_listInterfaces_4 : decode cX8_listInterfaces 4 = .ok (.invokevirtual 53, 3) := by decide +kernel
theorem dX8_listInterfaces_7 : decode cX8_listInterfaces 7 = .ok (.putfield 89, 3) := by decide +kernel
theorem dX8_listInterfaces_10 : decode cX8_listInterfaces 10 = .ok (.aload_n 1, 1) := by decide +kernel
theorem dX8_listInterfaces_11 : decode cX8_listInterfaces 11 = .ok (.iconst 1, 1) := by decide +kernel
theorem dX8_listInterfaces_12 : decode cX8_listInterfaces 12 = .ok (.putfield 92, 3) := by decide +kernel
theorem dX8_listInterfaces_15 : decode cX8_listInterfaces 15 = .ok (.iconst 0, 1) := by decide +kernel
theorem dX8_listInterfaces_16 : decode cX8_listInterfaces 16 = .ok (.istore_n 2, 1) := by decide +kernel
theorem dX8_listInterfaces_17 : decode cX8_listInterfaces 17 = .ok (.iload_n 2, 1) := by decide +kernel
theorem dX8_listInterfaces_18 : decode cX8_listInterfaces 18 = .ok (.aload_n 0, 1) := by decide +kernel
theorem dX8_listInterfaces_19 : decode cX8_listInterfaces 19 = .ok (.getfield 7, 3) := by decide +kernel
theorem dX8_listInterfaces_22 : decode cX8_listInterfaces 22 = .ok (.getfield 27, 3) := by decide +kernel
theorem dX8_listInterfaces_25 : decode cX8_listInterfaces 25 = .ok (.if_icmp .ge 35, 3) := by decide +kernel
theorem dX8_listInterfaces_60 : decode cX8_listInterfaces 60 = .ok (.return_, 1) := by decide +kernel
theorem dX8_listInterfaces_28 : decode cX8_listInterfaces 28 = .ok (.aload_n 0, 1) := by decide +kernel
theorem dX8_listInterfaces_29 : decode cX8_listInterfaces 29 = .ok (.bipush 39, 2) := by decide +kernel
theorem dX8_listInterfaces_31 : decode cX8_listInterfaces 31 = .ok (.invokevirtual 80, 3) := by decide +kernel
theorem dX8_listInterfaces_34 : decode cX8_listInterfaces 34 = .ok (.ifCond .eq 26, 3) := by decide +kernel
theorem dX8_listInterfaces_37 : decode cX8_listInterfaces 37 = .ok (.aload_n 0, 1) := by decide +kernel
theorem dX8_listInterfaces_38 : decode cX8_listInterfaces 38 = .ok (.bipush 65, 2) := by decide +kernel
theorem dX8_listInterfaces_40 : decode cX8_listInterfaces 40 = .ok (.invokevirtual 53, 3) := by decide +kernel
theorem dX8_listInterfaces_43 : decode cX8_listInterfaces 43 = .ok (.pop, 1) := by decide +kernel
theorem dX8_listInterfaces_44 : decode cX8_listInterfaces 44 = .ok (.aload_n 1, 1) := by decide +kernel
theorem dX8_listInterfaces_45 : decode cX8_listInterfaces 45 = .ok (.dup, 1) := by decide +kernel
theorem dX8_listInterfaces_46 : decode cX8_listInterfaces 46 = .ok (.getfield 92, 3) := by decide +kernel
theorem dX8_listInterfaces_49 : decode cX8_listInterfaces 49 = .ok (.iconst 1, 1) := by decide +kernel
theorem dX8_listInterfaces_50 : decode cX8_listInterfaces 50 = .ok (.iadd, 1) := by decide +kernel
theorem dX8_listInterfaces_51 : decode cX8_listInterfaces 51 = .ok (.putfield 92, 3) := by decide +kernel
theorem dX8_listInterfaces_54 : decode cX8_listInterfaces 54 = .ok (.iinc 2 1, 3) := by decide +kernel
theorem dX8_listInterfaces_57 : decode cX8_listInterfaces 57 = .ok (.goto (-40), 3) := by decide +kernel
set_option maxHeartbeats 16000000 in
set_option maxRecDepth 100000 in
theorem P_listI (l : Launch) (G : pT) (h0 : Nat) (a : Nat → Nat) (F : Nat → Int32) (R : Nat → Value) (Z : Int64) (B : Nat → Nat → Int32) (J : Nat → Nat → Int64) (K : PK) (w : va_W) (pq : Nat) (dr : Nat) (ml : Nat) (nd : Nat) (nm : Nat) (cp : Nat) (it : Nat → Nat) (s9 : Nat) (d0 : Nat) (at9 : Nat) (sz : Nat) (g : Nat → Nat → Nat) (hsz : sz ≤ 5000) (hat : at9 ≤ sz) (hwp : WPr G K g) (hps : PgS G K g (a 1) pq dr ml nd nm cp it s9) (hd0 : K.1 d0 = 4) (hg0 : g 5 d0 = 0) (hO : OKP G h0 a (upd (upd F 2 (nI sz)) 9 (nI at9)) (updR R 1 (.ref pq)) Z B J K w) (hl0 : l.stackTraces = false) : PBn l G pX0 yX8_listInterfaces cX8_listInterfaces 3 none ({ frames := 8, cells := 1, slots := 6, locals := 143 }) [.ref (a 3), .ref d0] w (fun (v : Option Value) (u : va_W × (PK × (Nat → Nat → Nat) × Nat)) => v = none ∧ (WPr G u.2.1 u.2.2.1) ∧ (PgS G u.2.1 u.2.2.1 (a 1) pq dr ml nd nm cp it s9) ∧ (u.2.1.1 d0 = 4) ∧ (at9 + 1 ≤ u.2.2.2 ∧ u.2.2.2 ≤ sz) ∧ (OKP G h0 a (upd (upd F 2 (nI sz)) 9 (nI u.2.2.2)) (updR R 1 (.ref pq)) Z B J u.2.1 u.1)) (fun u => u.1) (fun (u : va_W × (PK × (Nat → Nat → Nat) × Nat)) => 0) (fun (u : va_W × (PK × (Nat → Nat → Nat) × Nat)) => 0) (fun (u : va_W × (Nat → Int32) × (Nat → Value) × (Nat → Nat → Int32)) => ThQ G h0 a (upd (upd F 2 (nI sz)) 9 (nI at9)) (updR R 1 (.ref pq)) Z B J u) (fun u => u.1) := by
  intro sz
  refine vx_ofW (cc := cX8_listInterfaces) (maxL := 3) (ret := none) (by decide) rfl ?_
  intro p e s m args below meth c s₁ B9 hml hnt hv
  obtain ⟨rfl, hsz, hP, hD0, hE, hX⟩ := hv
  have hx := B9.exec
  have hb := B9.bytes
  have hr := B9.returns
  have hts := atoms_spec (ws := Cond.code yX8_listInterfaces cX8_listInterfaces 3 none :: pw) B9.pre
  have hq : ∀ w ∈ pw, w.before _ s = true := fun w h => hts w (List.mem_cons_of_mem _ h)
  have hown : s.vm.findClass RX8 = some m.cls := findClass_of_methodNamed B9.named
  have hlocks := B9.notSynchronized
  subst hsz
  have hD := hD0.self (sz := s.heap.size)
  have hA : ∀ q : Nat, s.heap.size ≤ q → va_A w s.heap.size q := fun q h => Or.inr h
  generalize va_A w s.heap.size = A at hD hE hA ⊢
  have hS : va_S A s.heap s.heap [] := va_S.rf
  have hl := lv_entry ([.ref (a 3), .ref d0]) (n := 3) (Nat.le_of_ble_eq_true rfl)
  rw [lg_entry_eq]
  generalize (lg_sl ([.ref (a 3), .ref d0]) ++ List.replicate (3 - (lg_sl ([.ref (a 3), .ref d0])).length) Slot.unset).toArray = ls at hl ⊢
  have hl : lv_has ls 3 [(0, .ref (a 3)), (1, .ref d0)] := hl
  refine lv_aload_n hx hb dX8_listInterfaces_0 rfl (lv_at hl 1 rfl) ?_
  refine lv_aload_n hx hb dX8_listInterfaces_1 rfl (lv_at hl 0 rfl) ?_
  refine lv_bipush (v := 65) hx hb dX8_listInterfaces_2 (by decide) ?_
  have hO : OKW G h0 a (upd (upd (upd (upd F 2 (nI sz)) 9 (nI at9)) 2 (nI sz)) 9 (nI at9)) (updR R 1 (.ref pq)) Z B J K.1 (fun q99 x99 => x99 = rep G a K q99) w := hO.to rfl
  obtain ⟨_, qr4, hqr5⟩ := hO.2.1 23 _ (sg_23 G h0 a _ _ _ _ _)
  refine pn_V0 (G := G) (As := [.int 65]) (rest := [.ref d0]) hx hb hml hown hq hE hX pX0_al hP hD hS hA hl.1 (P_take l G h0 a (upd (upd F 2 (nI sz)) 9 (nI at9)) (updR R 1 (.ref pq)) Z B J K.1 (fun q99 x99 => x99 = rep G a K q99) w 65 at9 sz (by omega) (by omega) (by decide) hO hl0) (gV pw_793 pw_794 pw_795 pw_796 pw_781) hV_X8_take qr4 5 hqr5 rfl rfl rfl (Nat.le_of_ble_eq_true rfl) dX8_listInterfaces_4 ⟨(by show 0 + 1 ≤ 1; omega), (by show 0 + 6 ≤ 6; omega)⟩ ⟨Nat.le_of_ble_eq_true rfl, Nat.le_of_ble_eq_true rfl⟩ (fun v3 u1 H locs hw2 hP hD hS => ?_) (fun ux ce9 q9 H9 locs9 hux hP9 hD9 hS9 hce hcv hcl => pb_out ux (ThQ.up (Thx.same (Thx.same Thx.rfl rfl) rfl) RhX.rfl hux) hnt hlocks hce hcv hcl hP9 hD9 hS9 (by show 0 + 1 ≤ 1; omega) (by show 0 + 6 ≤ 6; omega))
  obtain ⟨w, _⟩ := u1
  obtain ⟨hw2, h6, hO⟩ := hw2
  have h6 : at9 + 1 ≤ sz := h6
  obtain rfl : v3 = some (.int (nI at9)) := hw2
  have hO : OKP G h0 a (upd (upd F 2 (nI sz)) 9 (nI (at9 + 1))) (updR R 1 (.ref pq)) Z B J K w := hO.to rfl
  refine W.widen (k := 0) (n := 0) (by show 0 + 0 ≤ 0; omega) (by show 0 + 0 ≤ 0; omega) ?_
  refine W.eq (g2 := F0 m 7 ls [.int (nI at9), .ref d0]) rfl ?_
  refine p_put (v := .int (nI at9)) (ty := .int) (C := RX2) (Tc := TX2) (N := 13) (ci := 2) (K' := (kI K 20 d0 (nI at9))) hx hb hq pin_wsX20 tyX2 tyX2_ok nmX2 hown hE hP hD hS hO (by rw [hd0]; decide) (rep_4 hd0) rfl 5 (by decide) (hq _ pw_790) (fun _ h9 => h9) rfl (by decide +kernel) rfl rfl (Nat.le_of_ble_eq_true rfl) rfl (by rw [rep_4 (show (kI K 20 d0 (nI at9)).1 d0 = 4 from hd0), pi_20] <;> rfl) (fun p9 hp9 => rep_kI hp9) dX8_listInterfaces_7 (fun H locs w hP hD hS hO => ?_)
  obtain ⟨K7, hK8⟩ : ∃ z : PK, z = (kI K 20 d0 (nI at9)) := ⟨_, rfl⟩
  rw [← hK8] at hO
  have hf9 : K7.1 d0 = 4 := (by rw [hK8]; exact hd0)
  have hf10 : K7.2.1 20 d0 = (nI at9) := by rw [hK8]; exact kI_eq
  have hwp11 : WPr G K7 g := by rw [hK8]; exact WPr.kI hwp (by decide) (Or.inr hg0)
  have hps12 : PgS G K7 g (a 1) pq dr ml nd nm cp it s9 := by rw [hK8]; exact PgS.kI hps (by decide)
  refine lv_aload_n hx hb dX8_listInterfaces_10 rfl (lv_at hl 1 rfl) ?_
  refine lv_iconst (v := 1) hx hb dX8_listInterfaces_11 (by decide) ?_
  refine p_put (v := .int 1) (ty := .int) (C := RX2) (Tc := TX2) (N := 13) (ci := 2) (K' := (kI K7 21 d0 1)) hx hb hq pin_wsX20 tyX2 tyX2_ok nmX2 hown hE hP hD hS hO (by rw [hf9]; decide) (rep_4 hf9) rfl 6 (by decide) (hq _ pw_791) (fun _ h9 => h9) rfl (by decide +kernel) rfl rfl (Nat.le_of_ble_eq_true rfl) rfl (by rw [rep_4 (show (kI K7 21 d0 1).1 d0 = 4 from hf9), pi_21] <;> rfl) (fun p9 hp9 => rep_kI hp9) dX8_listInterfaces_12 (fun H locs w hP hD hS hO => ?_)
  obtain ⟨K13, hK14⟩ : ∃ z : PK, z = (kI K7 21 d0 1) := ⟨_, rfl⟩
  rw [← hK14] at hO
  have hf15 : K13.1 d0 = 4 := (by rw [hK14]; exact hf9)
  have hf16 : K13.2.1 20 d0 = (nI at9) := (by rw [hK14]; exact (kI_of (by decide)).trans hf10)
  have hf17 : K13.2.1 21 d0 = 1 := by rw [hK14]; exact kI_eq
  have hwp18 : WPr G K13 g := by rw [hK14]; exact WPr.kI hwp11 (by decide) (Or.inr hg0)
  have hps19 : PgS G K13 g (a 1) pq dr ml nd nm cp it s9 := by rw [hK14]; exact PgS.kI hps12 (by decide)
  refine lv_iconst (v := 0) hx hb dX8_listInterfaces_15 (by decide) ?_
  refine lv_istore_n (lv' := [(2, .int 0), (0, .ref (a 3)), (1, .ref d0)]) hx hb dX8_listInterfaces_16 rfl hl (by decide) rfl (fun ls hl => ?_)
  have loop_i : ∀ (n_i : Nat) (i2 : Nat) (at2 : Nat) (K2 : PK) (H : Heap) (locs : List Loc) (ls : Array Slot) (w : va_W), i2 ≤ sz → sz + 1 ≤ i2 + n_i → (at9 + 1 ≤ at2 ∧ at2 ≤ sz) → (WPr G K2 g) → (PgS G K2 g (a 1) pq dr ml nd nm cp it s9) → (K2.1 d0 = 4) → va_P G.1 pCl w H → va_D A w → va_S A s.heap H locs → OKP G h0 a (upd (upd F 2 (nI sz)) 9 (nI at2)) (updR R 1 (.ref pq)) Z B J K2 w → lv_has ls 3 [(2, .int (nI i2)), (1, .ref d0), (0, .ref (a 3))] → W p l e (headSpec (Cond.code yX8_listInterfaces cX8_listInterfaces 3 none :: pw) ({ frames := 8, cells := 1, slots := 6, locals := 143 } : Room)).room s m ([.ref (a 3), .ref d0] : List Value).toArray below meth c H locs 0 0 (vx_MQ below (pQn G A (fun (v : Option Value) (u : va_W × (PK × (Nat → Nat → Nat) × Nat)) => v = none ∧ (WPr G u.2.1 u.2.2.1) ∧ (PgS G u.2.1 u.2.2.1 (a 1) pq dr ml nd nm cp it s9) ∧ (u.2.1.1 d0 = 4) ∧ (at9 + 1 ≤ u.2.2.2 ∧ u.2.2.2 ≤ sz) ∧ (OKP G h0 a (upd (upd F 2 (nI sz)) 9 (nI u.2.2.2)) (updR R 1 (.ref pq)) Z B J u.2.1 u.1)) (fun u => u.1) (fun (u : va_W × (PK × (Nat → Nat → Nat) × Nat)) => 0) (fun (u : va_W × (PK × (Nat → Nat → Nat) × Nat)) => 0)) (pXX G A (fun (u : va_W × (Nat → Int32) × (Nat → Value) × (Nat → Nat → Int32)) => ThQ G h0 a (upd (upd F 2 (nI sz)) 9 (nI at9)) (updR R 1 (.ref pq)) Z B J u) (fun u => u.1)) ([.ref (a 3), .ref d0] : List Value).toArray s ({ frames := 8, cells := 1, slots := 6, locals := 143 } : Room).cells ({ frames := 8, cells := 1, slots := 6, locals := 143 } : Room).slots A) (F0 m 17 ls []) := by
    intro n_i
    induction n_i with
    | zero => intro i2 at2 K2 H locs ls w hk_i hn_i; omega
    | succ n_i ih_i =>
      intro i2 at2 K2 H locs ls w hk_i hn_i hat2 hwp2 hps2 hd2 hP hD hS hO hl
      refine lv_iload_n hx hb dX8_listInterfaces_17 rfl (lv_at hl 0 rfl) ?_
      refine lv_aload_n hx hb dX8_listInterfaces_18 rfl (lv_at hl 2 rfl) ?_
      refine c_get (v := .ref (a 1)) (C := RX8) (Tc := TX8) (N := 5) (ci := 5) hx hb hq pin_wsX80 hown hE hP hO 23 (sg_23 G h0 a _ _ _ _ _) rfl 0 (by decide) (hq _ pw_774) (fun _ h9 => h9) rfl dX8_listInterfaces_19 ?_
      refine c_get (v := .int (nI sz)) (C := RX10) (Tc := TX10) (N := 15) (ci := 7) hx hb hq pin_wsX100 hown hE hP hO 2 (sg_2 G h0 a _ _ _ _ _) rfl 8 (by decide) (hq _ pw_792) (fun _ h9 => h9) rfl dX8_listInterfaces_22 ?_
      refine lv_icmp_ge (tgt := 60) hx hb dX8_listInterfaces_25 (by decide) (fun c20 => ?_) (fun c20 => ?_)
      · have n21 : sz ≤ i2 := (nI_leI (a := sz) (b := i2) (by omega) (by omega)).mp c20
        refine W_size (fun hz1 hz2 => ?_)
        refine vx_ret ?_
        have hz22 : WPr G K2 g := hwp2
        have hz23 : PgS G K2 g (a 1) pq dr ml nd nm cp it s9 := hps2
        have hz24 : K2.1 d0 = 4 := hd2
        have hz25 : at9 + 1 ≤ at2 ∧ at2 ≤ sz := (by omega)
        have hO : OKP G h0 a (upd (upd F 2 (nI sz)) 9 (nI at2)) (updR R 1 (.ref pq)) Z B J K2 w := hO.to rfl
        refine W.widen (k := 1) (n := 6) (by omega) (by omega) ?_
        have hzz1 : H.size ≤ s.heap.size + (0) := (by have z : 0 ≤ 0 := (by omega); omega)
        have hzz2 : hSl H ≤ hSl s.heap + (0) := (by have z : 0 ≤ 0 := (by omega); omega)
        exact W.vret hx hb hr (fun t99 ht99 hW99 => ⟨⟨_, (w, (K2, g, at2)), rfl, ⟨rfl, hz22, hz23, hz24, hz25, hO⟩, by rw [ht99]; exact hP, hD, by rw [ht99]; exact hzz1, by rw [ht99]; exact hzz2⟩, hS.F ht99⟩) hS.2.2 dX8_listInterfaces_60
      · have n26 : ¬ (sz ≤ i2) := fun h9 => c20 ((nI_leI (a := sz) (b := i2) (by omega) (by omega)).mpr h9)
        refine lv_aload_n hx hb dX8_listInterfaces_28 rfl (lv_at hl 2 rfl) ?_
        refine lv_bipush (v := 39) hx hb dX8_listInterfaces_29 (by decide) ?_
        have hO : OKW G h0 a (upd (upd (upd (upd F 2 (nI sz)) 9 (nI at2)) 2 (nI sz)) 9 (nI at2)) (updR R 1 (.ref pq)) Z B J K2.1 (fun q99 x99 => x99 = rep G a K2 q99) w := hO.to rfl
        obtain ⟨_, qr30, hqr31⟩ := hO.2.1 23 _ (sg_23 G h0 a _ _ _ _ _)
        refine pc_V0 (G := G) (As := [.int 39]) (rest := []) hx hb hml hown hq hE hX pX0_al hP hD hS hA hl.1 (P_takeIf l G h0 a (upd (upd F 2 (nI sz)) 9 (nI at2)) (updR R 1 (.ref pq)) Z B J K2.1 (fun q99 x99 => x99 = rep G a K2 q99) w 39 at2 sz (by omega) (by omega) (by decide) hO) (gV pw_797 pw_798 pw_799 pw_796 pw_789) hV_X8_takeIf qr30 5 hqr31 rfl rfl rfl (Nat.le_of_ble_eq_true rfl) dX8_listInterfaces_31 ⟨(by show 0 + 0 ≤ 1; omega), (by show 0 + 0 ≤ 6; omega)⟩ ⟨Nat.le_of_ble_eq_true rfl, Nat.le_of_ble_eq_true rfl⟩ (fun v29 u27 H locs hw28 hP hD hS => ?_)
        obtain ⟨w, r32⟩ := u27
        obtain ⟨hw28, h33, h34, hO⟩ := hw28
        have h33 : r32 ≤ 1 := h33
        have h34 : at2 + r32 ≤ sz := h34
        obtain rfl : v29 = some (.int (nI r32)) := hw28
        have hO : OKP G h0 a (upd (upd F 2 (nI sz)) 9 (nI (at2 + r32))) (updR R 1 (.ref pq)) Z B J K2 w := hO.to rfl
        refine W.widen (k := 0) (n := 0) (Nat.le_of_ble_eq_true rfl) (Nat.le_of_ble_eq_true rfl) ?_
        refine W.eq (g2 := F0 m 34 ls [.int (nI r32)]) rfl ?_
        refine lv_if_eq (tgt := 60) hx hb dX8_listInterfaces_34 (by decide) (fun c35 => ?_) (fun c35 => ?_)
        · have n36 : r32 = 0 := (nI_eq (a := r32) (b := 0) (by omega) (by omega)).mp c35
          refine W_size (fun hz1 hz2 => ?_)
          refine vx_ret ?_
          have hz37 : WPr G K2 g := hwp2
          have hz38 : PgS G K2 g (a 1) pq dr ml nd nm cp it s9 := hps2
          have hz39 : K2.1 d0 = 4 := hd2
          have hz40 : at9 + 1 ≤ (at2 + r32) ∧ (at2 + r32) ≤ sz := (by omega)
          have hO : OKP G h0 a (upd (upd F 2 (nI sz)) 9 (nI (at2 + r32))) (updR R 1 (.ref pq)) Z B J K2 w := hO.to rfl
          refine W.widen (k := 1) (n := 6) (by omega) (by omega) ?_
          have hzz1 : H.size ≤ s.heap.size + (0) := (by have z : 0 ≤ 0 := (by omega); omega)
          have hzz2 : hSl H ≤ hSl s.heap + (0) := (by have z : 0 ≤ 0 := (by omega); omega)
          exact W.vret hx hb hr (fun t99 ht99 hW99 => ⟨⟨_, (w, (K2, g, (at2 + r32))), rfl, ⟨rfl, hz37, hz38, hz39, hz40, hO⟩, by rw [ht99]; exact hP, hD, by rw [ht99]; exact hzz1, by rw [ht99]; exact hzz2⟩, hS.F ht99⟩) hS.2.2 dX8_listInterfaces_60
        · have n41 : ¬ (r32 = 0) := fun h9 => c35 ((nI_eq (a := r32) (b := 0) (by omega) (by omega)).mpr h9)
          refine lv_aload_n hx hb dX8_listInterfaces_37 rfl (lv_at hl 2 rfl) ?_
          refine lv_bipush (v := 65) hx hb dX8_listInterfaces_38 (by decide) ?_
          have hO : OKW G h0 a (upd (upd (upd (upd (upd F 2 (nI sz)) 9 (nI at9)) 9 (nI (at2 + r32))) 2 (nI sz)) 9 (nI (at2 + r32))) (updR R 1 (.ref pq)) Z B J K2.1 (fun q99 x99 => x99 = rep G a K2 q99) w := hO.to rfl
          obtain ⟨_, qr45, hqr46⟩ := hO.2.1 23 _ (sg_23 G h0 a _ _ _ _ _)
          refine pn_V0 (G := G) (As := [.int 65]) (rest := []) hx hb hml hown hq hE hX pX0_al hP hD hS hA hl.1 (P_take l G h0 a (upd (upd (upd F 2 (nI sz)) 9 (nI at9)) 9 (nI (at2 + r32))) (updR R 1 (.ref pq)) Z B J K2.1 (fun q99 x99 => x99 = rep G a K2 q99) w 65 (at2 + r32) sz (by omega) (by omega) (by decide) hO hl0) (gV pw_793 pw_794 pw_795 pw_796 pw_781) hV_X8_take qr45 5 hqr46 rfl rfl rfl (Nat.le_of_ble_eq_true rfl) dX8_listInterfaces_40 ⟨(by show 0 + 1 ≤ 1; omega), (by show 0 + 6 ≤ 6; omega)⟩ ⟨Nat.le_of_ble_eq_true rfl, Nat.le_of_ble_eq_true rfl⟩ (fun v44 u42 H locs hw43 hP hD hS => ?_) (fun ux ce9 q9 H9 locs9 hux hP9 hD9 hS9 hce hcv hcl => pb_out ux (ThQ.up (Thx.same (Thx.same (Thx.f Thx.rfl (by omega)) rfl) rfl) RhX.rfl hux) hnt hlocks hce hcv hcl hP9 hD9 hS9 (by show 0 + 1 ≤ 1; omega) (by show 0 + 6 ≤ 6; omega))
          obtain ⟨w, _⟩ := u42
          obtain ⟨hw43, h47, hO⟩ := hw43
          have h47 : (at2 + r32) + 1 ≤ sz := h47
          obtain rfl : v44 = some (.int (nI (at2 + r32))) := hw43
          have hO : OKP G h0 a (upd (upd F 2 (nI sz)) 9 (nI ((at2 + r32) + 1))) (updR R 1 (.ref pq)) Z B J K2 w := hO.to rfl
          refine W.widen (k := 0) (n := 0) (by show 0 + 0 ≤ 0; omega) (by show 0 + 0 ≤ 0; omega) ?_
          refine W.eq (g2 := F0 m 43 ls [.int (nI (at2 + r32))]) rfl ?_
          refine lv_pop hx hb dX8_listInterfaces_43 rfl ?_
          refine lv_aload_n hx hb dX8_listInterfaces_44 rfl (lv_at hl 1 rfl) ?_
          refine lv_dup hx hb dX8_listInterfaces_45 rfl ?_
          refine p_get (v := .int (K2.2.1 21 d0)) (C := RX2) (Tc := TX2) (N := 13) (ci := 2) hx hb hq pin_wsX20 hown hE hP hO (by rw [hd2]; decide) (rep_4 hd2) rfl 6 (by decide) (hq _ pw_791) (fun _ h9 => h9) rfl dX8_listInterfaces_46 ?_
          refine lv_iconst (v := 1) hx hb dX8_listInterfaces_49 (by decide) ?_
          refine lv_iadd hx hb dX8_listInterfaces_50 ?_
          refine lv_topi (fun x48 e49 => ?_)
          refine p_put (v := .int x48) (ty := .int) (C := RX2) (Tc := TX2) (N := 13) (ci := 2) (K' := (kI K2 21 d0 x48)) hx hb hq pin_wsX20 tyX2 tyX2_ok nmX2 hown hE hP hD hS hO (by rw [hd2]; decide) (rep_4 hd2) rfl 6 (by decide) (hq _ pw_791) (fun _ h9 => h9) rfl (by decide +kernel) rfl rfl (Nat.le_of_ble_eq_true rfl) rfl (by rw [rep_4 (show (kI K2 21 d0 x48).1 d0 = 4 from hd2), pi_21] <;> rfl) (fun p9 hp9 => rep_kI hp9) dX8_listInterfaces_51 (fun H locs w hP hD hS hO => ?_)
          obtain ⟨K50, hK51⟩ : ∃ z : PK, z = (kI K2 21 d0 x48) := ⟨_, rfl⟩
          rw [← hK51] at hO
          have hf52 : K50.1 d0 = 4 := (by rw [hK51]; exact hd2)
          have hf53 : K50.2.1 21 d0 = x48 := by rw [hK51]; exact kI_eq
          have hwp54 : WPr G K50 g := by rw [hK51]; exact WPr.kI hwp2 (by decide) (Or.inr hg0)
          have hps55 : PgS G K50 g (a 1) pq dr ml nd nm cp it s9 := by rw [hK51]; exact PgS.kI hps2 (by decide)
          refine lv_iinc (v := (nI (i2 + 1))) (lv' := [(2, .int (nI (i2 + 1))), (1, .ref d0), (0, .ref (a 3))]) hx hb dX8_listInterfaces_54 hl (k := 0) rfl (nI_1 i2) (by decide) rfl (fun ls hl => ?_)
          refine lv_goto (tgt := 17) hx hb dX8_listInterfaces_57 (by decide) ?_
          refine W.widen (k := 0) (n := 0) (by show 0 ≤ _; omega) (by show 0 ≤ _; omega) ?_
          have hO : OKP G h0 a (upd (upd F 2 (nI sz)) 9 (nI ((at2 + r32) + 1))) (updR R 1 (.ref pq)) Z B J K50 w := hO.to rfl
          exact ih_i (i2 + 1) ((at2 + r32) + 1) K50 _ _ _ _ (by omega) (by omega) (by omega) hwp54 hps55 hf52 hP hD hS hO (lv_sub hl [0, 1, 2] rfl)
  refine W.widen (k := 0) (n := 0) (by show 0 ≤ _; omega) (by show 0 ≤ _; omega) ?_
  have hO : OKP G h0 a (upd (upd F 2 (nI sz)) 9 (nI (at9 + 1))) (updR R 1 (.ref pq)) Z B J K13 w := hO.to rfl
  exact loop_i (sz + 1) 0 (at9 + 1) K13 _ _ _ _ (by omega) (by omega) (by omega) hwp18 hps19 hf15 hP hD hS hO (lv_sub hl [0, 2, 1] rfl)
theorem dX8_declaration_0 : decode cX8_declaration 0 = .ok (.aload_n 0, 1) := by decide +kernel
theorem dX8_declaration_1 : decode cX8_declaration 1 = .ok (.bipush 14, 2) := by decide +kernel
theorem dX8_declaration_3 : decode cX8_declaration 3 = .ok (.invokevirtual 36, 3) := by decide +kernel
theorem dX8_declaration_6 : decode cX8_declaration 6 = .ok (.istore_n 1, 1) := by decide +kernel
theorem dX8_declaration_7 : decode cX8_declaration 7 = .ok (.iload_n 1, 1) := by decide +kernel
theorem dX8_declaration_8 : decode cX8_declaration 8 = .ok (.ifCond .ne 15, 3) := by decide +kernel
theorem dX8_declaration_23 : decode cX8_declaration 23 = .ok (.aload_n 0, 1) := by decide +kernel
theorem dX8_declaration_24 : decode cX8_declaration 24 = .ok (.getfield 13, 3) := by decide +kernel
theorem dX8_declaration_27 : decode cX8_declaration 27 = .ok (.invokevirtual 70, 3) := by decide +kernel
theorem dX8_declaration_30 : decode cX8_declaration 30 = .ok (.ifCond .eq 15, 3) := by decide +kernel
theorem dX8_declaration_45 : decode cX8_declaration 45 = .ok (.aload_n 0, 1) := by decide +kernel
theorem dX8_declaration_46 : decode cX8_declaration 46 = .ok (.dup, 1) := by decide +kernel
theorem dX8_declaration_47 : decode cX8_declaration 47 = .ok (.getfield 17, 3) := by decide +kernel
theorem dX8_declaration_50 : decode cX8_declaration 50 = .ok (.iconst 1, 1) := by decide +kernel
theorem dX8_declaration_51 : decode cX8_declaration 51 = .ok (.iadd, 1) := by decide +kernel
theorem dX8_declaration_52 : decode cX8_declaration 52 = .ok (.putfield 17, 3) := by decide +kernel
theorem dX8_declaration_55 : decode cX8_declaration 55 = .ok (.aload_n 0, 1) := by decide +kernel
theorem dX8_declaration_56 : decode cX8_declaration 56 = .ok (.getfield 13, 3) := by decide +kernel
theorem dX8_declaration_59 : decode cX8_declaration 59 = .ok (.aload_n 0, 1) := by decide +kernel
theorem dX8_declaration_60 : decode cX8_declaration 60 = .ok (.bipush 65, 2) := by decide +kernel
theorem dX8_declaration_62 : decode cX8_declaration 62 = .ok (.invokevirtual 53, 3) := by decide +kernel
theorem dX8_declaration_65 : decode cX8_declaration 65 = .ok (.iload_n 1, 1) := by decide +kernel
theorem dX8_declaration_66 : decode cX8_declaration 66 = .ok (.invokevirtual 76, 3) := by decide +kernel
theorem dX8_declaration_69 : decode cX8_declaration 69 = .ok (.astore_n 2, 1) := by decide +kernel
theorem dX8_declaration_70 : decode cX8_declaration 70 = .ok (.iload_n 1, 1) := by decide +kernel
theorem dX8_declaration_71 : decode cX8_declaration 71 = .ok (.ifCond .ne 22, 3) := by decide +kernel
theorem dX8_declaration_93 : decode cX8_declaration 93 = .ok (.aload_n 0, 1) := by decide +kernel
theorem dX8_declaration_94 : decode cX8_declaration 94 = .ok (.iload_n 1, 1) := by decide +kernel
theorem dX8_declaration_95 : decode cX8_declaration 95 = .ok (.ifCond .eq 8, 3) := by decide +kernel
theorem dX8_declaration_103 : decode cX8_declaration 103 = .ok (.bipush 12, 2) := by decide +kernel
theorem dX8_declaration_105 : decode cX8_declaration 105 = .ok (.invokevirtual 80, 3) := by decide +kernel
theorem dX8_declaration_108 : decode cX8_declaration 108 = .ok (.ifCond .eq 8, 3) := by decide +kernel
theorem dX8_declaration_116 : decode cX8_declaration 116 = .ok (.aload_n 0, 1) := by decide +kernel
theorem dX8_declaration_117 : decode cX8_declaration 117 = .ok (.bipush 32, 2) := by decide +kernel
theorem dX8_declaration_119 : decode cX8_declaration 119 = .ok (.invokevirtual 53, 3) := by decide +kernel
theorem dX8_declaration_122 : decode cX8_declaration 122 = .ok (.pop, 1) := by decide +kernel
theorem dX8_declaration_123 : decode cX8_declaration 123 = .ok (.aload_n 2, 1) := by decide +kernel
theorem dX8_declaration_124 : decode cX8_declaration 124 = .ok (.areturn, 1) := by decide +kernel
theorem dX8_declaration_111 : decode cX8_declaration 111 = .ok (.aload_n 0, 1) := by decide +kernel
theorem dX8_declaration_112 : decode cX8_declaration 112 = .ok (.aload_n 2, 1) := by decide +kernel
theorem dX8_declaration_113 : decode cX8_declaration 113 = .ok (.invokevirtual 86, 3) := by decide +kernel
theorem dX8_declaration_98 : decode cX8_declaration 98 = .ok (.bipush 7, 2) := by decide +kernel
theorem dX8_declaration_100 : decode cX8_declaration 100 = .ok (.goto 5, 3) := by decide +kernel
theorem dX8_declaration_74 : decode cX8_declaration 74 = .ok (.aload_n 0, 1) := by decide +kernel
theorem dX8_declaration_75 : decode cX8_declaration 75 = .ok (.bipush 7, 2) := by decide +kernel
theorem dX8_declaration_77 : decode cX8_declaration 77 = .ok (.invokevirtual 80, 3) := by decide +kernel
theorem dX8_declaration_80 : decode cX8_declaration 80 = .ok (.ifCond .eq 13, 3) := by decide +kernel
theorem dX8_declaration_83 : decode cX8_declaration 83 = .ok (.aload_n 2, 1) := by decide +kernel
theorem dX8_declaration_84 : decode cX8_declaration 84 = .ok (.aload_n 0, 1) := by decide +kernel
theorem dX8_declaration_85 : decode cX8_declaration 85 = .ok (.bipush 65, 2) := by decide +kernel
theorem dX8_declaration_87 : decode cX8_declaration 87 = .ok (.invokevirtual 53, 3) := by decide +kernel
theorem dX8_declaration_90 : decode cX8_declaration 90 = .ok (.putfield 83, 3) := by decide +kernel
theorem dX8_declaration_33 : decode cX8_declaration 33 = .ok (.aload_n 0, 1) := by decide +kernel
theorem dX8_declaration_34 : decode cX8_declaration 34 = .ok (.getfield 7, 3) := by decide +kernel
theorem dX8_declaration_37 : decode cX8_declaration 37 = .ok (.iconst 2, 1) := by decide +kernel
theorem dX8_declaration_38 : decode cX8_declaration 38 = .ok (.aload_n 0, 1) := by decide +kernel
theorem dX8_declaration_39 : decode cX8_declaration 39 = .ok (.getfield 17, 3) := by decide +kernel
theorem dX8_declaration_42 : decode cX8_declaration 42 = .ok (.invokevirtual 60, 3) := by decide +kernel
theorem dX8_declaration_11 : decode cX8_declaration 11 = .ok (.aload_n 0, 1) := by decide +kernel
theorem dX8_declaration_12 : decode cX8_declaration 12 = .ok (.iconst 4, 1) := by decide +kernel
theorem dX8_declaration_13 : decode cX8_declaration 13 = .ok (.invokevirtual 36, 3) := by decide +kernel
theorem dX8_declaration_16 : decode cX8_declaration 16 = .ok (.ifCond .ne 7, 3) := by decide +kernel
theorem dX8_declaration_19 : decode cX8_declaration 19 = .ok (.aload_n 0, 1) := by decide +kernel
theorem dX8_declaration_20 : decode cX8_declaration 20 = .ok (.invokevirtual 67, 3) := by decide +kernel
theorem hV_X9_isFull : yX9_isFull.cls = RX9 ∧ yX9_isFull.cls ≠ "java/lang/invoke/MethodHandle" ∧ yX9_isFull.cls ≠ "java/lang/invoke/VarHandle" ∧ (parseMethodDescriptor yX9_isFull.desc).map (fun d => d.parameters.length) = some 0 := by decide +kernel
theorem hV_X9_addDecl : yX9_addDecl.cls = RX9 ∧ yX9_addDecl.cls ≠ "java/lang/invoke/MethodHandle" ∧ yX9_addDecl.cls ≠ "java/lang/invoke/VarHandle" ∧ (parseMethodDescriptor yX9_addDecl.desc).map (fun d => d.parameters.length) = some 2 := by decide +kernel
theorem hV_X8_listInterfaces : yX8_listInterfaces.cls = RX8 ∧ yX8_listInterfaces.cls ≠ "java/lang/invoke/MethodHandle" ∧ yX8_listInterfaces.cls ≠ "java/lang/invoke/VarHandle" ∧ (parseMethodDescriptor yX8_listInterfaces.desc).map (fun d => d.parameters.length) = some 1 := by decide +kernel
set_option maxHeartbeats 16000000 in
set_option maxRecDepth 100000 in
theorem P_declaration (l : Launch) (G : pT) (h0 : Nat) (a : Nat → Nat) (F : Nat → Int32) (R : Nat → Value) (Z : Int64) (B : Nat → Nat → Int32) (J : Nat → Nat → Int64) (K : PK) (w : va_W) (pq : Nat) (dr : Nat) (ml : Nat) (nd : Nat) (nm : Nat) (cp : Nat) (it : Nat → Nat) (s9 : Nat) (at9 : Nat) (sz : Nat) (g : Nat → Nat → Nat) (hsz : sz ≤ 5000) (hat : at9 ≤ sz) (hwp : WPr G K g) (hps : PgS G K g (a 1) pq dr ml nd nm cp it s9) (hO : OKP G h0 a (upd (upd F 2 (nI sz)) 9 (nI at9)) (updR R 1 (.ref pq)) Z B J K w) (hl0 : l.stackTraces = false) : PBn l G pX0 yX8_declaration cX8_declaration 3 (some (.object "JinjaTongue$Decl")) ({ frames := 9, cells := 6, slots := 31, locals := 167 }) [.ref (a 3)] w (fun (v : Option Value) (u : va_W × (PK × (Nat → Nat → Nat) × Nat × Nat × Nat)) => v = some (.ref u.2.2.2.1) ∧ (WPr G u.2.1 u.2.2.1) ∧ (PgS G u.2.1 u.2.2.1 (a 1) pq dr ml u.2.2.2.2.2 nm cp it s9) ∧ (u.2.1.1 u.2.2.2.1 = 4) ∧ (at9 + 3 ≤ u.2.2.2.2.1 ∧ u.2.2.2.2.1 ≤ sz) ∧ (OKP G h0 a (upd (upd F 2 (nI sz)) 9 (nI u.2.2.2.2.1)) (updR R 1 (.ref pq)) Z B J u.2.1 u.1)) (fun u => u.1) (fun (u : va_W × (PK × (Nat → Nat → Nat) × Nat × Nat × Nat)) => 5) (fun (u : va_W × (PK × (Nat → Nat → Nat) × Nat × Nat × Nat)) => 25) (fun (u : va_W × (Nat → Int32) × (Nat → Value) × (Nat → Nat → Int32)) => ThQ G h0 a (upd (upd F 2 (nI sz)) 9 (nI at9)) (updR R 1 (.ref pq)) Z B J u) (fun u => u.1) := by
  intro sz
  refine vx_ofW (cc := cX8_declaration) (maxL := 3) (ret := (some (.object "JinjaTongue$Decl"))) (by decide) rfl ?_
  intro p e s m args below meth c s₁ B9 hml hnt hv
  obtain ⟨rfl, hsz, hP, hD0, hE, hX⟩ := hv
  have hx := B9.exec
  have hb := B9.bytes
  have hr := B9.returns
  have hts := atoms_spec (ws := Cond.code yX8_declaration cX8_declaration 3 (some (.object "JinjaTongue$Decl")) :: pw) B9.pre
  have hq : ∀ w ∈ pw, w.before _ s = true := fun w h => hts w (List.mem_cons_of_mem _ h)
  have hown : s.vm.findClass RX8 = some m.cls := findClass_of_methodNamed B9.named
  have hlocks := B9.notSynchronized
  subst hsz
  have hD := hD0.self (sz := s.heap.size)
  have hA : ∀ q : Nat, s.heap.size ≤ q → va_A w s.heap.size q := fun q h => Or.inr h
  generalize va_A w s.heap.size = A at hD hE hA ⊢
  have hS : va_S A s.heap s.heap [] := va_S.rf
  have hl := lv_entry ([.ref (a 3)]) (n := 3) (Nat.le_of_ble_eq_true rfl)
  rw [lg_entry_eq]
  generalize (lg_sl ([.ref (a 3)]) ++ List.replicate (3 - (lg_sl ([.ref (a 3)])).length) Slot.unset).toArray = ls at hl ⊢
  have hl : lv_has ls 3 [(0, .ref (a 3))] := hl
  have hp1 := hps.1.1
  have hp2 := hps.1.2.1
  have hp3 := hps.1.2.2.1
  have hp4 := hps.1.2.2.2.1
  have hp5 := hps.1.2.2.2.2.1
  have hp6 := hps.1.2.2.2.2.2.1
  have hp8 := hps.1.2.2.2.2.2.2.2.1
  have hp9 := hps.1.2.2.2.2.2.2.2.2
  refine lv_aload_n hx hb dX8_declaration_0 rfl (lv_at hl 0 rfl) ?_
  refine lv_bipush (v := 14) hx hb dX8_declaration_1 (by decide) ?_
  have hO : OKW G h0 a (upd (upd (upd (upd F 2 (nI sz)) 9 (nI at9)) 2 (nI sz)) 9 (nI at9)) (updR R 1 (.ref pq)) Z B J K.1 (fun q99 x99 => x99 = rep G a K q99) w := hO.to rfl
  obtain ⟨_, qr4, hqr5⟩ := hO.2.1 23 _ (sg_23 G h0 a _ _ _ _ _)
  refine pc_V0 (G := G) (As := [.int 14]) (rest := []) hx hb hml hown hq hE hX pX0_al hP hD hS hA hl.1 (P_seesT l G h0 a (upd (upd F 2 (nI sz)) 9 (nI at9)) (updR R 1 (.ref pq)) Z B J K.1 (fun q99 x99 => x99 = rep G a K q99) w 14 at9 sz (by omega) (by omega) (by decide) hO) (gV pw_803 pw_804 pw_805 pw_796 pw_775) hV_X8_sees qr4 5 hqr5 rfl rfl rfl (Nat.le_of_ble_eq_true rfl) dX8_declaration_3 ⟨(by show 0 + 0 ≤ 6; omega), (by show 0 + 0 ≤ 31; omega)⟩ ⟨Nat.le_of_ble_eq_true rfl, Nat.le_of_ble_eq_true rfl⟩ (fun v3 u1 H locs hw2 hP hD hS => ?_)
  obtain ⟨w, r6⟩ := u1
  obtain ⟨hw2, h7, h8, hO⟩ := hw2
  have h7 : r6 ≤ 1 := h7
  have h8 : at9 + r6 ≤ sz := h8
  obtain rfl : v3 = some (.int (nI r6)) := hw2
  have hO : OKP G h0 a (upd (upd F 2 (nI sz)) 9 (nI at9)) (updR R 1 (.ref pq)) Z B J K w := hO.to rfl
  refine W.widen (k := 0) (n := 0) (Nat.le_of_ble_eq_true rfl) (Nat.le_of_ble_eq_true rfl) ?_
  refine W.eq (g2 := F0 m 6 ls [.int (nI r6)]) rfl ?_
  refine lv_istore_n (lv' := [(1, .int (nI r6)), (0, .ref (a 3))]) hx hb dX8_declaration_6 rfl hl (by decide) rfl (fun ls hl => ?_)
  refine lv_iload_n hx hb dX8_declaration_7 rfl (lv_at hl 0 rfl) ?_
  refine lv_if_ne (tgt := 23) hx hb dX8_declaration_8 (by decide) (fun c9 => ?_) (fun c9 => ?_)
  · have n10 : ¬ (r6 = 0) := fun h9 => c9 ((nI_eq (a := r6) (b := 0) (by omega) (by omega)).mpr h9)
    refine lv_aload_n hx hb dX8_declaration_23 rfl (lv_at hl 1 rfl) ?_
    refine c_get (v := .ref pq) (C := RX8) (Tc := TX8) (N := 5) (ci := 5) hx hb hq pin_wsX80 hown hE hP hO 23 (sg_23 G h0 a _ _ _ _ _) rfl 1 (by decide) (hq _ pw_801) (fun _ h9 => h9) rfl dX8_declaration_24 ?_
    have hO : OKP G h0 a (upd (upd F 2 (nI sz)) 9 (nI at9)) (updR R 1 (.ref pq)) Z B J K w := hO.to rfl
    obtain ⟨qr14, hqr15⟩ := p_recv hO (by rw [hp1]; decide) (rep_7 hp1)
    refine pc_V0 (G := G) (As := []) (rest := []) hx hb hml hown hq hE hX pX0_al hP hD hS hA hl.1 (G_isFull l G h0 a (upd (upd F 2 (nI sz)) 9 (nI at9)) (updR R 1 (.ref pq)) Z B J K w pq dr ml nd g hps.1 hO) (gV pw_809 pw_810 pw_811 pw_106 pw_780) hV_X9_isFull qr14 6 hqr15 rfl rfl rfl (Nat.le_of_ble_eq_true rfl) dX8_declaration_27 ⟨(by show 0 + 0 ≤ 6; omega), (by show 0 + 0 ≤ 31; omega)⟩ ⟨Nat.le_of_ble_eq_true rfl, Nat.le_of_ble_eq_true rfl⟩ (fun v13 u11 H locs hw12 hP hD hS => ?_)
    obtain ⟨w, r16⟩ := u11
    obtain ⟨hw12, h17, h18, hO⟩ := hw12
    have h17 : r16 ≤ 1 := h17
    have h18 : nd + 1 ≤ 37 + r16 := h18
    obtain rfl : v13 = some (.int (nI r16)) := hw12
    have hO : OKP G h0 a (upd (upd F 2 (nI sz)) 9 (nI at9)) (updR R 1 (.ref pq)) Z B J K w := hO.to rfl
    refine W.widen (k := 0) (n := 0) (Nat.le_of_ble_eq_true rfl) (Nat.le_of_ble_eq_true rfl) ?_
    refine W.eq (g2 := F0 m 30 ls [.int (nI r16)]) rfl ?_
    refine lv_if_eq (tgt := 45) hx hb dX8_declaration_30 (by decide) (fun c19 => ?_) (fun c19 => ?_)
    · have n20 : r16 = 0 := (nI_eq (a := r16) (b := 0) (by omega) (by omega)).mp c19
      refine lv_aload_n hx hb dX8_declaration_45 rfl (lv_at hl 1 rfl) ?_
      refine lv_dup hx hb dX8_declaration_46 rfl ?_
      refine c_get (v := .int (nI at9)) (C := RX8) (Tc := TX8) (N := 5) (ci := 5) hx hb hq pin_wsX80 hown hE hP hO 23 (sg_23 G h0 a _ _ _ _ _) rfl 2 (by decide) (hq _ pw_776) (fun _ h9 => h9) rfl dX8_declaration_47 ?_
      refine lv_iconst (v := 1) hx hb dX8_declaration_50 (by decide) ?_
      refine lv_iadd hx hb dX8_declaration_51 ?_
      refine lv_topi (fun x21 e22 => ?_)
      obtain rfl : x21 = nI (at9 + 1) := e22.trans (nI_add (at9) (1))
      refine c_put (v := .int (nI (at9 + 1))) (ty := .int) (C := RX8) (Tc := TX8) (N := 5) (ci := 5) hx hb hq pin_wsX80 tyX8 tyX8_ok nmX8 hown hE hP hD hS hO 23 (sg_23 G h0 a _ _ _ _ _) rfl 2 (by decide) (hq _ pw_776) (fun _ h9 => h9) rfl (by decide +kernel) rfl rfl (Nat.le_of_ble_eq_true rfl) (sf_9 G h0 a _ _ _ _ _ (nI (at9 + 1))) dX8_declaration_52 (fun H locs w hP hD hS hO => ?_)
      refine lv_aload_n hx hb dX8_declaration_55 rfl (lv_at hl 1 rfl) ?_
      refine c_get (v := .ref pq) (C := RX8) (Tc := TX8) (N := 5) (ci := 5) hx hb hq pin_wsX80 hown hE hP hO 23 (sg_23 G h0 a _ _ _ _ _) rfl 1 (by decide) (hq _ pw_801) (fun _ h9 => h9) rfl dX8_declaration_56 ?_
      refine lv_aload_n hx hb dX8_declaration_59 rfl (lv_at hl 1 rfl) ?_
      refine lv_bipush (v := 65) hx hb dX8_declaration_60 (by decide) ?_
      have hO : OKW G h0 a (upd (upd (upd (upd (upd F 2 (nI sz)) 9 (nI at9)) 9 (nI (at9 + 1))) 2 (nI sz)) 9 (nI (at9 + 1))) (updR R 1 (.ref pq)) Z B J K.1 (fun q99 x99 => x99 = rep G a K q99) w := hO.to rfl
      obtain ⟨_, qr26, hqr27⟩ := hO.2.1 23 _ (sg_23 G h0 a _ _ _ _ _)
      refine pn_V0 (G := G) (As := [.int 65]) (rest := [.ref pq]) hx hb hml hown hq hE hX pX0_al hP hD hS hA hl.1 (P_take l G h0 a (upd (upd (upd F 2 (nI sz)) 9 (nI at9)) 9 (nI (at9 + 1))) (updR R 1 (.ref pq)) Z B J K.1 (fun q99 x99 => x99 = rep G a K q99) w 65 (at9 + 1) sz (by omega) (by omega) (by decide) hO hl0) (gV pw_793 pw_794 pw_795 pw_796 pw_781) hV_X8_take qr26 5 hqr27 rfl rfl rfl (Nat.le_of_ble_eq_true rfl) dX8_declaration_62 ⟨(by show 0 + 1 ≤ 6; omega), (by show 0 + 6 ≤ 31; omega)⟩ ⟨Nat.le_of_ble_eq_true rfl, Nat.le_of_ble_eq_true rfl⟩ (fun v25 u23 H locs hw24 hP hD hS => ?_) (fun ux ce9 q9 H9 locs9 hux hP9 hD9 hS9 hce hcv hcl => pb_out ux (ThQ.up (Thx.same (Thx.same (Thx.f Thx.rfl (by omega)) rfl) rfl) RhX.rfl hux) hnt hlocks hce hcv hcl hP9 hD9 hS9 (by show 0 + 1 ≤ 6; omega) (by show 0 + 6 ≤ 31; omega))
      obtain ⟨w, _⟩ := u23
      obtain ⟨hw24, h28, hO⟩ := hw24
      have h28 : (at9 + 1) + 1 ≤ sz := h28
      obtain rfl : v25 = some (.int (nI (at9 + 1))) := hw24
      have hO : OKP G h0 a (upd (upd F 2 (nI sz)) 9 (nI ((at9 + 1) + 1))) (updR R 1 (.ref pq)) Z B J K w := hO.to rfl
      refine W.widen (k := 0) (n := 0) (by show 0 + 0 ≤ 0; omega) (by show 0 + 0 ≤ 0; omega) ?_
      refine W.eq (g2 := F0 m 65 ls [.int (nI (at9 + 1)), .ref pq]) rfl ?_
      refine lv_iload_n hx hb dX8_declaration_65 rfl (lv_at hl 0 rfl) ?_
      have hO : OKP G h0 a (upd (upd (upd F 2 (nI sz)) 9 (nI ((at9 + 1) + 1))) 2 (nI sz)) (updR R 1 (.ref pq)) Z B J K w := hO.to rfl
      obtain ⟨qr32, hqr33⟩ := p_recv hO (by rw [hp1]; decide) (rep_7 hp1)
      refine pc_V0 (G := G) (As := [.int (nI (at9 + 1)), .int (nI r6)]) (rest := []) hx hb hml hown hq hE hX pX0_al hP hD hS hA hl.1 (G_addDecl l G h0 a (upd (upd F 2 (nI sz)) 9 (nI ((at9 + 1) + 1))) (updR R 1 (.ref pq)) Z B J K w pq dr ml nd nm cp it s9 (nI (at9 + 1)) r6 sz g (by omega) hwp hps (by omega) (by omega) hO) (gV pw_812 pw_813 pw_814 pw_106 pw_788) hV_X9_addDecl qr32 6 hqr33 rfl rfl rfl (Nat.le_of_ble_eq_true rfl) dX8_declaration_66 ⟨(by show 0 + 5 ≤ 6; omega), (by show 0 + 25 ≤ 31; omega)⟩ ⟨Nat.le_of_ble_eq_true rfl, Nat.le_of_ble_eq_true rfl⟩ (fun v31 u29 H locs hw30 hP hD hS => ?_)
      obtain ⟨w, r34, K35, g36⟩ := u29
      obtain ⟨hw30, h37, h38, h39, h40, hO⟩ := hw30
      have h37 : WPr G K35 g36 := h37
      have h38 : PgS G K35 g36 (a 1) pq dr ml (nd + 1) nm cp it s9 := h38
      have h39 : K35.1 r34 = 4 := h39
      have h40 : g36 5 r34 = 0 := h40
      obtain rfl : v31 = some (.ref r34) := hw30
      have hO : OKP G h0 a (upd (upd F 2 (nI sz)) 9 (nI ((at9 + 1) + 1))) (updR R 1 (.ref pq)) Z B J K35 w := hO.to rfl
      refine W.widen (k := 5) (n := 25) (by show 0 + 5 ≤ 5; omega) (by show 0 + 25 ≤ 25; omega) ?_
      refine W.eq (g2 := F0 m 69 ls [.ref r34]) rfl ?_
      refine lv_astore_n (lv' := [(2, .ref r34), (1, .int (nI r6)), (0, .ref (a 3))]) hx hb dX8_declaration_69 rfl hl (by decide) rfl (fun ls hl => ?_)
      refine lv_iload_n hx hb dX8_declaration_70 rfl (lv_at hl 1 rfl) ?_
      refine lv_if_ne (tgt := 93) hx hb dX8_declaration_71 (by decide) (fun c41 => ?_) (fun c41 => ?_)
      · have n42 : ¬ (r6 = 0) := fun h9 => c41 ((nI_eq (a := r6) (b := 0) (by omega) (by omega)).mpr h9)
        refine lv_aload_n hx hb dX8_declaration_93 rfl (lv_at hl 2 rfl) ?_
        refine lv_iload_n hx hb dX8_declaration_94 rfl (lv_at hl 1 rfl) ?_
        refine lv_if_eq (tgt := 103) hx hb dX8_declaration_95 (by decide) (fun c43 => ?_) (fun c43 => ?_)
        · have n44 : r6 = 0 := (nI_eq (a := r6) (b := 0) (by omega) (by omega)).mp c43
          refine lv_bipush (v := 12) hx hb dX8_declaration_103 (by decide) ?_
          have hO : OKW G h0 a (upd (upd (upd (upd F 2 (nI sz)) 9 (nI ((at9 + 1) + 1))) 2 (nI sz)) 9 (nI ((at9 + 1) + 1))) (updR R 1 (.ref pq)) Z B J K35.1 (fun q99 x99 => x99 = rep G a K35 q99) w := hO.to rfl
          obtain ⟨_, qr48, hqr49⟩ := hO.2.1 23 _ (sg_23 G h0 a _ _ _ _ _)
          refine pc_V0 (G := G) (As := [.int 12]) (rest := []) hx hb hml hown hq hE hX pX0_al hP hD hS hA hl.1 (P_takeIf l G h0 a (upd (upd F 2 (nI sz)) 9 (nI ((at9 + 1) + 1))) (updR R 1 (.ref pq)) Z B J K35.1 (fun q99 x99 => x99 = rep G a K35 q99) w 12 ((at9 + 1) + 1) sz (by omega) (by omega) (by decide) hO) (gV pw_797 pw_798 pw_799 pw_796 pw_789) hV_X8_takeIf qr48 5 hqr49 rfl rfl rfl (Nat.le_of_ble_eq_true rfl) dX8_declaration_105 ⟨(by show 5 + 0 ≤ 6; omega), (by show 25 + 0 ≤ 31; omega)⟩ ⟨Nat.le_of_ble_eq_true rfl, Nat.le_of_ble_eq_true rfl⟩ (fun v47 u45 H locs hw46 hP hD hS => ?_)
          obtain ⟨w, r50⟩ := u45
          obtain ⟨hw46, h51, h52, hO⟩ := hw46
          have h51 : r50 ≤ 1 := h51
          have h52 : ((at9 + 1) + 1) + r50 ≤ sz := h52
          obtain rfl : v47 = some (.int (nI r50)) := hw46
          have hO : OKP G h0 a (upd (upd F 2 (nI sz)) 9 (nI (((at9 + 1) + 1) + r50))) (updR R 1 (.ref pq)) Z B J K35 w := hO.to rfl
          refine W.widen (k := 5) (n := 25) (by show 5 + 0 ≤ 5; omega) (by show 25 + 0 ≤ 25; omega) ?_
          refine W.eq (g2 := F0 m 108 ls [.int (nI r50)]) rfl ?_
          refine lv_if_eq (tgt := 116) hx hb dX8_declaration_108 (by decide) (fun c53 => ?_) (fun c53 => ?_)
          · have n54 : r50 = 0 := (nI_eq (a := r50) (b := 0) (by omega) (by omega)).mp c53
            refine lv_aload_n hx hb dX8_declaration_116 rfl (lv_at hl 2 rfl) ?_
            refine lv_bipush (v := 32) hx hb dX8_declaration_117 (by decide) ?_
            have hO : OKW G h0 a (upd (upd (upd (upd (upd F 2 (nI sz)) 9 (nI at9)) 9 (nI (((at9 + 1) + 1) + r50))) 2 (nI sz)) 9 (nI (((at9 + 1) + 1) + r50))) (updR R 1 (.ref pq)) Z B J K35.1 (fun q99 x99 => x99 = rep G a K35 q99) w := hO.to rfl
            obtain ⟨_, qr58, hqr59⟩ := hO.2.1 23 _ (sg_23 G h0 a _ _ _ _ _)
            refine pn_V0 (G := G) (As := [.int 32]) (rest := []) hx hb hml hown hq hE hX pX0_al hP hD hS hA hl.1 (P_take l G h0 a (upd (upd (upd F 2 (nI sz)) 9 (nI at9)) 9 (nI (((at9 + 1) + 1) + r50))) (updR R 1 (.ref pq)) Z B J K35.1 (fun q99 x99 => x99 = rep G a K35 q99) w 32 (((at9 + 1) + 1) + r50) sz (by omega) (by omega) (by decide) hO hl0) (gV pw_793 pw_794 pw_795 pw_796 pw_781) hV_X8_take qr58 5 hqr59 rfl rfl rfl (Nat.le_of_ble_eq_true rfl) dX8_declaration_119 ⟨(by show 5 + 1 ≤ 6; omega), (by show 25 + 6 ≤ 31; omega)⟩ ⟨Nat.le_of_ble_eq_true rfl, Nat.le_of_ble_eq_true rfl⟩ (fun v57 u55 H locs hw56 hP hD hS => ?_) (fun ux ce9 q9 H9 locs9 hux hP9 hD9 hS9 hce hcv hcl => pb_out ux (ThQ.up (Thx.same (Thx.same (Thx.f Thx.rfl (by omega)) rfl) rfl) RhX.rfl hux) hnt hlocks hce hcv hcl hP9 hD9 hS9 (by show 5 + 1 ≤ 6; omega) (by show 25 + 6 ≤ 31; omega))
            obtain ⟨w, _⟩ := u55
            obtain ⟨hw56, h60, hO⟩ := hw56
            have h60 : (((at9 + 1) + 1) + r50) + 1 ≤ sz := h60
            obtain rfl : v57 = some (.int (nI (((at9 + 1) + 1) + r50))) := hw56
            have hO : OKP G h0 a (upd (upd F 2 (nI sz)) 9 (nI ((((at9 + 1) + 1) + r50) + 1))) (updR R 1 (.ref pq)) Z B J K35 w := hO.to rfl
            refine W.widen (k := 5) (n := 25) (by show 5 + 0 ≤ 5; omega) (by show 25 + 0 ≤ 25; omega) ?_
            refine W.eq (g2 := F0 m 122 ls [.int (nI (((at9 + 1) + 1) + r50))]) rfl ?_
            refine lv_pop hx hb dX8_declaration_122 rfl ?_
            refine lv_aload_n hx hb dX8_declaration_123 rfl (lv_at hl 0 rfl) ?_
            refine W_size (fun hz1 hz2 => ?_)
            refine vx_ret ?_
            have hz61 : WPr G K35 g36 := h37
            have hz62 : PgS G K35 g36 (a 1) pq dr ml (nd + 1) nm cp it s9 := h38
            have hz63 : K35.1 r34 = 4 := h39
            have hz64 : at9 + 3 ≤ ((((at9 + 1) + 1) + r50) + 1) ∧ ((((at9 + 1) + 1) + r50) + 1) ≤ sz := (by omega)
            have hO : OKP G h0 a (upd (upd F 2 (nI sz)) 9 (nI ((((at9 + 1) + 1) + r50) + 1))) (updR R 1 (.ref pq)) Z B J K35 w := hO.to rfl
            refine W.widen (k := 6) (n := 31) (by omega) (by omega) ?_
            have hzz1 : H.size ≤ s.heap.size + (5) := (by have z : 5 ≤ 5 := (by omega); omega)
            have hzz2 : hSl H ≤ hSl s.heap + (25) := (by have z : 25 ≤ 25 := (by omega); omega)
            exact W.aret (v := .ref r34) hx hb hr (Or.inl ⟨_, rfl⟩) (Or.inr ⟨_, rfl⟩) (fun t99 ht99 hW99 => ⟨⟨_, (w, (K35, g36, r34, ((((at9 + 1) + 1) + r50) + 1), (nd + 1))), rfl, ⟨rfl, hz61, hz62, hz63, hz64, hO⟩, by rw [ht99]; exact hP, hD, by rw [ht99]; exact hzz1, by rw [ht99]; exact hzz2⟩, hS.F ht99⟩) hS.2.2 dX8_declaration_124
          · have n65 : ¬ (r50 = 0) := fun h9 => c53 ((nI_eq (a := r50) (b := 0) (by omega) (by omega)).mpr h9)
            refine lv_aload_n hx hb dX8_declaration_111 rfl (lv_at hl 2 rfl) ?_
            refine lv_aload_n hx hb dX8_declaration_112 rfl (lv_at hl 0 rfl) ?_
            have hO : OKP G h0 a (upd (upd (upd (upd (upd F 2 (nI sz)) 9 (nI at9)) 9 (nI (((at9 + 1) + 1) + r50))) 2 (nI sz)) 9 (nI (((at9 + 1) + 1) + r50))) (updR (updR R 1 (.ref pq)) 1 (.ref pq)) Z B J K35 w := hO.to rfl
            obtain ⟨_, qr69, hqr70⟩ := hO.2.1 23 _ (sg_23 G h0 a _ _ _ _ _)
            refine pn_V0 (G := G) (As := [.ref r34]) (rest := []) hx hb hml hown hq hE hX pX0_al hP hD hS hA hl.1 (P_listI l G h0 a (upd (upd (upd F 2 (nI sz)) 9 (nI at9)) 9 (nI (((at9 + 1) + 1) + r50))) (updR R 1 (.ref pq)) Z B J K35 w pq dr ml (nd + 1) nm cp it s9 r34 (((at9 + 1) + 1) + r50) sz g36 (by omega) (by omega) h37 h38 h39 h40 hO hl0) (gV pw_815 pw_816 pw_817 pw_796 pw_800) hV_X8_listInterfaces qr69 5 hqr70 rfl rfl rfl (Nat.le_of_ble_eq_true rfl) dX8_declaration_113 ⟨(by show 5 + 1 ≤ 6; omega), (by show 25 + 6 ≤ 31; omega)⟩ ⟨Nat.le_of_ble_eq_true rfl, Nat.le_of_ble_eq_true rfl⟩ (fun v68 u66 H locs hw67 hP hD hS => ?_) (fun ux ce9 q9 H9 locs9 hux hP9 hD9 hS9 hce hcv hcl => pb_out ux (ThQ.up (Thx.same (Thx.same (Thx.f Thx.rfl (by omega)) rfl) rfl) (show RhX (updR R 1 (.ref pq)) (updR (updR R 1 (.ref pq)) 1 (.ref pq)) from fun k9 hk9 => by unfold updR; simp only [show ¬ k9 = 1 by omega, show ¬ k9 = 2 by omega, show ¬ k9 = 3 by omega, show ¬ k9 = 4 by omega, if_false]) hux) hnt hlocks hce hcv hcl hP9 hD9 hS9 (by show 5 + 1 ≤ 6; omega) (by show 25 + 6 ≤ 31; omega))
            obtain ⟨w, K71, g72, at73⟩ := u66
            obtain ⟨hw67, h74, h75, h76, h77, hO⟩ := hw67
            have h74 : WPr G K71 g72 := h74
            have h75 : PgS G K71 g72 (a 1) pq dr ml (nd + 1) nm cp it s9 := h75
            have h76 : K71.1 r34 = 4 := h76
            have h77 : (((at9 + 1) + 1) + r50) + 1 ≤ at73 ∧ at73 ≤ sz := h77
            obtain rfl : v68 = none := hw67
            have hO : OKP G h0 a (upd (upd F 2 (nI sz)) 9 (nI at73)) (updR R 1 (.ref pq)) Z B J K71 w := hO.to rfl
            refine W.widen (k := 5) (n := 25) (by show 5 + 0 ≤ 5; omega) (by show 25 + 0 ≤ 25; omega) ?_
            refine W.eq (g2 := F0 m 116 ls []) rfl ?_
            refine lv_aload_n hx hb dX8_declaration_116 rfl (lv_at hl 2 rfl) ?_
            refine lv_bipush (v := 32) hx hb dX8_declaration_117 (by decide) ?_
            have hO : OKW G h0 a (upd (upd (upd (upd (upd F 2 (nI sz)) 9 (nI at9)) 9 (nI at73)) 2 (nI sz)) 9 (nI at73)) (updR R 1 (.ref pq)) Z B J K71.1 (fun q99 x99 => x99 = rep G a K71 q99) w := hO.to rfl
            obtain ⟨_, qr81, hqr82⟩ := hO.2.1 23 _ (sg_23 G h0 a _ _ _ _ _)
            refine pn_V0 (G := G) (As := [.int 32]) (rest := []) hx hb hml hown hq hE hX pX0_al hP hD hS hA hl.1 (P_take l G h0 a (upd (upd (upd F 2 (nI sz)) 9 (nI at9)) 9 (nI at73)) (updR R 1 (.ref pq)) Z B J K71.1 (fun q99 x99 => x99 = rep G a K71 q99) w 32 at73 sz (by omega) (by omega) (by decide) hO hl0) (gV pw_793 pw_794 pw_795 pw_796 pw_781) hV_X8_take qr81 5 hqr82 rfl rfl rfl (Nat.le_of_ble_eq_true rfl) dX8_declaration_119 ⟨(by show 5 + 1 ≤ 6; omega), (by show 25 + 6 ≤ 31; omega)⟩ ⟨Nat.le_of_ble_eq_true rfl, Nat.le_of_ble_eq_true rfl⟩ (fun v80 u78 H locs hw79 hP hD hS => ?_) (fun ux ce9 q9 H9 locs9 hux hP9 hD9 hS9 hce hcv hcl => pb_out ux (ThQ.up (Thx.same (Thx.same (Thx.f Thx.rfl (by omega)) rfl) rfl) RhX.rfl hux) hnt hlocks hce hcv hcl hP9 hD9 hS9 (by show 5 + 1 ≤ 6; omega) (by show 25 + 6 ≤ 31; omega))
            obtain ⟨w, _⟩ := u78
            obtain ⟨hw79, h83, hO⟩ := hw79
            have h83 : at73 + 1 ≤ sz := h83
            obtain rfl : v80 = some (.int (nI at73)) := hw79
            have hO : OKP G h0 a (upd (upd F 2 (nI sz)) 9 (nI (at73 + 1))) (updR R 1 (.ref pq)) Z B J K71 w := hO.to rfl
            refine W.widen (k := 5) (n := 25) (by show 5 + 0 ≤ 5; omega) (by show 25 + 0 ≤ 25; omega) ?_
            refine W.eq (g2 := F0 m 122 ls [.int (nI at73)]) rfl ?_
            refine lv_pop hx hb dX8_declaration_122 rfl ?_
            refine lv_aload_n hx hb dX8_declaration_123 rfl (lv_at hl 0 rfl) ?_
            refine W_size (fun hz1 hz2 => ?_)
            refine vx_ret ?_
            have hz84 : WPr G K71 g72 := h74
            have hz85 : PgS G K71 g72 (a 1) pq dr ml (nd + 1) nm cp it s9 := h75
            have hz86 : K71.1 r34 = 4 := h76
            have hz87 : at9 + 3 ≤ (at73 + 1) ∧ (at73 + 1) ≤ sz := (by omega)
            have hO : OKP G h0 a (upd (upd F 2 (nI sz)) 9 (nI (at73 + 1))) (updR R 1 (.ref pq)) Z B J K71 w := hO.to rfl
            refine W.widen (k := 6) (n := 31) (by omega) (by omega) ?_
            have hzz1 : H.size ≤ s.heap.size + (5) := (by have z : 5 ≤ 5 := (by omega); omega)
            have hzz2 : hSl H ≤ hSl s.heap + (25) := (by have z : 25 ≤ 25 := (by omega); omega)
            exact W.aret (v := .ref r34) hx hb hr (Or.inl ⟨_, rfl⟩) (Or.inr ⟨_, rfl⟩) (fun t99 ht99 hW99 => ⟨⟨_, (w, (K71, g72, r34, (at73 + 1), (nd + 1))), rfl, ⟨rfl, hz84, hz85, hz86, hz87, hO⟩, by rw [ht99]; exact hP, hD, by rw [ht99]; exact hzz1, by rw [ht99]; exact hzz2⟩, hS.F ht99⟩) hS.2.2 dX8_declaration_124
        · have n88 : ¬ (r6 = 0) := fun h9 => c43 ((nI_eq (a := r6) (b := 0) (by omega) (by omega)).mpr h9)
          refine lv_bipush (v := 7) hx hb dX8_declaration_98 (by decide) ?_
          refine lv_goto (tgt := 105) hx hb dX8_declaration_100 (by decide) ?_
          have hO : OKW G h0 a (upd (upd (upd (upd F 2 (nI sz)) 9 (nI ((at9 + 1) + 1))) 2 (nI sz)) 9 (nI ((at9 + 1) + 1))) (updR R 1 (.ref pq)) Z B J K35.1 (fun q99 x99 => x99 = rep G a K35 q99) w := hO.to rfl
          obtain ⟨_, qr92, hqr93⟩ := hO.2.1 23 _ (sg_23 G h0 a _ _ _ _ _)
          refine pc_V0 (G := G) (As := [.int 7]) (rest := []) hx hb hml hown hq hE hX pX0_al hP hD hS hA hl.1 (P_takeIf l G h0 a (upd (upd F 2 (nI sz)) 9 (nI ((at9 + 1) + 1))) (updR R 1 (.ref pq)) Z B J K35.1 (fun q99 x99 => x99 = rep G a K35 q99) w 7 ((at9 + 1) + 1) sz (by omega) (by omega) (by decide) hO) (gV pw_797 pw_798 pw_799 pw_796 pw_789) hV_X8_takeIf qr92 5 hqr93 rfl rfl rfl (Nat.le_of_ble_eq_true rfl) dX8_declaration_105 ⟨(by show 5 + 0 ≤ 6; omega), (by show 25 + 0 ≤ 31; omega)⟩ ⟨Nat.le_of_ble_eq_true rfl, Nat.le_of_ble_eq_true rfl⟩ (fun v91 u89 H locs hw90 hP hD hS => ?_)
          obtain ⟨w, r94⟩ := u89
          obtain ⟨hw90, h95, h96, hO⟩ := hw90
          have h95 : r94 ≤ 1 := h95
          have h96 : ((at9 + 1) + 1) + r94 ≤ sz := h96
          obtain rfl : v91 = some (.int (nI r94)) := hw90
          have hO : OKP G h0 a (upd (upd F 2 (nI sz)) 9 (nI (((at9 + 1) + 1) + r94))) (updR R 1 (.ref pq)) Z B J K35 w := hO.to rfl
          refine W.widen (k := 5) (n := 25) (by show 5 + 0 ≤ 5; omega) (by show 25 + 0 ≤ 25; omega) ?_
          refine W.eq (g2 := F0 m 108 ls [.int (nI r94)]) rfl ?_
          refine lv_if_eq (tgt := 116) hx hb dX8_declaration_108 (by decide) (fun c97 => ?_) (fun c97 => ?_)
          · have n98 : r94 = 0 := (nI_eq (a := r94) (b := 0) (by omega) (by omega)).mp c97
            refine lv_aload_n hx hb dX8_declaration_116 rfl (lv_at hl 2 rfl) ?_
            refine lv_bipush (v := 32) hx hb dX8_declaration_117 (by decide) ?_
            have hO : OKW G h0 a (upd (upd (upd (upd (upd F 2 (nI sz)) 9 (nI at9)) 9 (nI (((at9 + 1) + 1) + r94))) 2 (nI sz)) 9 (nI (((at9 + 1) + 1) + r94))) (updR R 1 (.ref pq)) Z B J K35.1 (fun q99 x99 => x99 = rep G a K35 q99) w := hO.to rfl
            obtain ⟨_, qr102, hqr103⟩ := hO.2.1 23 _ (sg_23 G h0 a _ _ _ _ _)
            refine pn_V0 (G := G) (As := [.int 32]) (rest := []) hx hb hml hown hq hE hX pX0_al hP hD hS hA hl.1 (P_take l G h0 a (upd (upd (upd F 2 (nI sz)) 9 (nI at9)) 9 (nI (((at9 + 1) + 1) + r94))) (updR R 1 (.ref pq)) Z B J K35.1 (fun q99 x99 => x99 = rep G a K35 q99) w 32 (((at9 + 1) + 1) + r94) sz (by omega) (by omega) (by decide) hO hl0) (gV pw_793 pw_794 pw_795 pw_796 pw_781) hV_X8_take qr102 5 hqr103 rfl rfl rfl (Nat.le_of_ble_eq_true rfl) dX8_declaration_119 ⟨(by show 5 + 1 ≤ 6; omega), (by show 25 + 6 ≤ 31; omega)⟩ ⟨Nat.le_of_ble_eq_true rfl, Nat.le_of_ble_eq_true rfl⟩ (fun v101 u99 H locs hw100 hP hD hS => ?_) (fun ux ce9 q9 H9 locs9 hux hP9 hD9 hS9 hce hcv hcl => pb_out ux (ThQ.up (Thx.same (Thx.same (Thx.f Thx.rfl (by omega)) rfl) rfl) RhX.rfl hux) hnt hlocks hce hcv hcl hP9 hD9 hS9 (by show 5 + 1 ≤ 6; omega) (by show 25 + 6 ≤ 31; omega))
            obtain ⟨w, _⟩ := u99
            obtain ⟨hw100, h104, hO⟩ := hw100
            have h104 : (((at9 + 1) + 1) + r94) + 1 ≤ sz := h104
            obtain rfl : v101 = some (.int (nI (((at9 + 1) + 1) + r94))) := hw100
            have hO : OKP G h0 a (upd (upd F 2 (nI sz)) 9 (nI ((((at9 + 1) + 1) + r94) + 1))) (updR R 1 (.ref pq)) Z B J K35 w := hO.to rfl
            refine W.widen (k := 5) (n := 25) (by show 5 + 0 ≤ 5; omega) (by show 25 + 0 ≤ 25; omega) ?_
            refine W.eq (g2 := F0 m 122 ls [.int (nI (((at9 + 1) + 1) + r94))]) rfl ?_
            refine lv_pop hx hb dX8_declaration_122 rfl ?_
            refine lv_aload_n hx hb dX8_declaration_123 rfl (lv_at hl 0 rfl) ?_
            refine W_size (fun hz1 hz2 => ?_)
            refine vx_ret ?_
            have hz105 : WPr G K35 g36 := h37
            have hz106 : PgS G K35 g36 (a 1) pq dr ml (nd + 1) nm cp it s9 := h38
            have hz107 : K35.1 r34 = 4 := h39
            have hz108 : at9 + 3 ≤ ((((at9 + 1) + 1) + r94) + 1) ∧ ((((at9 + 1) + 1) + r94) + 1) ≤ sz := (by omega)
            have hO : OKP G h0 a (upd (upd F 2 (nI sz)) 9 (nI ((((at9 + 1) + 1) + r94) + 1))) (updR R 1 (.ref pq)) Z B J K35 w := hO.to rfl
            refine W.widen (k := 6) (n := 31) (by omega) (by omega) ?_
            have hzz1 : H.size ≤ s.heap.size + (5) := (by have z : 5 ≤ 5 := (by omega); omega)
            have hzz2 : hSl H ≤ hSl s.heap + (25) := (by have z : 25 ≤ 25 := (by omega); omega)
            exact W.aret (v := .ref r34) hx hb hr (Or.inl ⟨_, rfl⟩) (Or.inr ⟨_, rfl⟩) (fun t99 ht99 hW99 => ⟨⟨_, (w, (K35, g36, r34, ((((at9 + 1) + 1) + r94) + 1), (nd + 1))), rfl, ⟨rfl, hz105, hz106, hz107, hz108, hO⟩, by rw [ht99]; exact hP, hD, by rw [ht99]; exact hzz1, by rw [ht99]; exact hzz2⟩, hS.F ht99⟩) hS.2.2 dX8_declaration_124
          · have n109 : ¬ (r94 = 0) := fun h9 => c97 ((nI_eq (a := r94) (b := 0) (by omega) (by omega)).mpr h9)
            refine lv_aload_n hx hb dX8_declaration_111 rfl (lv_at hl 2 rfl) ?_
            refine lv_aload_n hx hb dX8_declaration_112 rfl (lv_at hl 0 rfl) ?_
            have hO : OKP G h0 a (upd (upd (upd (upd (upd F 2 (nI sz)) 9 (nI at9)) 9 (nI (((at9 + 1) + 1) + r94))) 2 (nI sz)) 9 (nI (((at9 + 1) + 1) + r94))) (updR (updR R 1 (.ref pq)) 1 (.ref pq)) Z B J K35 w := hO.to rfl
            obtain ⟨_, qr113, hqr114⟩ := hO.2.1 23 _ (sg_23 G h0 a _ _ _ _ _)
            refine pn_V0 (G := G) (As := [.ref r34]) (rest := []) hx hb hml hown hq hE hX pX0_al hP hD hS hA hl.1 (P_listI l G h0 a (upd (upd (upd F 2 (nI sz)) 9 (nI at9)) 9 (nI (((at9 + 1) + 1) + r94))) (updR R 1 (.ref pq)) Z B J K35 w pq dr ml (nd + 1) nm cp it s9 r34 (((at9 + 1) + 1) + r94) sz g36 (by omega) (by omega) h37 h38 h39 h40 hO hl0) (gV pw_815 pw_816 pw_817 pw_796 pw_800) hV_X8_listInterfaces qr113 5 hqr114 rfl rfl rfl (Nat.le_of_ble_eq_true rfl) dX8_declaration_113 ⟨(by show 5 + 1 ≤ 6; omega), (by show 25 + 6 ≤ 31; omega)⟩ ⟨Nat.le_of_ble_eq_true rfl, Nat.le_of_ble_eq_true rfl⟩ (fun v112 u110 H locs hw111 hP hD hS => ?_) (fun ux ce9 q9 H9 locs9 hux hP9 hD9 hS9 hce hcv hcl => pb_out ux (ThQ.up (Thx.same (Thx.same (Thx.f Thx.rfl (by omega)) rfl) rfl) (show RhX (updR R 1 (.ref pq)) (updR (updR R 1 (.ref pq)) 1 (.ref pq)) from fun k9 hk9 => by unfold updR; simp only [show ¬ k9 = 1 by omega, show ¬ k9 = 2 by omega, show ¬ k9 = 3 by omega, show ¬ k9 = 4 by omega, if_false]) hux) hnt hlocks hce hcv hcl hP9 hD9 hS9 (by show 5 + 1 ≤ 6; omega) (by show 25 + 6 ≤ 31; omega))
            obtain ⟨w, K115, g116, at117⟩ := u110
            obtain ⟨hw111, h118, h119, h120, h121, hO⟩ := hw111
            have h118 : WPr G K115 g116 := h118
            have h119 : PgS G K115 g116 (a 1) pq dr ml (nd + 1) nm cp it s9 := h119
            have h120 : K115.1 r34 = 4 := h120
            have h121 : (((at9 + 1) + 1) + r94) + 1 ≤ at117 ∧ at117 ≤ sz := h121
            obtain rfl : v112 = none := hw111
            have hO : OKP G h0 a (upd (upd F 2 (nI sz)) 9 (nI at117)) (updR R 1 (.ref pq)) Z B J K115 w := hO.to rfl
            refine W.widen (k := 5) (n := 25) (by show 5 + 0 ≤ 5; omega) (by show 25 + 0 ≤ 25; omega) ?_
            refine W.eq (g2 := F0 m 116 ls []) rfl ?_
            refine lv_aload_n hx hb dX8_declaration_116 rfl (lv_at hl 2 rfl) ?_
            refine lv_bipush (v := 32) hx hb dX8_declaration_117 (by decide) ?_
            have hO : OKW G h0 a (upd (upd (upd (upd (upd F 2 (nI sz)) 9 (nI at9)) 9 (nI at117)) 2 (nI sz)) 9 (nI at117)) (updR R 1 (.ref pq)) Z B J K115.1 (fun q99 x99 => x99 = rep G a K115 q99) w := hO.to rfl
            obtain ⟨_, qr125, hqr126⟩ := hO.2.1 23 _ (sg_23 G h0 a _ _ _ _ _)
            refine pn_V0 (G := G) (As := [.int 32]) (rest := []) hx hb hml hown hq hE hX pX0_al hP hD hS hA hl.1 (P_take l G h0 a (upd (upd (upd F 2 (nI sz)) 9 (nI at9)) 9 (nI at117)) (updR R 1 (.ref pq)) Z B J K115.1 (fun q99 x99 => x99 = rep G a K115 q99) w 32 at117 sz (by omega) (by omega) (by decide) hO hl0) (gV pw_793 pw_794 pw_795 pw_796 pw_781) hV_X8_take qr125 5 hqr126 rfl rfl rfl (Nat.le_of_ble_eq_true rfl) dX8_declaration_119 ⟨(by show 5 + 1 ≤ 6; omega), (by show 25 + 6 ≤ 31; omega)⟩ ⟨Nat.le_of_ble_eq_true rfl, Nat.le_of_ble_eq_true rfl⟩ (fun v124 u122 H locs hw123 hP hD hS => ?_) (fun ux ce9 q9 H9 locs9 hux hP9 hD9 hS9 hce hcv hcl => pb_out ux (ThQ.up (Thx.same (Thx.same (Thx.f Thx.rfl (by omega)) rfl) rfl) RhX.rfl hux) hnt hlocks hce hcv hcl hP9 hD9 hS9 (by show 5 + 1 ≤ 6; omega) (by show 25 + 6 ≤ 31; omega))
            obtain ⟨w, _⟩ := u122
            obtain ⟨hw123, h127, hO⟩ := hw123
            have h127 : at117 + 1 ≤ sz := h127
            obtain rfl : v124 = some (.int (nI at117)) := hw123
            have hO : OKP G h0 a (upd (upd F 2 (nI sz)) 9 (nI (at117 + 1))) (updR R 1 (.ref pq)) Z B J K115 w := hO.to rfl
            refine W.widen (k := 5) (n := 25) (by show 5 + 0 ≤ 5; omega) (by show 25 + 0 ≤ 25; omega) ?_
            refine W.eq (g2 := F0 m 122 ls [.int (nI at117)]) rfl ?_
            refine lv_pop hx hb dX8_declaration_122 rfl ?_
            refine lv_aload_n hx hb dX8_declaration_123 rfl (lv_at hl 0 rfl) ?_
            refine W_size (fun hz1 hz2 => ?_)
            refine vx_ret ?_
            have hz128 : WPr G K115 g116 := h118
            have hz129 : PgS G K115 g116 (a 1) pq dr ml (nd + 1) nm cp it s9 := h119
            have hz130 : K115.1 r34 = 4 := h120
            have hz131 : at9 + 3 ≤ (at117 + 1) ∧ (at117 + 1) ≤ sz := (by omega)
            have hO : OKP G h0 a (upd (upd F 2 (nI sz)) 9 (nI (at117 + 1))) (updR R 1 (.ref pq)) Z B J K115 w := hO.to rfl
            refine W.widen (k := 6) (n := 31) (by omega) (by omega) ?_
            have hzz1 : H.size ≤ s.heap.size + (5) := (by have z : 5 ≤ 5 := (by omega); omega)
            have hzz2 : hSl H ≤ hSl s.heap + (25) := (by have z : 25 ≤ 25 := (by omega); omega)
            exact W.aret (v := .ref r34) hx hb hr (Or.inl ⟨_, rfl⟩) (Or.inr ⟨_, rfl⟩) (fun t99 ht99 hW99 => ⟨⟨_, (w, (K115, g116, r34, (at117 + 1), (nd + 1))), rfl, ⟨rfl, hz128, hz129, hz130, hz131, hO⟩, by rw [ht99]; exact hP, hD, by rw [ht99]; exact hzz1, by rw [ht99]; exact hzz2⟩, hS.F ht99⟩) hS.2.2 dX8_declaration_124
      · have n132 : r6 = 0 := (nI_eq (a := r6) (b := 0) (by omega) (by omega)).mp c41
        refine lv_aload_n hx hb dX8_declaration_74 rfl (lv_at hl 2 rfl) ?_
        refine lv_bipush (v := 7) hx hb dX8_declaration_75 (by decide) ?_
        have hO : OKW G h0 a (upd (upd (upd (upd F 2 (nI sz)) 9 (nI ((at9 + 1) + 1))) 2 (nI sz)) 9 (nI ((at9 + 1) + 1))) (updR R 1 (.ref pq)) Z B J K35.1 (fun q99 x99 => x99 = rep G a K35 q99) w := hO.to rfl
        obtain ⟨_, qr136, hqr137⟩ := hO.2.1 23 _ (sg_23 G h0 a _ _ _ _ _)
        refine pc_V0 (G := G) (As := [.int 7]) (rest := []) hx hb hml hown hq hE hX pX0_al hP hD hS hA hl.1 (P_takeIf l G h0 a (upd (upd F 2 (nI sz)) 9 (nI ((at9 + 1) + 1))) (updR R 1 (.ref pq)) Z B J K35.1 (fun q99 x99 => x99 = rep G a K35 q99) w 7 ((at9 + 1) + 1) sz (by omega) (by omega) (by decide) hO) (gV pw_797 pw_798 pw_799 pw_796 pw_789) hV_X8_takeIf qr136 5 hqr137 rfl rfl rfl (Nat.le_of_ble_eq_true rfl) dX8_declaration_77 ⟨(by show 5 + 0 ≤ 6; omega), (by show 25 + 0 ≤ 31; omega)⟩ ⟨Nat.le_of_ble_eq_true rfl, Nat.le_of_ble_eq_true rfl⟩ (fun v135 u133 H locs hw134 hP hD hS => ?_)
        obtain ⟨w, r138⟩ := u133
        obtain ⟨hw134, h139, h140, hO⟩ := hw134
        have h139 : r138 ≤ 1 := h139
        have h140 : ((at9 + 1) + 1) + r138 ≤ sz := h140
        obtain rfl : v135 = some (.int (nI r138)) := hw134
        have hO : OKP G h0 a (upd (upd F 2 (nI sz)) 9 (nI (((at9 + 1) + 1) + r138))) (updR R 1 (.ref pq)) Z B J K35 w := hO.to rfl
        refine W.widen (k := 5) (n := 25) (by show 5 + 0 ≤ 5; omega) (by show 25 + 0 ≤ 25; omega) ?_
        refine W.eq (g2 := F0 m 80 ls [.int (nI r138)]) rfl ?_
        refine lv_if_eq (tgt := 93) hx hb dX8_declaration_80 (by decide) (fun c141 => ?_) (fun c141 => ?_)
        · have n142 : r138 = 0 := (nI_eq (a := r138) (b := 0) (by omega) (by omega)).mp c141
          refine lv_aload_n hx hb dX8_declaration_93 rfl (lv_at hl 2 rfl) ?_
          refine lv_iload_n hx hb dX8_declaration_94 rfl (lv_at hl 1 rfl) ?_
          refine lv_if_eq (tgt := 103) hx hb dX8_declaration_95 (by decide) (fun c143 => ?_) (fun c143 => ?_)
          · have n144 : r6 = 0 := (nI_eq (a := r6) (b := 0) (by omega) (by omega)).mp c143
            refine lv_bipush (v := 12) hx hb dX8_declaration_103 (by decide) ?_
            have hO : OKW G h0 a (upd (upd (upd (upd F 2 (nI sz)) 9 (nI (((at9 + 1) + 1) + r138))) 2 (nI sz)) 9 (nI (((at9 + 1) + 1) + r138))) (updR R 1 (.ref pq)) Z B J K35.1 (fun q99 x99 => x99 = rep G a K35 q99) w := hO.to rfl
            obtain ⟨_, qr148, hqr149⟩ := hO.2.1 23 _ (sg_23 G h0 a _ _ _ _ _)
            refine pc_V0 (G := G) (As := [.int 12]) (rest := []) hx hb hml hown hq hE hX pX0_al hP hD hS hA hl.1 (P_takeIf l G h0 a (upd (upd F 2 (nI sz)) 9 (nI (((at9 + 1) + 1) + r138))) (updR R 1 (.ref pq)) Z B J K35.1 (fun q99 x99 => x99 = rep G a K35 q99) w 12 (((at9 + 1) + 1) + r138) sz (by omega) (by omega) (by decide) hO) (gV pw_797 pw_798 pw_799 pw_796 pw_789) hV_X8_takeIf qr148 5 hqr149 rfl rfl rfl (Nat.le_of_ble_eq_true rfl) dX8_declaration_105 ⟨(by show 5 + 0 ≤ 6; omega), (by show 25 + 0 ≤ 31; omega)⟩ ⟨Nat.le_of_ble_eq_true rfl, Nat.le_of_ble_eq_true rfl⟩ (fun v147 u145 H locs hw146 hP hD hS => ?_)
            obtain ⟨w, r150⟩ := u145
            obtain ⟨hw146, h151, h152, hO⟩ := hw146
            have h151 : r150 ≤ 1 := h151
            have h152 : (((at9 + 1) + 1) + r138) + r150 ≤ sz := h152
            obtain rfl : v147 = some (.int (nI r150)) := hw146
            have hO : OKP G h0 a (upd (upd F 2 (nI sz)) 9 (nI ((((at9 + 1) + 1) + r138) + r150))) (updR R 1 (.ref pq)) Z B J K35 w := hO.to rfl
            refine W.widen (k := 5) (n := 25) (by show 5 + 0 ≤ 5; omega) (by show 25 + 0 ≤ 25; omega) ?_
            refine W.eq (g2 := F0 m 108 ls [.int (nI r150)]) rfl ?_
            refine lv_if_eq (tgt := 116) hx hb dX8_declaration_108 (by decide) (fun c153 => ?_) (fun c153 => ?_)
            · have n154 : r150 = 0 := (nI_eq (a := r150) (b := 0) (by omega) (by omega)).mp c153
              refine lv_aload_n hx hb dX8_declaration_116 rfl (lv_at hl 2 rfl) ?_
              refine lv_bipush (v := 32) hx hb dX8_declaration_117 (by decide) ?_
              have hO : OKW G h0 a (upd (upd (upd (upd (upd F 2 (nI sz)) 9 (nI at9)) 9 (nI ((((at9 + 1) + 1) + r138) + r150))) 2 (nI sz)) 9 (nI ((((at9 + 1) + 1) + r138) + r150))) (updR R 1 (.ref pq)) Z B J K35.1 (fun q99 x99 => x99 = rep G a K35 q99) w := hO.to rfl
              obtain ⟨_, qr158, hqr159⟩ := hO.2.1 23 _ (sg_23 G h0 a _ _ _ _ _)
              refine pn_V0 (G := G) (As := [.int 32]) (rest := []) hx hb hml hown hq hE hX pX0_al hP hD hS hA hl.1 (P_take l G h0 a (upd (upd (upd F 2 (nI sz)) 9 (nI at9)) 9 (nI ((((at9 + 1) + 1) + r138) + r150))) (updR R 1 (.ref pq)) Z B J K35.1 (fun q99 x99 => x99 = rep G a K35 q99) w 32 ((((at9 + 1) + 1) + r138) + r150) sz (by omega) (by omega) (by decide) hO hl0) (gV pw_793 pw_794 pw_795 pw_796 pw_781) hV_X8_take qr158 5 hqr159 rfl rfl rfl (Nat.le_of_ble_eq_true rfl) dX8_declaration_119 ⟨(by show 5 + 1 ≤ 6; omega), (by show 25 + 6 ≤ 31; omega)⟩ ⟨Nat.le_of_ble_eq_true rfl, Nat.le_of_ble_eq_true rfl⟩ (fun v157 u155 H locs hw156 hP hD hS => ?_) (fun ux ce9 q9 H9 locs9 hux hP9 hD9 hS9 hce hcv hcl => pb_out ux (ThQ.up (Thx.same (Thx.same (Thx.f Thx.rfl (by omega)) rfl) rfl) RhX.rfl hux) hnt hlocks hce hcv hcl hP9 hD9 hS9 (by show 5 + 1 ≤ 6; omega) (by show 25 + 6 ≤ 31; omega))
              obtain ⟨w, _⟩ := u155
              obtain ⟨hw156, h160, hO⟩ := hw156
              have h160 : ((((at9 + 1) + 1) + r138) + r150) + 1 ≤ sz := h160
              obtain rfl : v157 = some (.int (nI ((((at9 + 1) + 1) + r138) + r150))) := hw156
              have hO : OKP G h0 a (upd (upd F 2 (nI sz)) 9 (nI (((((at9 + 1) + 1) + r138) + r150) + 1))) (updR R 1 (.ref pq)) Z B J K35 w := hO.to rfl
              refine W.widen (k := 5) (n := 25) (by show 5 + 0 ≤ 5; omega) (by show 25 + 0 ≤ 25; omega) ?_
              refine W.eq (g2 := F0 m 122 ls [.int (nI ((((at9 + 1) + 1) + r138) + r150))]) rfl ?_
              refine lv_pop hx hb dX8_declaration_122 rfl ?_
              refine lv_aload_n hx hb dX8_declaration_123 rfl (lv_at hl 0 rfl) ?_
              refine W_size (fun hz1 hz2 => ?_)
              refine vx_ret ?_
              have hz161 : WPr G K35 g36 := h37
              have hz162 : PgS G K35 g36 (a 1) pq dr ml (nd + 1) nm cp it s9 := h38
              have hz163 : K35.1 r34 = 4 := h39
              have hz164 : at9 + 3 ≤ (((((at9 + 1) + 1) + r138) + r150) + 1) ∧ (((((at9 + 1) + 1) + r138) + r150) + 1) ≤ sz := (by omega)
              have hO : OKP G h0 a (upd (upd F 2 (nI sz)) 9 (nI (((((at9 + 1) + 1) + r138) + r150) + 1))) (updR R 1 (.ref pq)) Z B J K35 w := hO.to rfl
              refine W.widen (k := 6) (n := 31) (by omega) (by omega) ?_
              have hzz1 : H.size ≤ s.heap.size + (5) := (by have z : 5 ≤ 5 := (by omega); omega)
              have hzz2 : hSl H ≤ hSl s.heap + (25) := (by have z : 25 ≤ 25 := (by omega); omega)
              exact W.aret (v := .ref r34) hx hb hr (Or.inl ⟨_, rfl⟩) (Or.inr ⟨_, rfl⟩) (fun t99 ht99 hW99 => ⟨⟨_, (w, (K35, g36, r34, (((((at9 + 1) + 1) + r138) + r150) + 1), (nd + 1))), rfl, ⟨rfl, hz161, hz162, hz163, hz164, hO⟩, by rw [ht99]; exact hP, hD, by rw [ht99]; exact hzz1, by rw [ht99]; exact hzz2⟩, hS.F ht99⟩) hS.2.2 dX8_declaration_124
            · have n165 : ¬ (r150 = 0) := fun h9 => c153 ((nI_eq (a := r150) (b := 0) (by omega) (by omega)).mpr h9)
              refine lv_aload_n hx hb dX8_declaration_111 rfl (lv_at hl 2 rfl) ?_
              refine lv_aload_n hx hb dX8_declaration_112 rfl (lv_at hl 0 rfl) ?_
              have hO : OKP G h0 a (upd (upd (upd (upd (upd F 2 (nI sz)) 9 (nI at9)) 9 (nI ((((at9 + 1) + 1) + r138) + r150))) 2 (nI sz)) 9 (nI ((((at9 + 1) + 1) + r138) + r150))) (updR (updR R 1 (.ref pq)) 1 (.ref pq)) Z B J K35 w := hO.to rfl
              obtain ⟨_, qr169, hqr170⟩ := hO.2.1 23 _ (sg_23 G h0 a _ _ _ _ _)
              refine pn_V0 (G := G) (As := [.ref r34]) (rest := []) hx hb hml hown hq hE hX pX0_al hP hD hS hA hl.1 (P_listI l G h0 a (upd (upd (upd F 2 (nI sz)) 9 (nI at9)) 9 (nI ((((at9 + 1) + 1) + r138) + r150))) (updR R 1 (.ref pq)) Z B J K35 w pq dr ml (nd + 1) nm cp it s9 r34 ((((at9 + 1) + 1) + r138) + r150) sz g36 (by omega) (by omega) h37 h38 h39 h40 hO hl0) (gV pw_815 pw_816 pw_817 pw_796 pw_800) hV_X8_listInterfaces qr169 5 hqr170 rfl rfl rfl (Nat.le_of_ble_eq_true rfl) dX8_declaration_113 ⟨(by show 5 + 1 ≤ 6; omega), (by show 25 + 6 ≤ 31; omega)⟩ ⟨Nat.le_of_ble_eq_true rfl, Nat.le_of_ble_eq_true rfl⟩ (fun v168 u166 H locs hw167 hP hD hS => ?_) (fun ux ce9 q9 H9 locs9 hux hP9 hD9 hS9 hce hcv hcl => pb_out ux (ThQ.up (Thx.same (Thx.same (Thx.f Thx.rfl (by omega)) rfl) rfl) (show RhX (updR R 1 (.ref pq)) (updR (updR R 1 (.ref pq)) 1 (.ref pq)) from fun k9 hk9 => by unfold updR; simp only [show ¬ k9 = 1 by omega, show ¬ k9 = 2 by omega, show ¬ k9 = 3 by omega, show ¬ k9 = 4 by omega, if_false]) hux) hnt hlocks hce hcv hcl hP9 hD9 hS9 (by show 5 + 1 ≤ 6; omega) (by show 25 + 6 ≤ 31; omega))
              obtain ⟨w, K171, g172, at173⟩ := u166
              obtain ⟨hw167, h174, h175, h176, h177, hO⟩ := hw167
              have h174 : WPr G K171 g172 := h174
              have h175 : PgS G K171 g172 (a 1) pq dr ml (nd + 1) nm cp it s9 := h175
              have h176 : K171.1 r34 = 4 := h176
              have h177 : ((((at9 + 1) + 1) + r138) + r150) + 1 ≤ at173 ∧ at173 ≤ sz := h177
              obtain rfl : v168 = none := hw167
              have hO : OKP G h0 a (upd (upd F 2 (nI sz)) 9 (nI at173)) (updR R 1 (.ref pq)) Z B J K171 w := hO.to rfl
              refine W.widen (k := 5) (n := 25) (by show 5 + 0 ≤ 5; omega) (by show 25 + 0 ≤ 25; omega) ?_
              refine W.eq (g2 := F0 m 116 ls []) rfl ?_
              refine lv_aload_n hx hb dX8_declaration_116 rfl (lv_at hl 2 rfl) ?_
              refine lv_bipush (v := 32) hx hb dX8_declaration_117 (by decide) ?_
              have hO : OKW G h0 a (upd (upd (upd (upd (upd F 2 (nI sz)) 9 (nI at9)) 9 (nI at173)) 2 (nI sz)) 9 (nI at173)) (updR R 1 (.ref pq)) Z B J K171.1 (fun q99 x99 => x99 = rep G a K171 q99) w := hO.to rfl
              obtain ⟨_, qr181, hqr182⟩ := hO.2.1 23 _ (sg_23 G h0 a _ _ _ _ _)
              refine pn_V0 (G := G) (As := [.int 32]) (rest := []) hx hb hml hown hq hE hX pX0_al hP hD hS hA hl.1 (P_take l G h0 a (upd (upd (upd F 2 (nI sz)) 9 (nI at9)) 9 (nI at173)) (updR R 1 (.ref pq)) Z B J K171.1 (fun q99 x99 => x99 = rep G a K171 q99) w 32 at173 sz (by omega) (by omega) (by decide) hO hl0) (gV pw_793 pw_794 pw_795 pw_796 pw_781) hV_X8_take qr181 5 hqr182 rfl rfl rfl (Nat.le_of_ble_eq_true rfl) dX8_declaration_119 ⟨(by show 5 + 1 ≤ 6; omega), (by show 25 + 6 ≤ 31; omega)⟩ ⟨Nat.le_of_ble_eq_true rfl, Nat.le_of_ble_eq_true rfl⟩ (fun v180 u178 H locs hw179 hP hD hS => ?_) (fun ux ce9 q9 H9 locs9 hux hP9 hD9 hS9 hce hcv hcl => pb_out ux (ThQ.up (Thx.same (Thx.same (Thx.f Thx.rfl (by omega)) rfl) rfl) RhX.rfl hux) hnt hlocks hce hcv hcl hP9 hD9 hS9 (by show 5 + 1 ≤ 6; omega) (by show 25 + 6 ≤ 31; omega))
              obtain ⟨w, _⟩ := u178
              obtain ⟨hw179, h183, hO⟩ := hw179
              have h183 : at173 + 1 ≤ sz := h183
              obtain rfl : v180 = some (.int (nI at173)) := hw179
              have hO : OKP G h0 a (upd (upd F 2 (nI sz)) 9 (nI (at173 + 1))) (updR R 1 (.ref pq)) Z B J K171 w := hO.to rfl
              refine W.widen (k := 5) (n := 25) (by show 5 + 0 ≤ 5; omega) (by show 25 + 0 ≤ 25; omega) ?_
              refine W.eq (g2 := F0 m 122 ls [.int (nI at173)]) rfl ?_
              refine lv_pop hx hb dX8_declaration_122 rfl ?_
              refine lv_aload_n hx hb dX8_declaration_123 rfl (lv_at hl 0 rfl) ?_
              refine W_size (fun hz1 hz2 => ?_)
              refine vx_ret ?_
              have hz184 : WPr G K171 g172 := h174
              have hz185 : PgS G K171 g172 (a 1) pq dr ml (nd + 1) nm cp it s9 := h175
              have hz186 : K171.1 r34 = 4 := h176
              have hz187 : at9 + 3 ≤ (at173 + 1) ∧ (at173 + 1) ≤ sz := (by omega)
              have hO : OKP G h0 a (upd (upd F 2 (nI sz)) 9 (nI (at173 + 1))) (updR R 1 (.ref pq)) Z B J K171 w := hO.to rfl
              refine W.widen (k := 6) (n := 31) (by omega) (by omega) ?_
              have hzz1 : H.size ≤ s.heap.size + (5) := (by have z : 5 ≤ 5 := (by omega); omega)
              have hzz2 : hSl H ≤ hSl s.heap + (25) := (by have z : 25 ≤ 25 := (by omega); omega)
              exact W.aret (v := .ref r34) hx hb hr (Or.inl ⟨_, rfl⟩) (Or.inr ⟨_, rfl⟩) (fun t99 ht99 hW99 => ⟨⟨_, (w, (K171, g172, r34, (at173 + 1), (nd + 1))), rfl, ⟨rfl, hz184, hz185, hz186, hz187, hO⟩, by rw [ht99]; exact hP, hD, by rw [ht99]; exact hzz1, by rw [ht99]; exact hzz2⟩, hS.F ht99⟩) hS.2.2 dX8_declaration_124
          · have n188 : ¬ (r6 = 0) := fun h9 => c143 ((nI_eq (a := r6) (b := 0) (by omega) (by omega)).mpr h9)
            refine lv_bipush (v := 7) hx hb dX8_declaration_98 (by decide) ?_
            refine lv_goto (tgt := 105) hx hb dX8_declaration_100 (by decide) ?_
            have hO : OKW G h0 a (upd (upd (upd (upd F 2 (nI sz)) 9 (nI (((at9 + 1) + 1) + r138))) 2 (nI sz)) 9 (nI (((at9 + 1) + 1) + r138))) (updR R 1 (.ref pq)) Z B J K35.1 (fun q99 x99 => x99 = rep G a K35 q99) w := hO.to rfl
            obtain ⟨_, qr192, hqr193⟩ := hO.2.1 23 _ (sg_23 G h0 a _ _ _ _ _)
            refine pc_V0 (G := G) (As := [.int 7]) (rest := []) hx hb hml hown hq hE hX pX0_al hP hD hS hA hl.1 (P_takeIf l G h0 a (upd (upd F 2 (nI sz)) 9 (nI (((at9 + 1) + 1) + r138))) (updR R 1 (.ref pq)) Z B J K35.1 (fun q99 x99 => x99 = rep G a K35 q99) w 7 (((at9 + 1) + 1) + r138) sz (by omega) (by omega) (by decide) hO) (gV pw_797 pw_798 pw_799 pw_796 pw_789) hV_X8_takeIf qr192 5 hqr193 rfl rfl rfl (Nat.le_of_ble_eq_true rfl) dX8_declaration_105 ⟨(by show 5 + 0 ≤ 6; omega), (by show 25 + 0 ≤ 31; omega)⟩ ⟨Nat.le_of_ble_eq_true rfl, Nat.le_of_ble_eq_true rfl⟩ (fun v191 u189 H locs hw190 hP hD hS => ?_)
            obtain ⟨w, r194⟩ := u189
            obtain ⟨hw190, h195, h196, hO⟩ := hw190
            have h195 : r194 ≤ 1 := h195
            have h196 : (((at9 + 1) + 1) + r138) + r194 ≤ sz := h196
            obtain rfl : v191 = some (.int (nI r194)) := hw190
            have hO : OKP G h0 a (upd (upd F 2 (nI sz)) 9 (nI ((((at9 + 1) + 1) + r138) + r194))) (updR R 1 (.ref pq)) Z B J K35 w := hO.to rfl
            refine W.widen (k := 5) (n := 25) (by show 5 + 0 ≤ 5; omega) (by show 25 + 0 ≤ 25; omega) ?_
            refine W.eq (g2 := F0 m 108 ls [.int (nI r194)]) rfl ?_
            refine lv_if_eq (tgt := 116) hx hb dX8_declaration_108 (by decide) (fun c197 => ?_) (fun c197 => ?_)
            · have n198 : r194 = 0 := (nI_eq (a := r194) (b := 0) (by omega) (by omega)).mp c197
              refine lv_aload_n hx hb dX8_declaration_116 rfl (lv_at hl 2 rfl) ?_
              refine lv_bipush (v := 32) hx hb dX8_declaration_117 (by decide) ?_
              have hO : OKW G h0 a (upd (upd (upd (upd (upd F 2 (nI sz)) 9 (nI at9)) 9 (nI ((((at9 + 1) + 1) + r138) + r194))) 2 (nI sz)) 9 (nI ((((at9 + 1) + 1) + r138) + r194))) (updR R 1 (.ref pq)) Z B J K35.1 (fun q99 x99 => x99 = rep G a K35 q99) w := hO.to rfl
              obtain ⟨_, qr202, hqr203⟩ := hO.2.1 23 _ (sg_23 G h0 a _ _ _ _ _)
              refine pn_V0 (G := G) (As := [.int 32]) (rest := []) hx hb hml hown hq hE hX pX0_al hP hD hS hA hl.1 (P_take l G h0 a (upd (upd (upd F 2 (nI sz)) 9 (nI at9)) 9 (nI ((((at9 + 1) + 1) + r138) + r194))) (updR R 1 (.ref pq)) Z B J K35.1 (fun q99 x99 => x99 = rep G a K35 q99) w 32 ((((at9 + 1) + 1) + r138) + r194) sz (by omega) (by omega) (by decide) hO hl0) (gV pw_793 pw_794 pw_795 pw_796 pw_781) hV_X8_take qr202 5 hqr203 rfl rfl rfl (Nat.le_of_ble_eq_true rfl) dX8_declaration_119 ⟨(by show 5 + 1 ≤ 6; omega), (by show 25 + 6 ≤ 31; omega)⟩ ⟨Nat.le_of_ble_eq_true rfl, Nat.le_of_ble_eq_true rfl⟩ (fun v201 u199 H locs hw200 hP hD hS => ?_) (fun ux ce9 q9 H9 locs9 hux hP9 hD9 hS9 hce hcv hcl => pb_out ux (ThQ.up (Thx.same (Thx.same (Thx.f Thx.rfl (by omega)) rfl) rfl) RhX.rfl hux) hnt hlocks hce hcv hcl hP9 hD9 hS9 (by show 5 + 1 ≤ 6; omega) (by show 25 + 6 ≤ 31; omega))
              obtain ⟨w, _⟩ := u199
              obtain ⟨hw200, h204, hO⟩ := hw200
              have h204 : ((((at9 + 1) + 1) + r138) + r194) + 1 ≤ sz := h204
              obtain rfl : v201 = some (.int (nI ((((at9 + 1) + 1) + r138) + r194))) := hw200
              have hO : OKP G h0 a (upd (upd F 2 (nI sz)) 9 (nI (((((at9 + 1) + 1) + r138) + r194) + 1))) (updR R 1 (.ref pq)) Z B J K35 w := hO.to rfl
              refine W.widen (k := 5) (n := 25) (by show 5 + 0 ≤ 5; omega) (by show 25 + 0 ≤ 25; omega) ?_
              refine W.eq (g2 := F0 m 122 ls [.int (nI ((((at9 + 1) + 1) + r138) + r194))]) rfl ?_
              refine lv_pop hx hb dX8_declaration_122 rfl ?_
              refine lv_aload_n hx hb dX8_declaration_123 rfl (lv_at hl 0 rfl) ?_
              refine W_size (fun hz1 hz2 => ?_)
              refine vx_ret ?_
              have hz205 : WPr G K35 g36 := h37
              have hz206 : PgS G K35 g36 (a 1) pq dr ml (nd + 1) nm cp it s9 := h38
              have hz207 : K35.1 r34 = 4 := h39
              have hz208 : at9 + 3 ≤ (((((at9 + 1) + 1) + r138) + r194) + 1) ∧ (((((at9 + 1) + 1) + r138) + r194) + 1) ≤ sz := (by omega)
              have hO : OKP G h0 a (upd (upd F 2 (nI sz)) 9 (nI (((((at9 + 1) + 1) + r138) + r194) + 1))) (updR R 1 (.ref pq)) Z B J K35 w := hO.to rfl
              refine W.widen (k := 6) (n := 31) (by omega) (by omega) ?_
              have hzz1 : H.size ≤ s.heap.size + (5) := (by have z : 5 ≤ 5 := (by omega); omega)
              have hzz2 : hSl H ≤ hSl s.heap + (25) := (by have z : 25 ≤ 25 := (by omega); omega)
              exact W.aret (v := .ref r34) hx hb hr (Or.inl ⟨_, rfl⟩) (Or.inr ⟨_, rfl⟩) (fun t99 ht99 hW99 => ⟨⟨_, (w, (K35, g36, r34, (((((at9 + 1) + 1) + r138) + r194) + 1), (nd + 1))), rfl, ⟨rfl, hz205, hz206, hz207, hz208, hO⟩, by rw [ht99]; exact hP, hD, by rw [ht99]; exact hzz1, by rw [ht99]; exact hzz2⟩, hS.F ht99⟩) hS.2.2 dX8_declaration_124
            · have n209 : ¬ (r194 = 0) := fun h9 => c197 ((nI_eq (a := r194) (b := 0) (by omega) (by omega)).mpr h9)
              refine lv_aload_n hx hb dX8_declaration_111 rfl (lv_at hl 2 rfl) ?_
              refine lv_aload_n hx hb dX8_declaration_112 rfl (lv_at hl 0 rfl) ?_
              have hO : OKP G h0 a (upd (upd (upd (upd (upd F 2 (nI sz)) 9 (nI at9)) 9 (nI ((((at9 + 1) + 1) + r138) + r194))) 2 (nI sz)) 9 (nI ((((at9 + 1) + 1) + r138) + r194))) (updR (updR R 1 (.ref pq)) 1 (.ref pq)) Z B J K35 w := hO.to rfl
              obtain ⟨_, qr213, hqr214⟩ := hO.2.1 23 _ (sg_23 G h0 a _ _ _ _ _)
              refine pn_V0 (G := G) (As := [.ref r34]) (rest := []) hx hb hml hown hq hE hX pX0_al hP hD hS hA hl.1 (P_listI l G h0 a (upd (upd (upd F 2 (nI sz)) 9 (nI at9)) 9 (nI ((((at9 + 1) + 1) + r138) + r194))) (updR R 1 (.ref pq)) Z B J K35 w pq dr ml (nd + 1) nm cp it s9 r34 ((((at9 + 1) + 1) + r138) + r194) sz g36 (by omega) (by omega) h37 h38 h39 h40 hO hl0) (gV pw_815 pw_816 pw_817 pw_796 pw_800) hV_X8_listInterfaces qr213 5 hqr214 rfl rfl rfl (Nat.le_of_ble_eq_true rfl) dX8_declaration_113 ⟨(by show 5 + 1 ≤ 6; omega), (by show 25 + 6 ≤ 31; omega)⟩ ⟨Nat.le_of_ble_eq_true rfl, Nat.le_of_ble_eq_true rfl⟩ (fun v212 u210 H locs hw211 hP hD hS => ?_) (fun ux ce9 q9 H9 locs9 hux hP9 hD9 hS9 hce hcv hcl => pb_out ux (ThQ.up (Thx.same (Thx.same (Thx.f Thx.rfl (by omega)) rfl) rfl) (show RhX (updR R 1 (.ref pq)) (updR (updR R 1 (.ref pq)) 1 (.ref pq)) from fun k9 hk9 => by unfold updR; simp only [show ¬ k9 = 1 by omega, show ¬ k9 = 2 by omega, show ¬ k9 = 3 by omega, show ¬ k9 = 4 by omega, if_false]) hux) hnt hlocks hce hcv hcl hP9 hD9 hS9 (by show 5 + 1 ≤ 6; omega) (by show 25 + 6 ≤ 31; omega))
              obtain ⟨w, K215, g216, at217⟩ := u210
              obtain ⟨hw211, h218, h219, h220, h221, hO⟩ := hw211
              have h218 : WPr G K215 g216 := h218
              have h219 : PgS G K215 g216 (a 1) pq dr ml (nd + 1) nm cp it s9 := h219
              have h220 : K215.1 r34 = 4 := h220
              have h221 : ((((at9 + 1) + 1) + r138) + r194) + 1 ≤ at217 ∧ at217 ≤ sz := h221
              obtain rfl : v212 = none := hw211
              have hO : OKP G h0 a (upd (upd F 2 (nI sz)) 9 (nI at217)) (updR R 1 (.ref pq)) Z B J K215 w := hO.to rfl
              refine W.widen (k := 5) (n := 25) (by show 5 + 0 ≤ 5; omega) (by show 25 + 0 ≤ 25; omega) ?_
              refine W.eq (g2 := F0 m 116 ls []) rfl ?_
              refine lv_aload_n hx hb dX8_declaration_116 rfl (lv_at hl 2 rfl) ?_
              refine lv_bipush (v := 32) hx hb dX8_declaration_117 (by decide) ?_
              have hO : OKW G h0 a (upd (upd (upd (upd (upd F 2 (nI sz)) 9 (nI at9)) 9 (nI at217)) 2 (nI sz)) 9 (nI at217)) (updR R 1 (.ref pq)) Z B J K215.1 (fun q99 x99 => x99 = rep G a K215 q99) w := hO.to rfl
              obtain ⟨_, qr225, hqr226⟩ := hO.2.1 23 _ (sg_23 G h0 a _ _ _ _ _)
              refine pn_V0 (G := G) (As := [.int 32]) (rest := []) hx hb hml hown hq hE hX pX0_al hP hD hS hA hl.1 (P_take l G h0 a (upd (upd (upd F 2 (nI sz)) 9 (nI at9)) 9 (nI at217)) (updR R 1 (.ref pq)) Z B J K215.1 (fun q99 x99 => x99 = rep G a K215 q99) w 32 at217 sz (by omega) (by omega) (by decide) hO hl0) (gV pw_793 pw_794 pw_795 pw_796 pw_781) hV_X8_take qr225 5 hqr226 rfl rfl rfl (Nat.le_of_ble_eq_true rfl) dX8_declaration_119 ⟨(by show 5 + 1 ≤ 6; omega), (by show 25 + 6 ≤ 31; omega)⟩ ⟨Nat.le_of_ble_eq_true rfl, Nat.le_of_ble_eq_true rfl⟩ (fun v224 u222 H locs hw223 hP hD hS => ?_) (fun ux ce9 q9 H9 locs9 hux hP9 hD9 hS9 hce hcv hcl => pb_out ux (ThQ.up (Thx.same (Thx.same (Thx.f Thx.rfl (by omega)) rfl) rfl) RhX.rfl hux) hnt hlocks hce hcv hcl hP9 hD9 hS9 (by show 5 + 1 ≤ 6; omega) (by show 25 + 6 ≤ 31; omega))
              obtain ⟨w, _⟩ := u222
              obtain ⟨hw223, h227, hO⟩ := hw223
              have h227 : at217 + 1 ≤ sz := h227
              obtain rfl : v224 = some (.int (nI at217)) := hw223
              have hO : OKP G h0 a (upd (upd F 2 (nI sz)) 9 (nI (at217 + 1))) (updR R 1 (.ref pq)) Z B J K215 w := hO.to rfl
              refine W.widen (k := 5) (n := 25) (by show 5 + 0 ≤ 5; omega) (by show 25 + 0 ≤ 25; omega) ?_
              refine W.eq (g2 := F0 m 122 ls [.int (nI at217)]) rfl ?_
              refine lv_pop hx hb dX8_declaration_122 rfl ?_
              refine lv_aload_n hx hb dX8_declaration_123 rfl (lv_at hl 0 rfl) ?_
              refine W_size (fun hz1 hz2 => ?_)
              refine vx_ret ?_
              have hz228 : WPr G K215 g216 := h218
              have hz229 : PgS G K215 g216 (a 1) pq dr ml (nd + 1) nm cp it s9 := h219
              have hz230 : K215.1 r34 = 4 := h220
              have hz231 : at9 + 3 ≤ (at217 + 1) ∧ (at217 + 1) ≤ sz := (by omega)
              have hO : OKP G h0 a (upd (upd F 2 (nI sz)) 9 (nI (at217 + 1))) (updR R 1 (.ref pq)) Z B J K215 w := hO.to rfl
              refine W.widen (k := 6) (n := 31) (by omega) (by omega) ?_
              have hzz1 : H.size ≤ s.heap.size + (5) := (by have z : 5 ≤ 5 := (by omega); omega)
              have hzz2 : hSl H ≤ hSl s.heap + (25) := (by have z : 25 ≤ 25 := (by omega); omega)
              exact W.aret (v := .ref r34) hx hb hr (Or.inl ⟨_, rfl⟩) (Or.inr ⟨_, rfl⟩) (fun t99 ht99 hW99 => ⟨⟨_, (w, (K215, g216, r34, (at217 + 1), (nd + 1))), rfl, ⟨rfl, hz228, hz229, hz230, hz231, hO⟩, by rw [ht99]; exact hP, hD, by rw [ht99]; exact hzz1, by rw [ht99]; exact hzz2⟩, hS.F ht99⟩) hS.2.2 dX8_declaration_124
        · have n232 : ¬ (r138 = 0) := fun h9 => c141 ((nI_eq (a := r138) (b := 0) (by omega) (by omega)).mpr h9)
          refine lv_aload_n hx hb dX8_declaration_83 rfl (lv_at hl 0 rfl) ?_
          refine lv_aload_n hx hb dX8_declaration_84 rfl (lv_at hl 2 rfl) ?_
          refine lv_bipush (v := 65) hx hb dX8_declaration_85 (by decide) ?_
          have hO : OKW G h0 a (upd (upd (upd (upd (upd F 2 (nI sz)) 9 (nI at9)) 9 (nI (((at9 + 1) + 1) + r138))) 2 (nI sz)) 9 (nI (((at9 + 1) + 1) + r138))) (updR R 1 (.ref pq)) Z B J K35.1 (fun q99 x99 => x99 = rep G a K35 q99) w := hO.to rfl
          obtain ⟨_, qr236, hqr237⟩ := hO.2.1 23 _ (sg_23 G h0 a _ _ _ _ _)
          refine pn_V0 (G := G) (As := [.int 65]) (rest := [.ref r34]) hx hb hml hown hq hE hX pX0_al hP hD hS hA hl.1 (P_take l G h0 a (upd (upd (upd F 2 (nI sz)) 9 (nI at9)) 9 (nI (((at9 + 1) + 1) + r138))) (updR R 1 (.ref pq)) Z B J K35.1 (fun q99 x99 => x99 = rep G a K35 q99) w 65 (((at9 + 1) + 1) + r138) sz (by omega) (by omega) (by decide) hO hl0) (gV pw_793 pw_794 pw_795 pw_796 pw_781) hV_X8_take qr236 5 hqr237 rfl rfl rfl (Nat.le_of_ble_eq_true rfl) dX8_declaration_87 ⟨(by show 5 + 1 ≤ 6; omega), (by show 25 + 6 ≤ 31; omega)⟩ ⟨Nat.le_of_ble_eq_true rfl, Nat.le_of_ble_eq_true rfl⟩ (fun v235 u233 H locs hw234 hP hD hS => ?_) (fun ux ce9 q9 H9 locs9 hux hP9 hD9 hS9 hce hcv hcl => pb_out ux (ThQ.up (Thx.same (Thx.same (Thx.f Thx.rfl (by omega)) rfl) rfl) RhX.rfl hux) hnt hlocks hce hcv hcl hP9 hD9 hS9 (by show 5 + 1 ≤ 6; omega) (by show 25 + 6 ≤ 31; omega))
          obtain ⟨w, _⟩ := u233
          obtain ⟨hw234, h238, hO⟩ := hw234
          have h238 : (((at9 + 1) + 1) + r138) + 1 ≤ sz := h238
          obtain rfl : v235 = some (.int (nI (((at9 + 1) + 1) + r138))) := hw234
          have hO : OKP G h0 a (upd (upd F 2 (nI sz)) 9 (nI ((((at9 + 1) + 1) + r138) + 1))) (updR R 1 (.ref pq)) Z B J K35 w := hO.to rfl
          refine W.widen (k := 5) (n := 25) (by show 5 + 0 ≤ 5; omega) (by show 25 + 0 ≤ 25; omega) ?_
          refine W.eq (g2 := F0 m 90 ls [.int (nI (((at9 + 1) + 1) + r138)), .ref r34]) rfl ?_
          refine p_put (v := .int (nI (((at9 + 1) + 1) + r138))) (ty := .int) (C := RX2) (Tc := TX2) (N := 13) (ci := 2) (K' := (kI K35 19 r34 (nI (((at9 + 1) + 1) + r138)))) hx hb hq pin_wsX20 tyX2 tyX2_ok nmX2 hown hE hP hD hS hO (by rw [h39]; decide) (rep_4 h39) rfl 4 (by decide) (hq _ pw_802) (fun _ h9 => h9) rfl (by decide +kernel) rfl rfl (Nat.le_of_ble_eq_true rfl) rfl (by rw [rep_4 (show (kI K35 19 r34 (nI (((at9 + 1) + 1) + r138))).1 r34 = 4 from h39), pi_19] <;> rfl) (fun p9 hp9 => rep_kI hp9) dX8_declaration_90 (fun H locs w hP hD hS hO => ?_)
          obtain ⟨K239, hK240⟩ : ∃ z : PK, z = (kI K35 19 r34 (nI (((at9 + 1) + 1) + r138))) := ⟨_, rfl⟩
          rw [← hK240] at hO
          have hf241 : K239.1 r34 = 4 := (by rw [hK240]; exact h39)
          have hf242 : K239.2.1 19 r34 = (nI (((at9 + 1) + 1) + r138)) := by rw [hK240]; exact kI_eq
          have hwp243 : WPr G K239 g36 := by rw [hK240]; exact WPr.kI h37 (by decide) (Or.inr h40)
          have hps244 : PgS G K239 g36 (a 1) pq dr ml (nd + 1) nm cp it s9 := by rw [hK240]; exact PgS.kI h38 (by decide)
          refine lv_aload_n hx hb dX8_declaration_93 rfl (lv_at hl 2 rfl) ?_
          refine lv_iload_n hx hb dX8_declaration_94 rfl (lv_at hl 1 rfl) ?_
          refine lv_if_eq (tgt := 103) hx hb dX8_declaration_95 (by decide) (fun c245 => ?_) (fun c245 => ?_)
          · have n246 : r6 = 0 := (nI_eq (a := r6) (b := 0) (by omega) (by omega)).mp c245
            refine lv_bipush (v := 12) hx hb dX8_declaration_103 (by decide) ?_
            have hO : OKW G h0 a (upd (upd (upd (upd F 2 (nI sz)) 9 (nI ((((at9 + 1) + 1) + r138) + 1))) 2 (nI sz)) 9 (nI ((((at9 + 1) + 1) + r138) + 1))) (updR R 1 (.ref pq)) Z B J K239.1 (fun q99 x99 => x99 = rep G a K239 q99) w := hO.to rfl
            obtain ⟨_, qr250, hqr251⟩ := hO.2.1 23 _ (sg_23 G h0 a _ _ _ _ _)
            refine pc_V0 (G := G) (As := [.int 12]) (rest := []) hx hb hml hown hq hE hX pX0_al hP hD hS hA hl.1 (P_takeIf l G h0 a (upd (upd F 2 (nI sz)) 9 (nI ((((at9 + 1) + 1) + r138) + 1))) (updR R 1 (.ref pq)) Z B J K239.1 (fun q99 x99 => x99 = rep G a K239 q99) w 12 ((((at9 + 1) + 1) + r138) + 1) sz (by omega) (by omega) (by decide) hO) (gV pw_797 pw_798 pw_799 pw_796 pw_789) hV_X8_takeIf qr250 5 hqr251 rfl rfl rfl (Nat.le_of_ble_eq_true rfl) dX8_declaration_105 ⟨(by show 5 + 0 ≤ 6; omega), (by show 25 + 0 ≤ 31; omega)⟩ ⟨Nat.le_of_ble_eq_true rfl, Nat.le_of_ble_eq_true rfl⟩ (fun v249 u247 H locs hw248 hP hD hS => ?_)
            obtain ⟨w, r252⟩ := u247
            obtain ⟨hw248, h253, h254, hO⟩ := hw248
            have h253 : r252 ≤ 1 := h253
            have h254 : ((((at9 + 1) + 1) + r138) + 1) + r252 ≤ sz := h254
            obtain rfl : v249 = some (.int (nI r252)) := hw248
            have hO : OKP G h0 a (upd (upd F 2 (nI sz)) 9 (nI (((((at9 + 1) + 1) + r138) + 1) + r252))) (updR R 1 (.ref pq)) Z B J K239 w := hO.to rfl
            refine W.widen (k := 5) (n := 25) (by show 5 + 0 ≤ 5; omega) (by show 25 + 0 ≤ 25; omega) ?_
            refine W.eq (g2 := F0 m 108 ls [.int (nI r252)]) rfl ?_
            refine lv_if_eq (tgt := 116) hx hb dX8_declaration_108 (by decide) (fun c255 => ?_) (fun c255 => ?_)
            · have n256 : r252 = 0 := (nI_eq (a := r252) (b := 0) (by omega) (by omega)).mp c255
              refine lv_aload_n hx hb dX8_declaration_116 rfl (lv_at hl 2 rfl) ?_
              refine lv_bipush (v := 32) hx hb dX8_declaration_117 (by decide) ?_
              have hO : OKW G h0 a (upd (upd (upd (upd (upd F 2 (nI sz)) 9 (nI at9)) 9 (nI (((((at9 + 1) + 1) + r138) + 1) + r252))) 2 (nI sz)) 9 (nI (((((at9 + 1) + 1) + r138) + 1) + r252))) (updR R 1 (.ref pq)) Z B J K239.1 (fun q99 x99 => x99 = rep G a K239 q99) w := hO.to rfl
              obtain ⟨_, qr260, hqr261⟩ := hO.2.1 23 _ (sg_23 G h0 a _ _ _ _ _)
              refine pn_V0 (G := G) (As := [.int 32]) (rest := []) hx hb hml hown hq hE hX pX0_al hP hD hS hA hl.1 (P_take l G h0 a (upd (upd (upd F 2 (nI sz)) 9 (nI at9)) 9 (nI (((((at9 + 1) + 1) + r138) + 1) + r252))) (updR R 1 (.ref pq)) Z B J K239.1 (fun q99 x99 => x99 = rep G a K239 q99) w 32 (((((at9 + 1) + 1) + r138) + 1) + r252) sz (by omega) (by omega) (by decide) hO hl0) (gV pw_793 pw_794 pw_795 pw_796 pw_781) hV_X8_take qr260 5 hqr261 rfl rfl rfl (Nat.le_of_ble_eq_true rfl) dX8_declaration_119 ⟨(by show 5 + 1 ≤ 6; omega), (by show 25 + 6 ≤ 31; omega)⟩ ⟨Nat.le_of_ble_eq_true rfl, Nat.le_of_ble_eq_true rfl⟩ (fun v259 u257 H locs hw258 hP hD hS => ?_) (fun ux ce9 q9 H9 locs9 hux hP9 hD9 hS9 hce hcv hcl => pb_out ux (ThQ.up (Thx.same (Thx.same (Thx.f Thx.rfl (by omega)) rfl) rfl) RhX.rfl hux) hnt hlocks hce hcv hcl hP9 hD9 hS9 (by show 5 + 1 ≤ 6; omega) (by show 25 + 6 ≤ 31; omega))
              obtain ⟨w, _⟩ := u257
              obtain ⟨hw258, h262, hO⟩ := hw258
              have h262 : (((((at9 + 1) + 1) + r138) + 1) + r252) + 1 ≤ sz := h262
              obtain rfl : v259 = some (.int (nI (((((at9 + 1) + 1) + r138) + 1) + r252))) := hw258
              have hO : OKP G h0 a (upd (upd F 2 (nI sz)) 9 (nI ((((((at9 + 1) + 1) + r138) + 1) + r252) + 1))) (updR R 1 (.ref pq)) Z B J K239 w := hO.to rfl
              refine W.widen (k := 5) (n := 25) (by show 5 + 0 ≤ 5; omega) (by show 25 + 0 ≤ 25; omega) ?_
              refine W.eq (g2 := F0 m 122 ls [.int (nI (((((at9 + 1) + 1) + r138) + 1) + r252))]) rfl ?_
              refine lv_pop hx hb dX8_declaration_122 rfl ?_
              refine lv_aload_n hx hb dX8_declaration_123 rfl (lv_at hl 0 rfl) ?_
              refine W_size (fun hz1 hz2 => ?_)
              refine vx_ret ?_
              have hz263 : WPr G K239 g36 := hwp243
              have hz264 : PgS G K239 g36 (a 1) pq dr ml (nd + 1) nm cp it s9 := hps244
              have hz265 : K239.1 r34 = 4 := hf241
              have hz266 : at9 + 3 ≤ ((((((at9 + 1) + 1) + r138) + 1) + r252) + 1) ∧ ((((((at9 + 1) + 1) + r138) + 1) + r252) + 1) ≤ sz := (by omega)
              have hO : OKP G h0 a (upd (upd F 2 (nI sz)) 9 (nI ((((((at9 + 1) + 1) + r138) + 1) + r252) + 1))) (updR R 1 (.ref pq)) Z B J K239 w := hO.to rfl
              refine W.widen (k := 6) (n := 31) (by omega) (by omega) ?_
              have hzz1 : H.size ≤ s.heap.size + (5) := (by have z : 5 ≤ 5 := (by omega); omega)
              have hzz2 : hSl H ≤ hSl s.heap + (25) := (by have z : 25 ≤ 25 := (by omega); omega)
              exact W.aret (v := .ref r34) hx hb hr (Or.inl ⟨_, rfl⟩) (Or.inr ⟨_, rfl⟩) (fun t99 ht99 hW99 => ⟨⟨_, (w, (K239, g36, r34, ((((((at9 + 1) + 1) + r138) + 1) + r252) + 1), (nd + 1))), rfl, ⟨rfl, hz263, hz264, hz265, hz266, hO⟩, by rw [ht99]; exact hP, hD, by rw [ht99]; exact hzz1, by rw [ht99]; exact hzz2⟩, hS.F ht99⟩) hS.2.2 dX8_declaration_124
            · have n267 : ¬ (r252 = 0) := fun h9 => c255 ((nI_eq (a := r252) (b := 0) (by omega) (by omega)).mpr h9)
              refine lv_aload_n hx hb dX8_declaration_111 rfl (lv_at hl 2 rfl) ?_
              refine lv_aload_n hx hb dX8_declaration_112 rfl (lv_at hl 0 rfl) ?_
              have hO : OKP G h0 a (upd (upd (upd (upd (upd F 2 (nI sz)) 9 (nI at9)) 9 (nI (((((at9 + 1) + 1) + r138) + 1) + r252))) 2 (nI sz)) 9 (nI (((((at9 + 1) + 1) + r138) + 1) + r252))) (updR (updR R 1 (.ref pq)) 1 (.ref pq)) Z B J K239 w := hO.to rfl
              obtain ⟨_, qr271, hqr272⟩ := hO.2.1 23 _ (sg_23 G h0 a _ _ _ _ _)
              refine pn_V0 (G := G) (As := [.ref r34]) (rest := []) hx hb hml hown hq hE hX pX0_al hP hD hS hA hl.1 (P_listI l G h0 a (upd (upd (upd F 2 (nI sz)) 9 (nI at9)) 9 (nI (((((at9 + 1) + 1) + r138) + 1) + r252))) (updR R 1 (.ref pq)) Z B J K239 w pq dr ml (nd + 1) nm cp it s9 r34 (((((at9 + 1) + 1) + r138) + 1) + r252) sz g36 (by omega) (by omega) hwp243 hps244 hf241 h40 hO hl0) (gV pw_815 pw_816 pw_817 pw_796 pw_800) hV_X8_listInterfaces qr271 5 hqr272 rfl rfl rfl (Nat.le_of_ble_eq_true rfl) dX8_declaration_113 ⟨(by show 5 + 1 ≤ 6; omega), (by show 25 + 6 ≤ 31; omega)⟩ ⟨Nat.le_of_ble_eq_true rfl, Nat.le_of_ble_eq_true rfl⟩ (fun v270 u268 H locs hw269 hP hD hS => ?_) (fun ux ce9 q9 H9 locs9 hux hP9 hD9 hS9 hce hcv hcl => pb_out ux (ThQ.up (Thx.same (Thx.same (Thx.f Thx.rfl (by omega)) rfl) rfl) (show RhX (updR R 1 (.ref pq)) (updR (updR R 1 (.ref pq)) 1 (.ref pq)) from fun k9 hk9 => by unfold updR; simp only [show ¬ k9 = 1 by omega, show ¬ k9 = 2 by omega, show ¬ k9 = 3 by omega, show ¬ k9 = 4 by omega, if_false]) hux) hnt hlocks hce hcv hcl hP9 hD9 hS9 (by show 5 + 1 ≤ 6; omega) (by show 25 + 6 ≤ 31; omega))
              obtain ⟨w, K273, g274, at275⟩ := u268
              obtain ⟨hw269, h276, h277, h278, h279, hO⟩ := hw269
              have h276 : WPr G K273 g274 := h276
              have h277 : PgS G K273 g274 (a 1) pq dr ml (nd + 1) nm cp it s9 := h277
              have h278 : K273.1 r34 = 4 := h278
              have h279 : (((((at9 + 1) + 1) + r138) + 1) + r252) + 1 ≤ at275 ∧ at275 ≤ sz := h279
              obtain rfl : v270 = none := hw269
              have hO : OKP G h0 a (upd (upd F 2 (nI sz)) 9 (nI at275)) (updR R 1 (.ref pq)) Z B J K273 w := hO.to rfl
              refine W.widen (k := 5) (n := 25) (by show 5 + 0 ≤ 5; omega) (by show 25 + 0 ≤ 25; omega) ?_
              refine W.eq (g2 := F0 m 116 ls []) rfl ?_
              refine lv_aload_n hx hb dX8_declaration_116 rfl (lv_at hl 2 rfl) ?_
              refine lv_bipush (v := 32) hx hb dX8_declaration_117 (by decide) ?_
              have hO : OKW G h0 a (upd (upd (upd (upd (upd F 2 (nI sz)) 9 (nI at9)) 9 (nI at275)) 2 (nI sz)) 9 (nI at275)) (updR R 1 (.ref pq)) Z B J K273.1 (fun q99 x99 => x99 = rep G a K273 q99) w := hO.to rfl
              obtain ⟨_, qr283, hqr284⟩ := hO.2.1 23 _ (sg_23 G h0 a _ _ _ _ _)
              refine pn_V0 (G := G) (As := [.int 32]) (rest := []) hx hb hml hown hq hE hX pX0_al hP hD hS hA hl.1 (P_take l G h0 a (upd (upd (upd F 2 (nI sz)) 9 (nI at9)) 9 (nI at275)) (updR R 1 (.ref pq)) Z B J K273.1 (fun q99 x99 => x99 = rep G a K273 q99) w 32 at275 sz (by omega) (by omega) (by decide) hO hl0) (gV pw_793 pw_794 pw_795 pw_796 pw_781) hV_X8_take qr283 5 hqr284 rfl rfl rfl (Nat.le_of_ble_eq_true rfl) dX8_declaration_119 ⟨(by show 5 + 1 ≤ 6; omega), (by show 25 + 6 ≤ 31; omega)⟩ ⟨Nat.le_of_ble_eq_true rfl, Nat.le_of_ble_eq_true rfl⟩ (fun v282 u280 H locs hw281 hP hD hS => ?_) (fun ux ce9 q9 H9 locs9 hux hP9 hD9 hS9 hce hcv hcl => pb_out ux (ThQ.up (Thx.same (Thx.same (Thx.f Thx.rfl (by omega)) rfl) rfl) RhX.rfl hux) hnt hlocks hce hcv hcl hP9 hD9 hS9 (by show 5 + 1 ≤ 6; omega) (by show 25 + 6 ≤ 31; omega))
              obtain ⟨w, _⟩ := u280
              obtain ⟨hw281, h285, hO⟩ := hw281
              have h285 : at275 + 1 ≤ sz := h285
              obtain rfl : v282 = some (.int (nI at275)) := hw281
              have hO : OKP G h0 a (upd (upd F 2 (nI sz)) 9 (nI (at275 + 1))) (updR R 1 (.ref pq)) Z B J K273 w := hO.to rfl
              refine W.widen (k := 5) (n := 25) (by show 5 + 0 ≤ 5; omega) (by show 25 + 0 ≤ 25; omega) ?_
              refine W.eq (g2 := F0 m 122 ls [.int (nI at275)]) rfl ?_
              refine lv_pop hx hb dX8_declaration_122 rfl ?_
              refine lv_aload_n hx hb dX8_declaration_123 rfl (lv_at hl 0 rfl) ?_
              refine W_size (fun hz1 hz2 => ?_)
              refine vx_ret ?_
              have hz286 : WPr G K273 g274 := h276
              have hz287 : PgS G K273 g274 (a 1) pq dr ml (nd + 1) nm cp it s9 := h277
              have hz288 : K273.1 r34 = 4 := h278
              have hz289 : at9 + 3 ≤ (at275 + 1) ∧ (at275 + 1) ≤ sz := (by omega)
              have hO : OKP G h0 a (upd (upd F 2 (nI sz)) 9 (nI (at275 + 1))) (updR R 1 (.ref pq)) Z B J K273 w := hO.to rfl
              refine W.widen (k := 6) (n := 31) (by omega) (by omega) ?_
              have hzz1 : H.size ≤ s.heap.size + (5) := (by have z : 5 ≤ 5 := (by omega); omega)
              have hzz2 : hSl H ≤ hSl s.heap + (25) := (by have z : 25 ≤ 25 := (by omega); omega)
              exact W.aret (v := .ref r34) hx hb hr (Or.inl ⟨_, rfl⟩) (Or.inr ⟨_, rfl⟩) (fun t99 ht99 hW99 => ⟨⟨_, (w, (K273, g274, r34, (at275 + 1), (nd + 1))), rfl, ⟨rfl, hz286, hz287, hz288, hz289, hO⟩, by rw [ht99]; exact hP, hD, by rw [ht99]; exact hzz1, by rw [ht99]; exact hzz2⟩, hS.F ht99⟩) hS.2.2 dX8_declaration_124
          · have n290 : ¬ (r6 = 0) := fun h9 => c245 ((nI_eq (a := r6) (b := 0) (by omega) (by omega)).mpr h9)
            refine lv_bipush (v := 7) hx hb dX8_declaration_98 (by decide) ?_
            refine lv_goto (tgt := 105) hx hb dX8_declaration_100 (by decide) ?_
            have hO : OKW G h0 a (upd (upd (upd (upd F 2 (nI sz)) 9 (nI ((((at9 + 1) + 1) + r138) + 1))) 2 (nI sz)) 9 (nI ((((at9 + 1) + 1) + r138) + 1))) (updR R 1 (.ref pq)) Z B J K239.1 (fun q99 x99 => x99 = rep G a K239 q99) w := hO.to rfl
            obtain ⟨_, qr294, hqr295⟩ := hO.2.1 23 _ (sg_23 G h0 a _ _ _ _ _)
            refine pc_V0 (G := G) (As := [.int 7]) (rest := []) hx hb hml hown hq hE hX pX0_al hP hD hS hA hl.1 (P_takeIf l G h0 a (upd (upd F 2 (nI sz)) 9 (nI ((((at9 + 1) + 1) + r138) + 1))) (updR R 1 (.ref pq)) Z B J K239.1 (fun q99 x99 => x99 = rep G a K239 q99) w 7 ((((at9 + 1) + 1) + r138) + 1) sz (by omega) (by omega) (by decide) hO) (gV pw_797 pw_798 pw_799 pw_796 pw_789) hV_X8_takeIf qr294 5 hqr295 rfl rfl rfl (Nat.le_of_ble_eq_true rfl) dX8_declaration_105 ⟨(by show 5 + 0 ≤ 6; omega), (by show 25 + 0 ≤ 31; omega)⟩ ⟨Nat.le_of_ble_eq_true rfl, Nat.le_of_ble_eq_true rfl⟩ (fun v293 u291 H locs hw292 hP hD hS => ?_)
            obtain ⟨w, r296⟩ := u291
            obtain ⟨hw292, h297, h298, hO⟩ := hw292
            have h297 : r296 ≤ 1 := h297
            have h298 : ((((at9 + 1) + 1) + r138) + 1) + r296 ≤ sz := h298
            obtain rfl : v293 = some (.int (nI r296)) := hw292
            have hO : OKP G h0 a (upd (upd F 2 (nI sz)) 9 (nI (((((at9 + 1) + 1) + r138) + 1) + r296))) (updR R 1 (.ref pq)) Z B J K239 w := hO.to rfl
            refine W.widen (k := 5) (n := 25) (by show 5 + 0 ≤ 5; omega) (by show 25 + 0 ≤ 25; omega) ?_
            refine W.eq (g2 := F0 m 108 ls [.int (nI r296)]) rfl ?_
            refine lv_if_eq (tgt := 116) hx hb dX8_declaration_108 (by decide) (fun c299 => ?_) (fun c299 => ?_)
            · have n300 : r296 = 0 := (nI_eq (a := r296) (b := 0) (by omega) (by omega)).mp c299
              refine lv_aload_n hx hb dX8_declaration_116 rfl (lv_at hl 2 rfl) ?_
              refine lv_bipush (v := 32) hx hb dX8_declaration_117 (by decide) ?_
              have hO : OKW G h0 a (upd (upd (upd (upd (upd F 2 (nI sz)) 9 (nI at9)) 9 (nI (((((at9 + 1) + 1) + r138) + 1) + r296))) 2 (nI sz)) 9 (nI (((((at9 + 1) + 1) + r138) + 1) + r296))) (updR R 1 (.ref pq)) Z B J K239.1 (fun q99 x99 => x99 = rep G a K239 q99) w := hO.to rfl
              obtain ⟨_, qr304, hqr305⟩ := hO.2.1 23 _ (sg_23 G h0 a _ _ _ _ _)
              refine pn_V0 (G := G) (As := [.int 32]) (rest := []) hx hb hml hown hq hE hX pX0_al hP hD hS hA hl.1 (P_take l G h0 a (upd (upd (upd F 2 (nI sz)) 9 (nI at9)) 9 (nI (((((at9 + 1) + 1) + r138) + 1) + r296))) (updR R 1 (.ref pq)) Z B J K239.1 (fun q99 x99 => x99 = rep G a K239 q99) w 32 (((((at9 + 1) + 1) + r138) + 1) + r296) sz (by omega) (by omega) (by decide) hO hl0) (gV pw_793 pw_794 pw_795 pw_796 pw_781) hV_X8_take qr304 5 hqr305 rfl rfl rfl (Nat.le_of_ble_eq_true rfl) dX8_declaration_119 ⟨(by show 5 + 1 ≤ 6; omega), (by show 25 + 6 ≤ 31; omega)⟩ ⟨Nat.le_of_ble_eq_true rfl, Nat.le_of_ble_eq_true rfl⟩ (fun v303 u301 H locs hw302 hP hD hS => ?_) (fun ux ce9 q9 H9 locs9 hux hP9 hD9 hS9 hce hcv hcl => pb_out ux (ThQ.up (Thx.same (Thx.same (Thx.f Thx.rfl (by omega)) rfl) rfl) RhX.rfl hux) hnt hlocks hce hcv hcl hP9 hD9 hS9 (by show 5 + 1 ≤ 6; omega) (by show 25 + 6 ≤ 31; omega))
              obtain ⟨w, _⟩ := u301
              obtain ⟨hw302, h306, hO⟩ := hw302
              have h306 : (((((at9 + 1) + 1) + r138) + 1) + r296) + 1 ≤ sz := h306
              obtain rfl : v303 = some (.int (nI (((((at9 + 1) + 1) + r138) + 1) + r296))) := hw302
              have hO : OKP G h0 a (upd (upd F 2 (nI sz)) 9 (nI ((((((at9 + 1) + 1) + r138) + 1) + r296) + 1))) (updR R 1 (.ref pq)) Z B J K239 w := hO.to rfl
              refine W.widen (k := 5) (n := 25) (by show 5 + 0 ≤ 5; omega) (by show 25 + 0 ≤ 25; omega) ?_
              refine W.eq (g2 := F0 m 122 ls [.int (nI (((((at9 + 1) + 1) + r138) + 1) + r296))]) rfl ?_
              refine lv_pop hx hb dX8_declaration_122 rfl ?_
              refine lv_aload_n hx hb dX8_declaration_123 rfl (lv_at hl 0 rfl) ?_
              refine W_size (fun hz1 hz2 => ?_)
              refine vx_ret ?_
              have hz307 : WPr G K239 g36 := hwp243
              have hz308 : PgS G K239 g36 (a 1) pq dr ml (nd + 1) nm cp it s9 := hps244
              have hz309 : K239.1 r34 = 4 := hf241
              have hz310 : at9 + 3 ≤ ((((((at9 + 1) + 1) + r138) + 1) + r296) + 1) ∧ ((((((at9 + 1) + 1) + r138) + 1) + r296) + 1) ≤ sz := (by omega)
              have hO : OKP G h0 a (upd (upd F 2 (nI sz)) 9 (nI ((((((at9 + 1) + 1) + r138) + 1) + r296) + 1))) (updR R 1 (.ref pq)) Z B J K239 w := hO.to rfl
              refine W.widen (k := 6) (n := 31) (by omega) (by omega) ?_
              have hzz1 : H.size ≤ s.heap.size + (5) := (by have z : 5 ≤ 5 := (by omega); omega)
              have hzz2 : hSl H ≤ hSl s.heap + (25) := (by have z : 25 ≤ 25 := (by omega); omega)
              exact W.aret (v := .ref r34) hx hb hr (Or.inl ⟨_, rfl⟩) (Or.inr ⟨_, rfl⟩) (fun t99 ht99 hW99 => ⟨⟨_, (w, (K239, g36, r34, ((((((at9 + 1) + 1) + r138) + 1) + r296) + 1), (nd + 1))), rfl, ⟨rfl, hz307, hz308, hz309, hz310, hO⟩, by rw [ht99]; exact hP, hD, by rw [ht99]; exact hzz1, by rw [ht99]; exact hzz2⟩, hS.F ht99⟩) hS.2.2 dX8_declaration_124
            · have n311 : ¬ (r296 = 0) := fun h9 => c299 ((nI_eq (a := r296) (b := 0) (by omega) (by omega)).mpr h9)
              refine lv_aload_n hx hb dX8_declaration_111 rfl (lv_at hl 2 rfl) ?_
              refine lv_aload_n hx hb dX8_declaration_112 rfl (lv_at hl 0 rfl) ?_
              have hO : OKP G h0 a (upd (upd (upd (upd (upd F 2 (nI sz)) 9 (nI at9)) 9 (nI (((((at9 + 1) + 1) + r138) + 1) + r296))) 2 (nI sz)) 9 (nI (((((at9 + 1) + 1) + r138) + 1) + r296))) (updR (updR R 1 (.ref pq)) 1 (.ref pq)) Z B J K239 w := hO.to rfl
              obtain ⟨_, qr315, hqr316⟩ := hO.2.1 23 _ (sg_23 G h0 a _ _ _ _ _)
              refine pn_V0 (G := G) (As := [.ref r34]) (rest := []) hx hb hml hown hq hE hX pX0_al hP hD hS hA hl.1 (P_listI l G h0 a (upd (upd (upd F 2 (nI sz)) 9 (nI at9)) 9 (nI (((((at9 + 1) + 1) + r138) + 1) + r296))) (updR R 1 (.ref pq)) Z B J K239 w pq dr ml (nd + 1) nm cp it s9 r34 (((((at9 + 1) + 1) + r138) + 1) + r296) sz g36 (by omega) (by omega) hwp243 hps244 hf241 h40 hO hl0) (gV pw_815 pw_816 pw_817 pw_796 pw_800) hV_X8_listInterfaces qr315 5 hqr316 rfl rfl rfl (Nat.le_of_ble_eq_true rfl) dX8_declaration_113 ⟨(by show 5 + 1 ≤ 6; omega), (by show 25 + 6 ≤ 31; omega)⟩ ⟨Nat.le_of_ble_eq_true rfl, Nat.le_of_ble_eq_true rfl⟩ (fun v314 u312 H locs hw313 hP hD hS => ?_) (fun ux ce9 q9 H9 locs9 hux hP9 hD9 hS9 hce hcv hcl => pb_out ux (ThQ.up (Thx.same (Thx.same (Thx.f Thx.rfl (by omega)) rfl) rfl) (show RhX (updR R 1 (.ref pq)) (updR (updR R 1 (.ref pq)) 1 (.ref pq)) from fun k9 hk9 => by unfold updR; simp only [show ¬ k9 = 1 by omega, show ¬ k9 = 2 by omega, show ¬ k9 = 3 by omega, show ¬ k9 = 4 by omega, if_false]) hux) hnt hlocks hce hcv hcl hP9 hD9 hS9 (by show 5 + 1 ≤ 6; omega) (by show 25 + 6 ≤ 31; omega))
              obtain ⟨w, K317, g318, at319⟩ := u312
              obtain ⟨hw313, h320, h321, h322, h323, hO⟩ := hw313
              have h320 : WPr G K317 g318 := h320
              have h321 : PgS G K317 g318 (a 1) pq dr ml (nd + 1) nm cp it s9 := h321
              have h322 : K317.1 r34 = 4 := h322
              have h323 : (((((at9 + 1) + 1) + r138) + 1) + r296) + 1 ≤ at319 ∧ at319 ≤ sz := h323
              obtain rfl : v314 = none := hw313
              have hO : OKP G h0 a (upd (upd F 2 (nI sz)) 9 (nI at319)) (updR R 1 (.ref pq)) Z B J K317 w := hO.to rfl
              refine W.widen (k := 5) (n := 25) (by show 5 + 0 ≤ 5; omega) (by show 25 + 0 ≤ 25; omega) ?_
              refine W.eq (g2 := F0 m 116 ls []) rfl ?_
              refine lv_aload_n hx hb dX8_declaration_116 rfl (lv_at hl 2 rfl) ?_
              refine lv_bipush (v := 32) hx hb dX8_declaration_117 (by decide) ?_
              have hO : OKW G h0 a (upd (upd (upd (upd (upd F 2 (nI sz)) 9 (nI at9)) 9 (nI at319)) 2 (nI sz)) 9 (nI at319)) (updR R 1 (.ref pq)) Z B J K317.1 (fun q99 x99 => x99 = rep G a K317 q99) w := hO.to rfl
              obtain ⟨_, qr327, hqr328⟩ := hO.2.1 23 _ (sg_23 G h0 a _ _ _ _ _)
              refine pn_V0 (G := G) (As := [.int 32]) (rest := []) hx hb hml hown hq hE hX pX0_al hP hD hS hA hl.1 (P_take l G h0 a (upd (upd (upd F 2 (nI sz)) 9 (nI at9)) 9 (nI at319)) (updR R 1 (.ref pq)) Z B J K317.1 (fun q99 x99 => x99 = rep G a K317 q99) w 32 at319 sz (by omega) (by omega) (by decide) hO hl0) (gV pw_793 pw_794 pw_795 pw_796 pw_781) hV_X8_take qr327 5 hqr328 rfl rfl rfl (Nat.le_of_ble_eq_true rfl) dX8_declaration_119 ⟨(by show 5 + 1 ≤ 6; omega), (by show 25 + 6 ≤ 31; omega)⟩ ⟨Nat.le_of_ble_eq_true rfl, Nat.le_of_ble_eq_true rfl⟩ (fun v326 u324 H locs hw325 hP hD hS => ?_) (fun ux ce9 q9 H9 locs9 hux hP9 hD9 hS9 hce hcv hcl => pb_out ux (ThQ.up (Thx.same (Thx.same (Thx.f Thx.rfl (by omega)) rfl) rfl) RhX.rfl hux) hnt hlocks hce hcv hcl hP9 hD9 hS9 (by show 5 + 1 ≤ 6; omega) (by show 25 + 6 ≤ 31; omega))
              obtain ⟨w, _⟩ := u324
              obtain ⟨hw325, h329, hO⟩ := hw325
              have h329 : at319 + 1 ≤ sz := h329
              obtain rfl : v326 = some (.int (nI at319)) := hw325
              have hO : OKP G h0 a (upd (upd F 2 (nI sz)) 9 (nI (at319 + 1))) (updR R 1 (.ref pq)) Z B J K317 w := hO.to rfl
              refine W.widen (k := 5) (n := 25) (by show 5 + 0 ≤ 5; omega) (by show 25 + 0 ≤ 25; omega) ?_
              refine W.eq (g2 := F0 m 122 ls [.int (nI at319)]) rfl ?_
              refine lv_pop hx hb dX8_declaration_122 rfl ?_
              refine lv_aload_n hx hb dX8_declaration_123 rfl (lv_at hl 0 rfl) ?_
              refine W_size (fun hz1 hz2 => ?_)
              refine vx_ret ?_
              have hz330 : WPr G K317 g318 := h320
              have hz331 : PgS G K317 g318 (a 1) pq dr ml (nd + 1) nm cp it s9 := h321
              have hz332 : K317.1 r34 = 4 := h322
              have hz333 : at9 + 3 ≤ (at319 + 1) ∧ (at319 + 1) ≤ sz := (by omega)
              have hO : OKP G h0 a (upd (upd F 2 (nI sz)) 9 (nI (at319 + 1))) (updR R 1 (.ref pq)) Z B J K317 w := hO.to rfl
              refine W.widen (k := 6) (n := 31) (by omega) (by omega) ?_
              have hzz1 : H.size ≤ s.heap.size + (5) := (by have z : 5 ≤ 5 := (by omega); omega)
              have hzz2 : hSl H ≤ hSl s.heap + (25) := (by have z : 25 ≤ 25 := (by omega); omega)
              exact W.aret (v := .ref r34) hx hb hr (Or.inl ⟨_, rfl⟩) (Or.inr ⟨_, rfl⟩) (fun t99 ht99 hW99 => ⟨⟨_, (w, (K317, g318, r34, (at319 + 1), (nd + 1))), rfl, ⟨rfl, hz330, hz331, hz332, hz333, hO⟩, by rw [ht99]; exact hP, hD, by rw [ht99]; exact hzz1, by rw [ht99]; exact hzz2⟩, hS.F ht99⟩) hS.2.2 dX8_declaration_124
    · have n334 : ¬ (r16 = 0) := fun h9 => c19 ((nI_eq (a := r16) (b := 0) (by omega) (by omega)).mpr h9)
      refine lv_aload_n hx hb dX8_declaration_33 rfl (lv_at hl 1 rfl) ?_
      refine c_get (v := .ref (a 1)) (C := RX8) (Tc := TX8) (N := 5) (ci := 5) hx hb hq pin_wsX80 hown hE hP hO 23 (sg_23 G h0 a _ _ _ _ _) rfl 0 (by decide) (hq _ pw_774) (fun _ h9 => h9) rfl dX8_declaration_34 ?_
      refine lv_iconst (v := 2) hx hb dX8_declaration_37 (by decide) ?_
      refine lv_aload_n hx hb dX8_declaration_38 rfl (lv_at hl 1 rfl) ?_
      refine c_get (v := .int (nI at9)) (C := RX8) (Tc := TX8) (N := 5) (ci := 5) hx hb hq pin_wsX80 hown hE hP hO 23 (sg_23 G h0 a _ _ _ _ _) rfl 2 (by decide) (hq _ pw_776) (fun _ h9 => h9) rfl dX8_declaration_39 ?_
      have hO : OKW G h0 a (upd (upd (upd F 2 (nI sz)) 9 (nI at9)) 2 (nI sz)) (updR R 1 (.ref pq)) Z B J K.1 (fun q99 x99 => x99 = rep G a K q99) w := hO.to rfl
      obtain ⟨_, qr338, hqr339⟩ := hO.2.1 2 _ (sg_2 G h0 a _ _ _ _ _)
      refine pn_V0 (G := G) (As := [.int 2, .int (nI at9)]) (rest := []) hx hb hml hown hq hE hX pX0_al hP hD hS hA hl.1 (K_fail l G h0 a (upd (upd F 2 (nI sz)) 9 (nI at9)) (updR R 1 (.ref pq)) Z B J K.1 (fun q99 x99 => x99 = rep G a K q99) w 2 (nI at9) sz (by omega) hO hl0) (gV pw_779 pw_65 pw_66 pw_59 pw_43) hV_X10_fail qr338 7 hqr339 rfl rfl rfl (Nat.le_of_ble_eq_true rfl) dX8_declaration_42 ⟨(by show 0 + 1 ≤ 6; omega), (by show 0 + 6 ≤ 31; omega)⟩ ⟨Nat.le_of_ble_eq_true rfl, Nat.le_of_ble_eq_true rfl⟩ (fun v337 u335 H locs hw336 hP hD hS => hw336.elim) (fun ux ce9 q9 H9 locs9 hux hP9 hD9 hS9 hce hcv hcl => pb_out ux (ThQ.up (Thx.same Thx.rfl rfl) RhX.rfl hux) hnt hlocks hce hcv hcl hP9 hD9 hS9 (by show 0 + 1 ≤ 6; omega) (by show 0 + 6 ≤ 31; omega))
  · have n340 : r6 = 0 := (nI_eq (a := r6) (b := 0) (by omega) (by omega)).mp c9
    refine lv_aload_n hx hb dX8_declaration_11 rfl (lv_at hl 1 rfl) ?_
    refine lv_iconst (v := 4) hx hb dX8_declaration_12 (by decide) ?_
    have hO : OKW G h0 a (upd (upd (upd (upd F 2 (nI sz)) 9 (nI at9)) 2 (nI sz)) 9 (nI at9)) (updR R 1 (.ref pq)) Z B J K.1 (fun q99 x99 => x99 = rep G a K q99) w := hO.to rfl
    obtain ⟨_, qr344, hqr345⟩ := hO.2.1 23 _ (sg_23 G h0 a _ _ _ _ _)
    refine pc_V0 (G := G) (As := [.int 4]) (rest := []) hx hb hml hown hq hE hX pX0_al hP hD hS hA hl.1 (P_seesT l G h0 a (upd (upd F 2 (nI sz)) 9 (nI at9)) (updR R 1 (.ref pq)) Z B J K.1 (fun q99 x99 => x99 = rep G a K q99) w 4 at9 sz (by omega) (by omega) (by decide) hO) (gV pw_803 pw_804 pw_805 pw_796 pw_775) hV_X8_sees qr344 5 hqr345 rfl rfl rfl (Nat.le_of_ble_eq_true rfl) dX8_declaration_13 ⟨(by show 0 + 0 ≤ 6; omega), (by show 0 + 0 ≤ 31; omega)⟩ ⟨Nat.le_of_ble_eq_true rfl, Nat.le_of_ble_eq_true rfl⟩ (fun v343 u341 H locs hw342 hP hD hS => ?_)
    obtain ⟨w, r346⟩ := u341
    obtain ⟨hw342, h347, h348, hO⟩ := hw342
    have h347 : r346 ≤ 1 := h347
    have h348 : at9 + r346 ≤ sz := h348
    obtain rfl : v343 = some (.int (nI r346)) := hw342
    have hO : OKP G h0 a (upd (upd F 2 (nI sz)) 9 (nI at9)) (updR R 1 (.ref pq)) Z B J K w := hO.to rfl
    refine W.widen (k := 0) (n := 0) (Nat.le_of_ble_eq_true rfl) (Nat.le_of_ble_eq_true rfl) ?_
    refine W.eq (g2 := F0 m 16 ls [.int (nI r346)]) rfl ?_
    refine lv_if_ne (tgt := 23) hx hb dX8_declaration_16 (by decide) (fun c349 => ?_) (fun c349 => ?_)
    · have n350 : ¬ (r346 = 0) := fun h9 => c349 ((nI_eq (a := r346) (b := 0) (by omega) (by omega)).mpr h9)
      refine lv_aload_n hx hb dX8_declaration_23 rfl (lv_at hl 1 rfl) ?_
      refine c_get (v := .ref pq) (C := RX8) (Tc := TX8) (N := 5) (ci := 5) hx hb hq pin_wsX80 hown hE hP hO 23 (sg_23 G h0 a _ _ _ _ _) rfl 1 (by decide) (hq _ pw_801) (fun _ h9 => h9) rfl dX8_declaration_24 ?_
      have hO : OKP G h0 a (upd (upd F 2 (nI sz)) 9 (nI at9)) (updR R 1 (.ref pq)) Z B J K w := hO.to rfl
      obtain ⟨qr354, hqr355⟩ := p_recv hO (by rw [hp1]; decide) (rep_7 hp1)
      refine pc_V0 (G := G) (As := []) (rest := []) hx hb hml hown hq hE hX pX0_al hP hD hS hA hl.1 (G_isFull l G h0 a (upd (upd F 2 (nI sz)) 9 (nI at9)) (updR R 1 (.ref pq)) Z B J K w pq dr ml nd g hps.1 hO) (gV pw_809 pw_810 pw_811 pw_106 pw_780) hV_X9_isFull qr354 6 hqr355 rfl rfl rfl (Nat.le_of_ble_eq_true rfl) dX8_declaration_27 ⟨(by show 0 + 0 ≤ 6; omega), (by show 0 + 0 ≤ 31; omega)⟩ ⟨Nat.le_of_ble_eq_true rfl, Nat.le_of_ble_eq_true rfl⟩ (fun v353 u351 H locs hw352 hP hD hS => ?_)
      obtain ⟨w, r356⟩ := u351
      obtain ⟨hw352, h357, h358, hO⟩ := hw352
      have h357 : r356 ≤ 1 := h357
      have h358 : nd + 1 ≤ 37 + r356 := h358
      obtain rfl : v353 = some (.int (nI r356)) := hw352
      have hO : OKP G h0 a (upd (upd F 2 (nI sz)) 9 (nI at9)) (updR R 1 (.ref pq)) Z B J K w := hO.to rfl
      refine W.widen (k := 0) (n := 0) (Nat.le_of_ble_eq_true rfl) (Nat.le_of_ble_eq_true rfl) ?_
      refine W.eq (g2 := F0 m 30 ls [.int (nI r356)]) rfl ?_
      refine lv_if_eq (tgt := 45) hx hb dX8_declaration_30 (by decide) (fun c359 => ?_) (fun c359 => ?_)
      · have n360 : r356 = 0 := (nI_eq (a := r356) (b := 0) (by omega) (by omega)).mp c359
        refine lv_aload_n hx hb dX8_declaration_45 rfl (lv_at hl 1 rfl) ?_
        refine lv_dup hx hb dX8_declaration_46 rfl ?_
        refine c_get (v := .int (nI at9)) (C := RX8) (Tc := TX8) (N := 5) (ci := 5) hx hb hq pin_wsX80 hown hE hP hO 23 (sg_23 G h0 a _ _ _ _ _) rfl 2 (by decide) (hq _ pw_776) (fun _ h9 => h9) rfl dX8_declaration_47 ?_
        refine lv_iconst (v := 1) hx hb dX8_declaration_50 (by decide) ?_
        refine lv_iadd hx hb dX8_declaration_51 ?_
        refine lv_topi (fun x361 e362 => ?_)
        obtain rfl : x361 = nI (at9 + 1) := e362.trans (nI_add (at9) (1))
        refine c_put (v := .int (nI (at9 + 1))) (ty := .int) (C := RX8) (Tc := TX8) (N := 5) (ci := 5) hx hb hq pin_wsX80 tyX8 tyX8_ok nmX8 hown hE hP hD hS hO 23 (sg_23 G h0 a _ _ _ _ _) rfl 2 (by decide) (hq _ pw_776) (fun _ h9 => h9) rfl (by decide +kernel) rfl rfl (Nat.le_of_ble_eq_true rfl) (sf_9 G h0 a _ _ _ _ _ (nI (at9 + 1))) dX8_declaration_52 (fun H locs w hP hD hS hO => ?_)
        refine lv_aload_n hx hb dX8_declaration_55 rfl (lv_at hl 1 rfl) ?_
        refine c_get (v := .ref pq) (C := RX8) (Tc := TX8) (N := 5) (ci := 5) hx hb hq pin_wsX80 hown hE hP hO 23 (sg_23 G h0 a _ _ _ _ _) rfl 1 (by decide) (hq _ pw_801) (fun _ h9 => h9) rfl dX8_declaration_56 ?_
        refine lv_aload_n hx hb dX8_declaration_59 rfl (lv_at hl 1 rfl) ?_
        refine lv_bipush (v := 65) hx hb dX8_declaration_60 (by decide) ?_
        have hO : OKW G h0 a (upd (upd (upd (upd (upd F 2 (nI sz)) 9 (nI at9)) 9 (nI (at9 + 1))) 2 (nI sz)) 9 (nI (at9 + 1))) (updR R 1 (.ref pq)) Z B J K.1 (fun q99 x99 => x99 = rep G a K q99) w := hO.to rfl
        obtain ⟨_, qr366, hqr367⟩ := hO.2.1 23 _ (sg_23 G h0 a _ _ _ _ _)
        refine pn_V0 (G := G) (As := [.int 65]) (rest := [.ref pq]) hx hb hml hown hq hE hX pX0_al hP hD hS hA hl.1 (P_take l G h0 a (upd (upd (upd F 2 (nI sz)) 9 (nI at9)) 9 (nI (at9 + 1))) (updR R 1 (.ref pq)) Z B J K.1 (fun q99 x99 => x99 = rep G a K q99) w 65 (at9 + 1) sz (by omega) (by omega) (by decide) hO hl0) (gV pw_793 pw_794 pw_795 pw_796 pw_781) hV_X8_take qr366 5 hqr367 rfl rfl rfl (Nat.le_of_ble_eq_true rfl) dX8_declaration_62 ⟨(by show 0 + 1 ≤ 6; omega), (by show 0 + 6 ≤ 31; omega)⟩ ⟨Nat.le_of_ble_eq_true rfl, Nat.le_of_ble_eq_true rfl⟩ (fun v365 u363 H locs hw364 hP hD hS => ?_) (fun ux ce9 q9 H9 locs9 hux hP9 hD9 hS9 hce hcv hcl => pb_out ux (ThQ.up (Thx.same (Thx.same (Thx.f Thx.rfl (by omega)) rfl) rfl) RhX.rfl hux) hnt hlocks hce hcv hcl hP9 hD9 hS9 (by show 0 + 1 ≤ 6; omega) (by show 0 + 6 ≤ 31; omega))
        obtain ⟨w, _⟩ := u363
        obtain ⟨hw364, h368, hO⟩ := hw364
        have h368 : (at9 + 1) + 1 ≤ sz := h368
        obtain rfl : v365 = some (.int (nI (at9 + 1))) := hw364
        have hO : OKP G h0 a (upd (upd F 2 (nI sz)) 9 (nI ((at9 + 1) + 1))) (updR R 1 (.ref pq)) Z B J K w := hO.to rfl
        refine W.widen (k := 0) (n := 0) (by show 0 + 0 ≤ 0; omega) (by show 0 + 0 ≤ 0; omega) ?_
        refine W.eq (g2 := F0 m 65 ls [.int (nI (at9 + 1)), .ref pq]) rfl ?_
        refine lv_iload_n hx hb dX8_declaration_65 rfl (lv_at hl 0 rfl) ?_
        have hO : OKP G h0 a (upd (upd (upd F 2 (nI sz)) 9 (nI ((at9 + 1) + 1))) 2 (nI sz)) (updR R 1 (.ref pq)) Z B J K w := hO.to rfl
        obtain ⟨qr372, hqr373⟩ := p_recv hO (by rw [hp1]; decide) (rep_7 hp1)
        refine pc_V0 (G := G) (As := [.int (nI (at9 + 1)), .int (nI r6)]) (rest := []) hx hb hml hown hq hE hX pX0_al hP hD hS hA hl.1 (G_addDecl l G h0 a (upd (upd F 2 (nI sz)) 9 (nI ((at9 + 1) + 1))) (updR R 1 (.ref pq)) Z B J K w pq dr ml nd nm cp it s9 (nI (at9 + 1)) r6 sz g (by omega) hwp hps (by omega) (by omega) hO) (gV pw_812 pw_813 pw_814 pw_106 pw_788) hV_X9_addDecl qr372 6 hqr373 rfl rfl rfl (Nat.le_of_ble_eq_true rfl) dX8_declaration_66 ⟨(by show 0 + 5 ≤ 6; omega), (by show 0 + 25 ≤ 31; omega)⟩ ⟨Nat.le_of_ble_eq_true rfl, Nat.le_of_ble_eq_true rfl⟩ (fun v371 u369 H locs hw370 hP hD hS => ?_)
        obtain ⟨w, r374, K375, g376⟩ := u369
        obtain ⟨hw370, h377, h378, h379, h380, hO⟩ := hw370
        have h377 : WPr G K375 g376 := h377
        have h378 : PgS G K375 g376 (a 1) pq dr ml (nd + 1) nm cp it s9 := h378
        have h379 : K375.1 r374 = 4 := h379
        have h380 : g376 5 r374 = 0 := h380
        obtain rfl : v371 = some (.ref r374) := hw370
        have hO : OKP G h0 a (upd (upd F 2 (nI sz)) 9 (nI ((at9 + 1) + 1))) (updR R 1 (.ref pq)) Z B J K375 w := hO.to rfl
        refine W.widen (k := 5) (n := 25) (by show 0 + 5 ≤ 5; omega) (by show 0 + 25 ≤ 25; omega) ?_
        refine W.eq (g2 := F0 m 69 ls [.ref r374]) rfl ?_
        refine lv_astore_n (lv' := [(2, .ref r374), (1, .int (nI r6)), (0, .ref (a 3))]) hx hb dX8_declaration_69 rfl hl (by decide) rfl (fun ls hl => ?_)
        refine lv_iload_n hx hb dX8_declaration_70 rfl (lv_at hl 1 rfl) ?_
        refine lv_if_ne (tgt := 93) hx hb dX8_declaration_71 (by decide) (fun c381 => ?_) (fun c381 => ?_)
        · have n382 : ¬ (r6 = 0) := fun h9 => c381 ((nI_eq (a := r6) (b := 0) (by omega) (by omega)).mpr h9)
          refine lv_aload_n hx hb dX8_declaration_93 rfl (lv_at hl 2 rfl) ?_
          refine lv_iload_n hx hb dX8_declaration_94 rfl (lv_at hl 1 rfl) ?_
          refine lv_if_eq (tgt := 103) hx hb dX8_declaration_95 (by decide) (fun c383 => ?_) (fun c383 => ?_)
          · have n384 : r6 = 0 := (nI_eq (a := r6) (b := 0) (by omega) (by omega)).mp c383
            refine lv_bipush (v := 12) hx hb dX8_declaration_103 (by decide) ?_
            have hO : OKW G h0 a (upd (upd (upd (upd F 2 (nI sz)) 9 (nI ((at9 + 1) + 1))) 2 (nI sz)) 9 (nI ((at9 + 1) + 1))) (updR R 1 (.ref pq)) Z B J K375.1 (fun q99 x99 => x99 = rep G a K375 q99) w := hO.to rfl
            obtain ⟨_, qr388, hqr389⟩ := hO.2.1 23 _ (sg_23 G h0 a _ _ _ _ _)
            refine pc_V0 (G := G) (As := [.int 12]) (rest := []) hx hb hml hown hq hE hX pX0_al hP hD hS hA hl.1 (P_takeIf l G h0 a (upd (upd F 2 (nI sz)) 9 (nI ((at9 + 1) + 1))) (updR R 1 (.ref pq)) Z B J K375.1 (fun q99 x99 => x99 = rep G a K375 q99) w 12 ((at9 + 1) + 1) sz (by omega) (by omega) (by decide) hO) (gV pw_797 pw_798 pw_799 pw_796 pw_789) hV_X8_takeIf qr388 5 hqr389 rfl rfl rfl (Nat.le_of_ble_eq_true rfl) dX8_declaration_105 ⟨(by show 5 + 0 ≤ 6; omega), (by show 25 + 0 ≤ 31; omega)⟩ ⟨Nat.le_of_ble_eq_true rfl, Nat.le_of_ble_eq_true rfl⟩ (fun v387 u385 H locs hw386 hP hD hS => ?_)
            obtain ⟨w, r390⟩ := u385
            obtain ⟨hw386, h391, h392, hO⟩ := hw386
            have h391 : r390 ≤ 1 := h391
            have h392 : ((at9 + 1) + 1) + r390 ≤ sz := h392
            obtain rfl : v387 = some (.int (nI r390)) := hw386
            have hO : OKP G h0 a (upd (upd F 2 (nI sz)) 9 (nI (((at9 + 1) + 1) + r390))) (updR R 1 (.ref pq)) Z B J K375 w := hO.to rfl
            refine W.widen (k := 5) (n := 25) (by show 5 + 0 ≤ 5; omega) (by show 25 + 0 ≤ 25; omega) ?_
            refine W.eq (g2 := F0 m 108 ls [.int (nI r390)]) rfl ?_
            refine lv_if_eq (tgt := 116) hx hb dX8_declaration_108 (by decide) (fun c393 => ?_) (fun c393 => ?_)
            · have n394 : r390 = 0 := (nI_eq (a := r390) (b := 0) (by omega) (by omega)).mp c393
              refine lv_aload_n hx hb dX8_declaration_116 rfl (lv_at hl 2 rfl) ?_
              refine lv_bipush (v := 32) hx hb dX8_declaration_117 (by decide) ?_
              have hO : OKW G h0 a (upd (upd (upd (upd (upd F 2 (nI sz)) 9 (nI at9)) 9 (nI (((at9 + 1) + 1) + r390))) 2 (nI sz)) 9 (nI (((at9 + 1) + 1) + r390))) (updR R 1 (.ref pq)) Z B J K375.1 (fun q99 x99 => x99 = rep G a K375 q99) w := hO.to rfl
              obtain ⟨_, qr398, hqr399⟩ := hO.2.1 23 _ (sg_23 G h0 a _ _ _ _ _)
              refine pn_V0 (G := G) (As := [.int 32]) (rest := []) hx hb hml hown hq hE hX pX0_al hP hD hS hA hl.1 (P_take l G h0 a (upd (upd (upd F 2 (nI sz)) 9 (nI at9)) 9 (nI (((at9 + 1) + 1) + r390))) (updR R 1 (.ref pq)) Z B J K375.1 (fun q99 x99 => x99 = rep G a K375 q99) w 32 (((at9 + 1) + 1) + r390) sz (by omega) (by omega) (by decide) hO hl0) (gV pw_793 pw_794 pw_795 pw_796 pw_781) hV_X8_take qr398 5 hqr399 rfl rfl rfl (Nat.le_of_ble_eq_true rfl) dX8_declaration_119 ⟨(by show 5 + 1 ≤ 6; omega), (by show 25 + 6 ≤ 31; omega)⟩ ⟨Nat.le_of_ble_eq_true rfl, Nat.le_of_ble_eq_true rfl⟩ (fun v397 u395 H locs hw396 hP hD hS => ?_) (fun ux ce9 q9 H9 locs9 hux hP9 hD9 hS9 hce hcv hcl => pb_out ux (ThQ.up (Thx.same (Thx.same (Thx.f Thx.rfl (by omega)) rfl) rfl) RhX.rfl hux) hnt hlocks hce hcv hcl hP9 hD9 hS9 (by show 5 + 1 ≤ 6; omega) (by show 25 + 6 ≤ 31; omega))
              obtain ⟨w, _⟩ := u395
              obtain ⟨hw396, h400, hO⟩ := hw396
              have h400 : (((at9 + 1) + 1) + r390) + 1 ≤ sz := h400
              obtain rfl : v397 = some (.int (nI (((at9 + 1) + 1) + r390))) := hw396
              have hO : OKP G h0 a (upd (upd F 2 (nI sz)) 9 (nI ((((at9 + 1) + 1) + r390) + 1))) (updR R 1 (.ref pq)) Z B J K375 w := hO.to rfl
              refine W.widen (k := 5) (n := 25) (by show 5 + 0 ≤ 5; omega) (by show 25 + 0 ≤ 25; omega) ?_
              refine W.eq (g2 := F0 m 122 ls [.int (nI (((at9 + 1) + 1) + r390))]) rfl ?_
              refine lv_pop hx hb dX8_declaration_122 rfl ?_
              refine lv_aload_n hx hb dX8_declaration_123 rfl (lv_at hl 0 rfl) ?_
              refine W_size (fun hz1 hz2 => ?_)
              refine vx_ret ?_
              have hz401 : WPr G K375 g376 := h377
              have hz402 : PgS G K375 g376 (a 1) pq dr ml (nd + 1) nm cp it s9 := h378
              have hz403 : K375.1 r374 = 4 := h379
              have hz404 : at9 + 3 ≤ ((((at9 + 1) + 1) + r390) + 1) ∧ ((((at9 + 1) + 1) + r390) + 1) ≤ sz := (by omega)
              have hO : OKP G h0 a (upd (upd F 2 (nI sz)) 9 (nI ((((at9 + 1) + 1) + r390) + 1))) (updR R 1 (.ref pq)) Z B J K375 w := hO.to rfl
              refine W.widen (k := 6) (n := 31) (by omega) (by omega) ?_
              have hzz1 : H.size ≤ s.heap.size + (5) := (by have z : 5 ≤ 5 := (by omega); omega)
              have hzz2 : hSl H ≤ hSl s.heap + (25) := (by have z : 25 ≤ 25 := (by omega); omega)
              exact W.aret (v := .ref r374) hx hb hr (Or.inl ⟨_, rfl⟩) (Or.inr ⟨_, rfl⟩) (fun t99 ht99 hW99 => ⟨⟨_, (w, (K375, g376, r374, ((((at9 + 1) + 1) + r390) + 1), (nd + 1))), rfl, ⟨rfl, hz401, hz402, hz403, hz404, hO⟩, by rw [ht99]; exact hP, hD, by rw [ht99]; exact hzz1, by rw [ht99]; exact hzz2⟩, hS.F ht99⟩) hS.2.2 dX8_declaration_124
            · have n405 : ¬ (r390 = 0) := fun h9 => c393 ((nI_eq (a := r390) (b := 0) (by omega) (by omega)).mpr h9)
              refine lv_aload_n hx hb dX8_declaration_111 rfl (lv_at hl 2 rfl) ?_
              refine lv_aload_n hx hb dX8_declaration_112 rfl (lv_at hl 0 rfl) ?_
              have hO : OKP G h0 a (upd (upd (upd (upd (upd F 2 (nI sz)) 9 (nI at9)) 9 (nI (((at9 + 1) + 1) + r390))) 2 (nI sz)) 9 (nI (((at9 + 1) + 1) + r390))) (updR (updR R 1 (.ref pq)) 1 (.ref pq)) Z B J K375 w := hO.to rfl
              obtain ⟨_, qr409, hqr410⟩ := hO.2.1 23 _ (sg_23 G h0 a _ _ _ _ _)
              refine pn_V0 (G := G) (As := [.ref r374]) (rest := []) hx hb hml hown hq hE hX pX0_al hP hD hS hA hl.1 (P_listI l G h0 a (upd (upd (upd F 2 (nI sz)) 9 (nI at9)) 9 (nI (((at9 + 1) + 1) + r390))) (updR R 1 (.ref pq)) Z B J K375 w pq dr ml (nd + 1) nm cp it s9 r374 (((at9 + 1) + 1) + r390) sz g376 (by omega) (by omega) h377 h378 h379 h380 hO hl0) (gV pw_815 pw_816 pw_817 pw_796 pw_800) hV_X8_listInterfaces qr409 5 hqr410 rfl rfl rfl (Nat.le_of_ble_eq_true rfl) dX8_declaration_113 ⟨(by show 5 + 1 ≤ 6; omega), (by show 25 + 6 ≤ 31; omega)⟩ ⟨Nat.le_of_ble_eq_true rfl, Nat.le_of_ble_eq_true rfl⟩ (fun v408 u406 H locs hw407 hP hD hS => ?_) (fun ux ce9 q9 H9 locs9 hux hP9 hD9 hS9 hce hcv hcl => pb_out ux (ThQ.up (Thx.same (Thx.same (Thx.f Thx.rfl (by omega)) rfl) rfl) (show RhX (updR R 1 (.ref pq)) (updR (updR R 1 (.ref pq)) 1 (.ref pq)) from fun k9 hk9 => by unfold updR; simp only [show ¬ k9 = 1 by omega, show ¬ k9 = 2 by omega, show ¬ k9 = 3 by omega, show ¬ k9 = 4 by omega, if_false]) hux) hnt hlocks hce hcv hcl hP9 hD9 hS9 (by show 5 + 1 ≤ 6; omega) (by show 25 + 6 ≤ 31; omega))
              obtain ⟨w, K411, g412, at413⟩ := u406
              obtain ⟨hw407, h414, h415, h416, h417, hO⟩ := hw407
              have h414 : WPr G K411 g412 := h414
              have h415 : PgS G K411 g412 (a 1) pq dr ml (nd + 1) nm cp it s9 := h415
              have h416 : K411.1 r374 = 4 := h416
              have h417 : (((at9 + 1) + 1) + r390) + 1 ≤ at413 ∧ at413 ≤ sz := h417
              obtain rfl : v408 = none := hw407
              have hO : OKP G h0 a (upd (upd F 2 (nI sz)) 9 (nI at413)) (updR R 1 (.ref pq)) Z B J K411 w := hO.to rfl
              refine W.widen (k := 5) (n := 25) (by show 5 + 0 ≤ 5; omega) (by show 25 + 0 ≤ 25; omega) ?_
              refine W.eq (g2 := F0 m 116 ls []) rfl ?_
              refine lv_aload_n hx hb dX8_declaration_116 rfl (lv_at hl 2 rfl) ?_
              refine lv_bipush (v := 32) hx hb dX8_declaration_117 (by decide) ?_
              have hO : OKW G h0 a (upd (upd (upd (upd (upd F 2 (nI sz)) 9 (nI at9)) 9 (nI at413)) 2 (nI sz)) 9 (nI at413)) (updR R 1 (.ref pq)) Z B J K411.1 (fun q99 x99 => x99 = rep G a K411 q99) w := hO.to rfl
              obtain ⟨_, qr421, hqr422⟩ := hO.2.1 23 _ (sg_23 G h0 a _ _ _ _ _)
              refine pn_V0 (G := G) (As := [.int 32]) (rest := []) hx hb hml hown hq hE hX pX0_al hP hD hS hA hl.1 (P_take l G h0 a (upd (upd (upd F 2 (nI sz)) 9 (nI at9)) 9 (nI at413)) (updR R 1 (.ref pq)) Z B J K411.1 (fun q99 x99 => x99 = rep G a K411 q99) w 32 at413 sz (by omega) (by omega) (by decide) hO hl0) (gV pw_793 pw_794 pw_795 pw_796 pw_781) hV_X8_take qr421 5 hqr422 rfl rfl rfl (Nat.le_of_ble_eq_true rfl) dX8_declaration_119 ⟨(by show 5 + 1 ≤ 6; omega), (by show 25 + 6 ≤ 31; omega)⟩ ⟨Nat.le_of_ble_eq_true rfl, Nat.le_of_ble_eq_true rfl⟩ (fun v420 u418 H locs hw419 hP hD hS => ?_) (fun ux ce9 q9 H9 locs9 hux hP9 hD9 hS9 hce hcv hcl => pb_out ux (ThQ.up (Thx.same (Thx.same (Thx.f Thx.rfl (by omega)) rfl) rfl) RhX.rfl hux) hnt hlocks hce hcv hcl hP9 hD9 hS9 (by show 5 + 1 ≤ 6; omega) (by show 25 + 6 ≤ 31; omega))
              obtain ⟨w, _⟩ := u418
              obtain ⟨hw419, h423, hO⟩ := hw419
              have h423 : at413 + 1 ≤ sz := h423
              obtain rfl : v420 = some (.int (nI at413)) := hw419
              have hO : OKP G h0 a (upd (upd F 2 (nI sz)) 9 (nI (at413 + 1))) (updR R 1 (.ref pq)) Z B J K411 w := hO.to rfl
              refine W.widen (k := 5) (n := 25) (by show 5 + 0 ≤ 5; omega) (by show 25 + 0 ≤ 25; omega) ?_
              refine W.eq (g2 := F0 m 122 ls [.int (nI at413)]) rfl ?_
              refine lv_pop hx hb dX8_declaration_122 rfl ?_
              refine lv_aload_n hx hb dX8_declaration_123 rfl (lv_at hl 0 rfl) ?_
              refine W_size (fun hz1 hz2 => ?_)
              refine vx_ret ?_
              have hz424 : WPr G K411 g412 := h414
              have hz425 : PgS G K411 g412 (a 1) pq dr ml (nd + 1) nm cp it s9 := h415
              have hz426 : K411.1 r374 = 4 := h416
              have hz427 : at9 + 3 ≤ (at413 + 1) ∧ (at413 + 1) ≤ sz := (by omega)
              have hO : OKP G h0 a (upd (upd F 2 (nI sz)) 9 (nI (at413 + 1))) (updR R 1 (.ref pq)) Z B J K411 w := hO.to rfl
              refine W.widen (k := 6) (n := 31) (by omega) (by omega) ?_
              have hzz1 : H.size ≤ s.heap.size + (5) := (by have z : 5 ≤ 5 := (by omega); omega)
              have hzz2 : hSl H ≤ hSl s.heap + (25) := (by have z : 25 ≤ 25 := (by omega); omega)
              exact W.aret (v := .ref r374) hx hb hr (Or.inl ⟨_, rfl⟩) (Or.inr ⟨_, rfl⟩) (fun t99 ht99 hW99 => ⟨⟨_, (w, (K411, g412, r374, (at413 + 1), (nd + 1))), rfl, ⟨rfl, hz424, hz425, hz426, hz427, hO⟩, by rw [ht99]; exact hP, hD, by rw [ht99]; exact hzz1, by rw [ht99]; exact hzz2⟩, hS.F ht99⟩) hS.2.2 dX8_declaration_124
          · have n428 : ¬ (r6 = 0) := fun h9 => c383 ((nI_eq (a := r6) (b := 0) (by omega) (by omega)).mpr h9)
            refine lv_bipush (v := 7) hx hb dX8_declaration_98 (by decide) ?_
            refine lv_goto (tgt := 105) hx hb dX8_declaration_100 (by decide) ?_
            have hO : OKW G h0 a (upd (upd (upd (upd F 2 (nI sz)) 9 (nI ((at9 + 1) + 1))) 2 (nI sz)) 9 (nI ((at9 + 1) + 1))) (updR R 1 (.ref pq)) Z B J K375.1 (fun q99 x99 => x99 = rep G a K375 q99) w := hO.to rfl
            obtain ⟨_, qr432, hqr433⟩ := hO.2.1 23 _ (sg_23 G h0 a _ _ _ _ _)
            refine pc_V0 (G := G) (As := [.int 7]) (rest := []) hx hb hml hown hq hE hX pX0_al hP hD hS hA hl.1 (P_takeIf l G h0 a (upd (upd F 2 (nI sz)) 9 (nI ((at9 + 1) + 1))) (updR R 1 (.ref pq)) Z B J K375.1 (fun q99 x99 => x99 = rep G a K375 q99) w 7 ((at9 + 1) + 1) sz (by omega) (by omega) (by decide) hO) (gV pw_797 pw_798 pw_799 pw_796 pw_789) hV_X8_takeIf qr432 5 hqr433 rfl rfl rfl (Nat.le_of_ble_eq_true rfl) dX8_declaration_105 ⟨(by show 5 + 0 ≤ 6; omega), (by show 25 + 0 ≤ 31; omega)⟩ ⟨Nat.le_of_ble_eq_true rfl, Nat.le_of_ble_eq_true rfl⟩ (fun v431 u429 H locs hw430 hP hD hS => ?_)
            obtain ⟨w, r434⟩ := u429
            obtain ⟨hw430, h435, h436, hO⟩ := hw430
            have h435 : r434 ≤ 1 := h435
            have h436 : ((at9 + 1) + 1) + r434 ≤ sz := h436
            obtain rfl : v431 = some (.int (nI r434)) := hw430
            have hO : OKP G h0 a (upd (upd F 2 (nI sz)) 9 (nI (((at9 + 1) + 1) + r434))) (updR R 1 (.ref pq)) Z B J K375 w := hO.to rfl
            refine W.widen (k := 5) (n := 25) (by show 5 + 0 ≤ 5; omega) (by show 25 + 0 ≤ 25; omega) ?_
            refine W.eq (g2 := F0 m 108 ls [.int (nI r434)]) rfl ?_
            refine lv_if_eq (tgt := 116) hx hb dX8_declaration_108 (by decide) (fun c437 => ?_) (fun c437 => ?_)
            · have n438 : r434 = 0 := (nI_eq (a := r434) (b := 0) (by omega) (by omega)).mp c437
              refine lv_aload_n hx hb dX8_declaration_116 rfl (lv_at hl 2 rfl) ?_
              refine lv_bipush (v := 32) hx hb dX8_declaration_117 (by decide) ?_
              have hO : OKW G h0 a (upd (upd (upd (upd (upd F 2 (nI sz)) 9 (nI at9)) 9 (nI (((at9 + 1) + 1) + r434))) 2 (nI sz)) 9 (nI (((at9 + 1) + 1) + r434))) (updR R 1 (.ref pq)) Z B J K375.1 (fun q99 x99 => x99 = rep G a K375 q99) w := hO.to rfl
              obtain ⟨_, qr442, hqr443⟩ := hO.2.1 23 _ (sg_23 G h0 a _ _ _ _ _)
              refine pn_V0 (G := G) (As := [.int 32]) (rest := []) hx hb hml hown hq hE hX pX0_al hP hD hS hA hl.1 (P_take l G h0 a (upd (upd (upd F 2 (nI sz)) 9 (nI at9)) 9 (nI (((at9 + 1) + 1) + r434))) (updR R 1 (.ref pq)) Z B J K375.1 (fun q99 x99 => x99 = rep G a K375 q99) w 32 (((at9 + 1) + 1) + r434) sz (by omega) (by omega) (by decide) hO hl0) (gV pw_793 pw_794 pw_795 pw_796 pw_781) hV_X8_take qr442 5 hqr443 rfl rfl rfl (Nat.le_of_ble_eq_true rfl) dX8_declaration_119 ⟨(by show 5 + 1 ≤ 6; omega), (by show 25 + 6 ≤ 31; omega)⟩ ⟨Nat.le_of_ble_eq_true rfl, Nat.le_of_ble_eq_true rfl⟩ (fun v441 u439 H locs hw440 hP hD hS => ?_) (fun ux ce9 q9 H9 locs9 hux hP9 hD9 hS9 hce hcv hcl => pb_out ux (ThQ.up (Thx.same (Thx.same (Thx.f Thx.rfl (by omega)) rfl) rfl) RhX.rfl hux) hnt hlocks hce hcv hcl hP9 hD9 hS9 (by show 5 + 1 ≤ 6; omega) (by show 25 + 6 ≤ 31; omega))
              obtain ⟨w, _⟩ := u439
              obtain ⟨hw440, h444, hO⟩ := hw440
              have h444 : (((at9 + 1) + 1) + r434) + 1 ≤ sz := h444
              obtain rfl : v441 = some (.int (nI (((at9 + 1) + 1) + r434))) := hw440
              have hO : OKP G h0 a (upd (upd F 2 (nI sz)) 9 (nI ((((at9 + 1) + 1) + r434) + 1))) (updR R 1 (.ref pq)) Z B J K375 w := hO.to rfl
              refine W.widen (k := 5) (n := 25) (by show 5 + 0 ≤ 5; omega) (by show 25 + 0 ≤ 25; omega) ?_
              refine W.eq (g2 := F0 m 122 ls [.int (nI (((at9 + 1) + 1) + r434))]) rfl ?_
              refine lv_pop hx hb dX8_declaration_122 rfl ?_
              refine lv_aload_n hx hb dX8_declaration_123 rfl (lv_at hl 0 rfl) ?_
              refine W_size (fun hz1 hz2 => ?_)
              refine vx_ret ?_
              have hz445 : WPr G K375 g376 := h377
              have hz446 : PgS G K375 g376 (a 1) pq dr ml (nd + 1) nm cp it s9 := h378
              have hz447 : K375.1 r374 = 4 := h379
              have hz448 : at9 + 3 ≤ ((((at9 + 1) + 1) + r434) + 1) ∧ ((((at9 + 1) + 1) + r434) + 1) ≤ sz := (by omega)
              have hO : OKP G h0 a (upd (upd F 2 (nI sz)) 9 (nI ((((at9 + 1) + 1) + r434) + 1))) (updR R 1 (.ref pq)) Z B J K375 w := hO.to rfl
              refine W.widen (k := 6) (n := 31) (by omega) (by omega) ?_
              have hzz1 : H.size ≤ s.heap.size + (5) := (by have z : 5 ≤ 5 := (by omega); omega)
              have hzz2 : hSl H ≤ hSl s.heap + (25) := (by have z : 25 ≤ 25 := (by omega); omega)
              exact W.aret (v := .ref r374) hx hb hr (Or.inl ⟨_, rfl⟩) (Or.inr ⟨_, rfl⟩) (fun t99 ht99 hW99 => ⟨⟨_, (w, (K375, g376, r374, ((((at9 + 1) + 1) + r434) + 1), (nd + 1))), rfl, ⟨rfl, hz445, hz446, hz447, hz448, hO⟩, by rw [ht99]; exact hP, hD, by rw [ht99]; exact hzz1, by rw [ht99]; exact hzz2⟩, hS.F ht99⟩) hS.2.2 dX8_declaration_124
            · have n449 : ¬ (r434 = 0) := fun h9 => c437 ((nI_eq (a := r434) (b := 0) (by omega) (by omega)).mpr h9)
              refine lv_aload_n hx hb dX8_declaration_111 rfl (lv_at hl 2 rfl) ?_
              refine lv_aload_n hx hb dX8_declaration_112 rfl (lv_at hl 0 rfl) ?_
              have hO : OKP G h0 a (upd (upd (upd (upd (upd F 2 (nI sz)) 9 (nI at9)) 9 (nI (((at9 + 1) + 1) + r434))) 2 (nI sz)) 9 (nI (((at9 + 1) + 1) + r434))) (updR (updR R 1 (.ref pq)) 1 (.ref pq)) Z B J K375 w := hO.to rfl
              obtain ⟨_, qr453, hqr454⟩ := hO.2.1 23 _ (sg_23 G h0 a _ _ _ _ _)
              refine pn_V0 (G := G) (As := [.ref r374]) (rest := []) hx hb hml hown hq hE hX pX0_al hP hD hS hA hl.1 (P_listI l G h0 a (upd (upd (upd F 2 (nI sz)) 9 (nI at9)) 9 (nI (((at9 + 1) + 1) + r434))) (updR R 1 (.ref pq)) Z B J K375 w pq dr ml (nd + 1) nm cp it s9 r374 (((at9 + 1) + 1) + r434) sz g376 (by omega) (by omega) h377 h378 h379 h380 hO hl0) (gV pw_815 pw_816 pw_817 pw_796 pw_800) hV_X8_listInterfaces qr453 5 hqr454 rfl rfl rfl (Nat.le_of_ble_eq_true rfl) dX8_declaration_113 ⟨(by show 5 + 1 ≤ 6; omega), (by show 25 + 6 ≤ 31; omega)⟩ ⟨Nat.le_of_ble_eq_true rfl, Nat.le_of_ble_eq_true rfl⟩ (fun v452 u450 H locs hw451 hP hD hS => ?_) (fun ux ce9 q9 H9 locs9 hux hP9 hD9 hS9 hce hcv hcl => pb_out ux (ThQ.up (Thx.same (Thx.same (Thx.f Thx.rfl (by omega)) rfl) rfl) (show RhX (updR R 1 (.ref pq)) (updR (updR R 1 (.ref pq)) 1 (.ref pq)) from fun k9 hk9 => by unfold updR; simp only [show ¬ k9 = 1 by omega, show ¬ k9 = 2 by omega, show ¬ k9 = 3 by omega, show ¬ k9 = 4 by omega, if_false]) hux) hnt hlocks hce hcv hcl hP9 hD9 hS9 (by show 5 + 1 ≤ 6; omega) (by show 25 + 6 ≤ 31; omega))
              obtain ⟨w, K455, g456, at457⟩ := u450
              obtain ⟨hw451, h458, h459, h460, h461, hO⟩ := hw451
              have h458 : WPr G K455 g456 := h458
              have h459 : PgS G K455 g456 (a 1) pq dr ml (nd + 1) nm cp it s9 := h459
              have h460 : K455.1 r374 = 4 := h460
              have h461 : (((at9 + 1) + 1) + r434) + 1 ≤ at457 ∧ at457 ≤ sz := h461
              obtain rfl : v452 = none := hw451
              have hO : OKP G h0 a (upd (upd F 2 (nI sz)) 9 (nI at457)) (updR R 1 (.ref pq)) Z B J K455 w := hO.to rfl
              refine W.widen (k := 5) (n := 25) (by show 5 + 0 ≤ 5; omega) (by show 25 + 0 ≤ 25; omega) ?_
              refine W.eq (g2 := F0 m 116 ls []) rfl ?_
              refine lv_aload_n hx hb dX8_declaration_116 rfl (lv_at hl 2 rfl) ?_
              refine lv_bipush (v := 32) hx hb dX8_declaration_117 (by decide) ?_
              have hO : OKW G h0 a (upd (upd (upd (upd (upd F 2 (nI sz)) 9 (nI at9)) 9 (nI at457)) 2 (nI sz)) 9 (nI at457)) (updR R 1 (.ref pq)) Z B J K455.1 (fun q99 x99 => x99 = rep G a K455 q99) w := hO.to rfl
              obtain ⟨_, qr465, hqr466⟩ := hO.2.1 23 _ (sg_23 G h0 a _ _ _ _ _)
              refine pn_V0 (G := G) (As := [.int 32]) (rest := []) hx hb hml hown hq hE hX pX0_al hP hD hS hA hl.1 (P_take l G h0 a (upd (upd (upd F 2 (nI sz)) 9 (nI at9)) 9 (nI at457)) (updR R 1 (.ref pq)) Z B J K455.1 (fun q99 x99 => x99 = rep G a K455 q99) w 32 at457 sz (by omega) (by omega) (by decide) hO hl0) (gV pw_793 pw_794 pw_795 pw_796 pw_781) hV_X8_take qr465 5 hqr466 rfl rfl rfl (Nat.le_of_ble_eq_true rfl) dX8_declaration_119 ⟨(by show 5 + 1 ≤ 6; omega), (by show 25 + 6 ≤ 31; omega)⟩ ⟨Nat.le_of_ble_eq_true rfl, Nat.le_of_ble_eq_true rfl⟩ (fun v464 u462 H locs hw463 hP hD hS => ?_) (fun ux ce9 q9 H9 locs9 hux hP9 hD9 hS9 hce hcv hcl => pb_out ux (ThQ.up (Thx.same (Thx.same (Thx.f Thx.rfl (by omega)) rfl) rfl) RhX.rfl hux) hnt hlocks hce hcv hcl hP9 hD9 hS9 (by show 5 + 1 ≤ 6; omega) (by show 25 + 6 ≤ 31; omega))
              obtain ⟨w, _⟩ := u462
              obtain ⟨hw463, h467, hO⟩ := hw463
              have h467 : at457 + 1 ≤ sz := h467
              obtain rfl : v464 = some (.int (nI at457)) := hw463
              have hO : OKP G h0 a (upd (upd F 2 (nI sz)) 9 (nI (at457 + 1))) (updR R 1 (.ref pq)) Z B J K455 w := hO.to rfl
              refine W.widen (k := 5) (n := 25) (by show 5 + 0 ≤ 5; omega) (by show 25 + 0 ≤ 25; omega) ?_
              refine W.eq (g2 := F0 m 122 ls [.int (nI at457)]) rfl ?_
              refine lv_pop hx hb dX8_declaration_122 rfl ?_
              refine lv_aload_n hx hb dX8_declaration_123 rfl (lv_at hl 0 rfl) ?_
              refine W_size (fun hz1 hz2 => ?_)
              refine vx_ret ?_
              have hz468 : WPr G K455 g456 := h458
              have hz469 : PgS G K455 g456 (a 1) pq dr ml (nd + 1) nm cp it s9 := h459
              have hz470 : K455.1 r374 = 4 := h460
              have hz471 : at9 + 3 ≤ (at457 + 1) ∧ (at457 + 1) ≤ sz := (by omega)
              have hO : OKP G h0 a (upd (upd F 2 (nI sz)) 9 (nI (at457 + 1))) (updR R 1 (.ref pq)) Z B J K455 w := hO.to rfl
              refine W.widen (k := 6) (n := 31) (by omega) (by omega) ?_
              have hzz1 : H.size ≤ s.heap.size + (5) := (by have z : 5 ≤ 5 := (by omega); omega)
              have hzz2 : hSl H ≤ hSl s.heap + (25) := (by have z : 25 ≤ 25 := (by omega); omega)
              exact W.aret (v := .ref r374) hx hb hr (Or.inl ⟨_, rfl⟩) (Or.inr ⟨_, rfl⟩) (fun t99 ht99 hW99 => ⟨⟨_, (w, (K455, g456, r374, (at457 + 1), (nd + 1))), rfl, ⟨rfl, hz468, hz469, hz470, hz471, hO⟩, by rw [ht99]; exact hP, hD, by rw [ht99]; exact hzz1, by rw [ht99]; exact hzz2⟩, hS.F ht99⟩) hS.2.2 dX8_declaration_124
        · have n472 : r6 = 0 := (nI_eq (a := r6) (b := 0) (by omega) (by omega)).mp c381
          refine lv_aload_n hx hb dX8_declaration_74 rfl (lv_at hl 2 rfl) ?_
          refine lv_bipush (v := 7) hx hb dX8_declaration_75 (by decide) ?_
          have hO : OKW G h0 a (upd (upd (upd (upd F 2 (nI sz)) 9 (nI ((at9 + 1) + 1))) 2 (nI sz)) 9 (nI ((at9 + 1) + 1))) (updR R 1 (.ref pq)) Z B J K375.1 (fun q99 x99 => x99 = rep G a K375 q99) w := hO.to rfl
          obtain ⟨_, qr476, hqr477⟩ := hO.2.1 23 _ (sg_23 G h0 a _ _ _ _ _)
          refine pc_V0 (G := G) (As := [.int 7]) (rest := []) hx hb hml hown hq hE hX pX0_al hP hD hS hA hl.1 (P_takeIf l G h0 a (upd (upd F 2 (nI sz)) 9 (nI ((at9 + 1) + 1))) (updR R 1 (.ref pq)) Z B J K375.1 (fun q99 x99 => x99 = rep G a K375 q99) w 7 ((at9 + 1) + 1) sz (by omega) (by omega) (by decide) hO) (gV pw_797 pw_798 pw_799 pw_796 pw_789) hV_X8_takeIf qr476 5 hqr477 rfl rfl rfl (Nat.le_of_ble_eq_true rfl) dX8_declaration_77 ⟨(by show 5 + 0 ≤ 6; omega), (by show 25 + 0 ≤ 31; omega)⟩ ⟨Nat.le_of_ble_eq_true rfl, Nat.le_of_ble_eq_true rfl⟩ (fun v475 u473 H locs hw474 hP hD hS => ?_)
          obtain ⟨w, r478⟩ := u473
          obtain ⟨hw474, h479, h480, hO⟩ := hw474
          have h479 : r478 ≤ 1 := h479
          have h480 : ((at9 + 1) + 1) + r478 ≤ sz := h480
          obtain rfl : v475 = some (.int (nI r478)) := hw474
          have hO : OKP G h0 a (upd (upd F 2 (nI sz)) 9 (nI (((at9 + 1) + 1) + r478))) (updR R 1 (.ref pq)) Z B J K375 w := hO.to rfl
          refine W.widen (k := 5) (n := 25) (by show 5 + 0 ≤ 5; omega) (by show 25 + 0 ≤ 25; omega) ?_
          refine W.eq (g2 := F0 m 80 ls [.int (nI r478)]) rfl ?_
          refine lv_if_eq (tgt := 93) hx hb dX8_declaration_80 (by decide) (fun c481 => ?_) (fun c481 => ?_)
          · have n482 : r478 = 0 := (nI_eq (a := r478) (b := 0) (by omega) (by omega)).mp c481
            refine lv_aload_n hx hb dX8_declaration_93 rfl (lv_at hl 2 rfl) ?_
            refine lv_iload_n hx hb dX8_declaration_94 rfl (lv_at hl 1 rfl) ?_
            refine lv_if_eq (tgt := 103) hx hb dX8_declaration_95 (by decide) (fun c483 => ?_) (fun c483 => ?_)
            · have n484 : r6 = 0 := (nI_eq (a := r6) (b := 0) (by omega) (by omega)).mp c483
              refine lv_bipush (v := 12) hx hb dX8_declaration_103 (by decide) ?_
              have hO : OKW G h0 a (upd (upd (upd (upd F 2 (nI sz)) 9 (nI (((at9 + 1) + 1) + r478))) 2 (nI sz)) 9 (nI (((at9 + 1) + 1) + r478))) (updR R 1 (.ref pq)) Z B J K375.1 (fun q99 x99 => x99 = rep G a K375 q99) w := hO.to rfl
              obtain ⟨_, qr488, hqr489⟩ := hO.2.1 23 _ (sg_23 G h0 a _ _ _ _ _)
              refine pc_V0 (G := G) (As := [.int 12]) (rest := []) hx hb hml hown hq hE hX pX0_al hP hD hS hA hl.1 (P_takeIf l G h0 a (upd (upd F 2 (nI sz)) 9 (nI (((at9 + 1) + 1) + r478))) (updR R 1 (.ref pq)) Z B J K375.1 (fun q99 x99 => x99 = rep G a K375 q99) w 12 (((at9 + 1) + 1) + r478) sz (by omega) (by omega) (by decide) hO) (gV pw_797 pw_798 pw_799 pw_796 pw_789) hV_X8_takeIf qr488 5 hqr489 rfl rfl rfl (Nat.le_of_ble_eq_true rfl) dX8_declaration_105 ⟨(by show 5 + 0 ≤ 6; omega), (by show 25 + 0 ≤ 31; omega)⟩ ⟨Nat.le_of_ble_eq_true rfl, Nat.le_of_ble_eq_true rfl⟩ (fun v487 u485 H locs hw486 hP hD hS => ?_)
              obtain ⟨w, r490⟩ := u485
              obtain ⟨hw486, h491, h492, hO⟩ := hw486
              have h491 : r490 ≤ 1 := h491
              have h492 : (((at9 + 1) + 1) + r478) + r490 ≤ sz := h492
              obtain rfl : v487 = some (.int (nI r490)) := hw486
              have hO : OKP G h0 a (upd (upd F 2 (nI sz)) 9 (nI ((((at9 + 1) + 1) + r478) + r490))) (updR R 1 (.ref pq)) Z B J K375 w := hO.to rfl
              refine W.widen (k := 5) (n := 25) (by show 5 + 0 ≤ 5; omega) (by show 25 + 0 ≤ 25; omega) ?_
              refine W.eq (g2 := F0 m 108 ls [.int (nI r490)]) rfl ?_
              refine lv_if_eq (tgt := 116) hx hb dX8_declaration_108 (by decide) (fun c493 => ?_) (fun c493 => ?_)
              · have n494 : r490 = 0 := (nI_eq (a := r490) (b := 0) (by omega) (by omega)).mp c493
                refine lv_aload_n hx hb dX8_declaration_116 rfl (lv_at hl 2 rfl) ?_
                refine lv_bipush (v := 32) hx hb dX8_declaration_117 (by decide) ?_
                have hO : OKW G h0 a (upd (upd (upd (upd (upd F 2 (nI sz)) 9 (nI at9)) 9 (nI ((((at9 + 1) + 1) + r478) + r490))) 2 (nI sz)) 9 (nI ((((at9 + 1) + 1) + r478) + r490))) (updR R 1 (.ref pq)) Z B J K375.1 (fun q99 x99 => x99 = rep G a K375 q99) w := hO.to rfl
                obtain ⟨_, qr498, hqr499⟩ := hO.2.1 23 _ (sg_23 G h0 a _ _ _ _ _)
                refine pn_V0 (G := G) (As := [.int 32]) (rest := []) hx hb hml hown hq hE hX pX0_al hP hD hS hA hl.1 (P_take l G h0 a (upd (upd (upd F 2 (nI sz)) 9 (nI at9)) 9 (nI ((((at9 + 1) + 1) + r478) + r490))) (updR R 1 (.ref pq)) Z B J K375.1 (fun q99 x99 => x99 = rep G a K375 q99) w 32 ((((at9 + 1) + 1) + r478) + r490) sz (by omega) (by omega) (by decide) hO hl0) (gV pw_793 pw_794 pw_795 pw_796 pw_781) hV_X8_take qr498 5 hqr499 rfl rfl rfl (Nat.le_of_ble_eq_true rfl) dX8_declaration_119 ⟨(by show 5 + 1 ≤ 6; omega), (by show 25 + 6 ≤ 31; omega)⟩ ⟨Nat.le_of_ble_eq_true rfl, Nat.le_of_ble_eq_true rfl⟩ (fun v497 u495 H locs hw496 hP hD hS => ?_) (fun ux ce9 q9 H9 locs9 hux hP9 hD9 hS9 hce hcv hcl => pb_out ux (ThQ.up (Thx.same (Thx.same (Thx.f Thx.rfl (by omega)) rfl) rfl) RhX.rfl hux) hnt hlocks hce hcv hcl hP9 hD9 hS9 (by show 5 + 1 ≤ 6; omega) (by show 25 + 6 ≤ 31; omega))
                obtain ⟨w, _⟩ := u495
                obtain ⟨hw496, h500, hO⟩ := hw496
                have h500 : ((((at9 + 1) + 1) + r478) + r490) + 1 ≤ sz := h500
                obtain rfl : v497 = some (.int (nI ((((at9 + 1) + 1) + r478) + r490))) := hw496
                have hO : OKP G h0 a (upd (upd F 2 (nI sz)) 9 (nI (((((at9 + 1) + 1) + r478) + r490) + 1))) (updR R 1 (.ref pq)) Z B J K375 w := hO.to rfl
                refine W.widen (k := 5) (n := 25) (by show 5 + 0 ≤ 5; omega) (by show 25 + 0 ≤ 25; omega) ?_
                refine W.eq (g2 := F0 m 122 ls [.int (nI ((((at9 + 1) + 1) + r478) + r490))]) rfl ?_
                refine lv_pop hx hb dX8_declaration_122 rfl ?_
                refine lv_aload_n hx hb dX8_declaration_123 rfl (lv_at hl 0 rfl) ?_
                refine W_size (fun hz1 hz2 => ?_)
                refine vx_ret ?_
                have hz501 : WPr G K375 g376 := h377
                have hz502 : PgS G K375 g376 (a 1) pq dr ml (nd + 1) nm cp it s9 := h378
                have hz503 : K375.1 r374 = 4 := h379
                have hz504 : at9 + 3 ≤ (((((at9 + 1) + 1) + r478) + r490) + 1) ∧ (((((at9 + 1) + 1) + r478) + r490) + 1) ≤ sz := (by omega)
                have hO : OKP G h0 a (upd (upd F 2 (nI sz)) 9 (nI (((((at9 + 1) + 1) + r478) + r490) + 1))) (updR R 1 (.ref pq)) Z B J K375 w := hO.to rfl
                refine W.widen (k := 6) (n := 31) (by omega) (by omega) ?_
                have hzz1 : H.size ≤ s.heap.size + (5) := (by have z : 5 ≤ 5 := (by omega); omega)
                have hzz2 : hSl H ≤ hSl s.heap + (25) := (by have z : 25 ≤ 25 := (by omega); omega)
                exact W.aret (v := .ref r374) hx hb hr (Or.inl ⟨_, rfl⟩) (Or.inr ⟨_, rfl⟩) (fun t99 ht99 hW99 => ⟨⟨_, (w, (K375, g376, r374, (((((at9 + 1) + 1) + r478) + r490) + 1), (nd + 1))), rfl, ⟨rfl, hz501, hz502, hz503, hz504, hO⟩, by rw [ht99]; exact hP, hD, by rw [ht99]; exact hzz1, by rw [ht99]; exact hzz2⟩, hS.F ht99⟩) hS.2.2 dX8_declaration_124
              · have n505 : ¬ (r490 = 0) := fun h9 => c493 ((nI_eq (a := r490) (b := 0) (by omega) (by omega)).mpr h9)
                refine lv_aload_n hx hb dX8_declaration_111 rfl (lv_at hl 2 rfl) ?_
                refine lv_aload_n hx hb dX8_declaration_112 rfl (lv_at hl 0 rfl) ?_
                have hO : OKP G h0 a (upd (upd (upd (upd (upd F 2 (nI sz)) 9 (nI at9)) 9 (nI ((((at9 + 1) + 1) + r478) + r490))) 2 (nI sz)) 9 (nI ((((at9 + 1) + 1) + r478) + r490))) (updR (updR R 1 (.ref pq)) 1 (.ref pq)) Z B J K375 w := hO.to rfl
                obtain ⟨_, qr509, hqr510⟩ := hO.2.1 23 _ (sg_23 G h0 a _ _ _ _ _)
                refine pn_V0 (G := G) (As := [.ref r374]) (rest := []) hx hb hml hown hq hE hX pX0_al hP hD hS hA hl.1 (P_listI l G h0 a (upd (upd (upd F 2 (nI sz)) 9 (nI at9)) 9 (nI ((((at9 + 1) + 1) + r478) + r490))) (updR R 1 (.ref pq)) Z B J K375 w pq dr ml (nd + 1) nm cp it s9 r374 ((((at9 + 1) + 1) + r478) + r490) sz g376 (by omega) (by omega) h377 h378 h379 h380 hO hl0) (gV pw_815 pw_816 pw_817 pw_796 pw_800) hV_X8_listInterfaces qr509 5 hqr510 rfl rfl rfl (Nat.le_of_ble_eq_true rfl) dX8_declaration_113 ⟨(by show 5 + 1 ≤ 6; omega), (by show 25 + 6 ≤ 31; omega)⟩ ⟨Nat.le_of_ble_eq_true rfl, Nat.le_of_ble_eq_true rfl⟩ (fun v508 u506 H locs hw507 hP hD hS => ?_) (fun ux ce9 q9 H9 locs9 hux hP9 hD9 hS9 hce hcv hcl => pb_out ux (ThQ.up (Thx.same (Thx.same (Thx.f Thx.rfl (by omega)) rfl) rfl) (show RhX (updR R 1 (.ref pq)) (updR (updR R 1 (.ref pq)) 1 (.ref pq)) from fun k9 hk9 => by unfold updR; simp only [show ¬ k9 = 1 by omega, show ¬ k9 = 2 by omega, show ¬ k9 = 3 by omega, show ¬ k9 = 4 by omega, if_false]) hux) hnt hlocks hce hcv hcl hP9 hD9 hS9 (by show 5 + 1 ≤ 6; omega) (by show 25 + 6 ≤ 31; omega))
                obtain ⟨w, K511, g512, at513⟩ := u506
                obtain ⟨hw507, h514, h515, h516, h517, hO⟩ := hw507
                have h514 : WPr G K511 g512 := h514
                have h515 : PgS G K511 g512 (a 1) pq dr ml (nd + 1) nm cp it s9 := h515
                have h516 : K511.1 r374 = 4 := h516
                have h517 : ((((at9 + 1) + 1) + r478) + r490) + 1 ≤ at513 ∧ at513 ≤ sz := h517
                obtain rfl : v508 = none := hw507
                have hO : OKP G h0 a (upd (upd F 2 (nI sz)) 9 (nI at513)) (updR R 1 (.ref pq)) Z B J K511 w := hO.to rfl
                refine W.widen (k := 5) (n := 25) (by show 5 + 0 ≤ 5; omega) (by show 25 + 0 ≤ 25; omega) ?_
                refine W.eq (g2 := F0 m 116 ls []) rfl ?_
                refine lv_aload_n hx hb dX8_declaration_116 rfl (lv_at hl 2 rfl) ?_
                refine lv_bipush (v := 32) hx hb dX8_declaration_117 (by decide) ?_
                have hO : OKW G h0 a (upd (upd (upd (upd (upd F 2 (nI sz)) 9 (nI at9)) 9 (nI at513)) 2 (nI sz)) 9 (nI at513)) (updR R 1 (.ref pq)) Z B J K511.1 (fun q99 x99 => x99 = rep G a K511 q99) w := hO.to rfl
                obtain ⟨_, qr521, hqr522⟩ := hO.2.1 23 _ (sg_23 G h0 a _ _ _ _ _)
                refine pn_V0 (G := G) (As := [.int 32]) (rest := []) hx hb hml hown hq hE hX pX0_al hP hD hS hA hl.1 (P_take l G h0 a (upd (upd (upd F 2 (nI sz)) 9 (nI at9)) 9 (nI at513)) (updR R 1 (.ref pq)) Z B J K511.1 (fun q99 x99 => x99 = rep G a K511 q99) w 32 at513 sz (by omega) (by omega) (by decide) hO hl0) (gV pw_793 pw_794 pw_795 pw_796 pw_781) hV_X8_take qr521 5 hqr522 rfl rfl rfl (Nat.le_of_ble_eq_true rfl) dX8_declaration_119 ⟨(by show 5 + 1 ≤ 6; omega), (by show 25 + 6 ≤ 31; omega)⟩ ⟨Nat.le_of_ble_eq_true rfl, Nat.le_of_ble_eq_true rfl⟩ (fun v520 u518 H locs hw519 hP hD hS => ?_) (fun ux ce9 q9 H9 locs9 hux hP9 hD9 hS9 hce hcv hcl => pb_out ux (ThQ.up (Thx.same (Thx.same (Thx.f Thx.rfl (by omega)) rfl) rfl) RhX.rfl hux) hnt hlocks hce hcv hcl hP9 hD9 hS9 (by show 5 + 1 ≤ 6; omega) (by show 25 + 6 ≤ 31; omega))
                obtain ⟨w, _⟩ := u518
                obtain ⟨hw519, h523, hO⟩ := hw519
                have h523 : at513 + 1 ≤ sz := h523
                obtain rfl : v520 = some (.int (nI at513)) := hw519
                have hO : OKP G h0 a (upd (upd F 2 (nI sz)) 9 (nI (at513 + 1))) (updR R 1 (.ref pq)) Z B J K511 w := hO.to rfl
                refine W.widen (k := 5) (n := 25) (by show 5 + 0 ≤ 5; omega) (by show 25 + 0 ≤ 25; omega) ?_
                refine W.eq (g2 := F0 m 122 ls [.int (nI at513)]) rfl ?_
                refine lv_pop hx hb dX8_declaration_122 rfl ?_
                refine lv_aload_n hx hb dX8_declaration_123 rfl (lv_at hl 0 rfl) ?_
                refine W_size (fun hz1 hz2 => ?_)
                refine vx_ret ?_
                have hz524 : WPr G K511 g512 := h514
                have hz525 : PgS G K511 g512 (a 1) pq dr ml (nd + 1) nm cp it s9 := h515
                have hz526 : K511.1 r374 = 4 := h516
                have hz527 : at9 + 3 ≤ (at513 + 1) ∧ (at513 + 1) ≤ sz := (by omega)
                have hO : OKP G h0 a (upd (upd F 2 (nI sz)) 9 (nI (at513 + 1))) (updR R 1 (.ref pq)) Z B J K511 w := hO.to rfl
                refine W.widen (k := 6) (n := 31) (by omega) (by omega) ?_
                have hzz1 : H.size ≤ s.heap.size + (5) := (by have z : 5 ≤ 5 := (by omega); omega)
                have hzz2 : hSl H ≤ hSl s.heap + (25) := (by have z : 25 ≤ 25 := (by omega); omega)
                exact W.aret (v := .ref r374) hx hb hr (Or.inl ⟨_, rfl⟩) (Or.inr ⟨_, rfl⟩) (fun t99 ht99 hW99 => ⟨⟨_, (w, (K511, g512, r374, (at513 + 1), (nd + 1))), rfl, ⟨rfl, hz524, hz525, hz526, hz527, hO⟩, by rw [ht99]; exact hP, hD, by rw [ht99]; exact hzz1, by rw [ht99]; exact hzz2⟩, hS.F ht99⟩) hS.2.2 dX8_declaration_124
            · have n528 : ¬ (r6 = 0) := fun h9 => c483 ((nI_eq (a := r6) (b := 0) (by omega) (by omega)).mpr h9)
              refine lv_bipush (v := 7) hx hb dX8_declaration_98 (by decide) ?_
              refine lv_goto (tgt := 105) hx hb dX8_declaration_100 (by decide) ?_
              have hO : OKW G h0 a (upd (upd (upd (upd F 2 (nI sz)) 9 (nI (((at9 + 1) + 1) + r478))) 2 (nI sz)) 9 (nI (((at9 + 1) + 1) + r478))) (updR R 1 (.ref pq)) Z B J K375.1 (fun q99 x99 => x99 = rep G a K375 q99) w := hO.to rfl
              obtain ⟨_, qr532, hqr533⟩ := hO.2.1 23 _ (sg_23 G h0 a _ _ _ _ _)
              refine pc_V0 (G := G) (As := [.int 7]) (rest := []) hx hb hml hown hq hE hX pX0_al hP hD hS hA hl.1 (P_takeIf l G h0 a (upd (upd F 2 (nI sz)) 9 (nI (((at9 + 1) + 1) + r478))) (updR R 1 (.ref pq)) Z B J K375.1 (fun q99 x99 => x99 = rep G a K375 q99) w 7 (((at9 + 1) + 1) + r478) sz (by omega) (by omega) (by decide) hO) (gV pw_797 pw_798 pw_799 pw_796 pw_789) hV_X8_takeIf qr532 5 hqr533 rfl rfl rfl (Nat.le_of_ble_eq_true rfl) dX8_declaration_105 ⟨(by show 5 + 0 ≤ 6; omega), (by show 25 + 0 ≤ 31; omega)⟩ ⟨Nat.le_of_ble_eq_true rfl, Nat.le_of_ble_eq_true rfl⟩ (fun v531 u529 H locs hw530 hP hD hS => ?_)
              obtain ⟨w, r534⟩ := u529
              obtain ⟨hw530, h535, h536, hO⟩ := hw530
              have h535 : r534 ≤ 1 := h535
              have h536 : (((at9 + 1) + 1) + r478) + r534 ≤ sz := h536
              obtain rfl : v531 = some (.int (nI r534)) := hw530
              have hO : OKP G h0 a (upd (upd F 2 (nI sz)) 9 (nI ((((at9 + 1) + 1) + r478) + r534))) (updR R 1 (.ref pq)) Z B J K375 w := hO.to rfl
              refine W.widen (k := 5) (n := 25) (by show 5 + 0 ≤ 5; omega) (by show 25 + 0 ≤ 25; omega) ?_
              refine W.eq (g2 := F0 m 108 ls [.int (nI r534)]) rfl ?_
              refine lv_if_eq (tgt := 116) hx hb dX8_declaration_108 (by decide) (fun c537 => ?_) (fun c537 => ?_)
              · have n538 : r534 = 0 := (nI_eq (a := r534) (b := 0) (by omega) (by omega)).mp c537
                refine lv_aload_n hx hb dX8_declaration_116 rfl (lv_at hl 2 rfl) ?_
                refine lv_bipush (v := 32) hx hb dX8_declaration_117 (by decide) ?_
                have hO : OKW G h0 a (upd (upd (upd (upd (upd F 2 (nI sz)) 9 (nI at9)) 9 (nI ((((at9 + 1) + 1) + r478) + r534))) 2 (nI sz)) 9 (nI ((((at9 + 1) + 1) + r478) + r534))) (updR R 1 (.ref pq)) Z B J K375.1 (fun q99 x99 => x99 = rep G a K375 q99) w := hO.to rfl
                obtain ⟨_, qr542, hqr543⟩ := hO.2.1 23 _ (sg_23 G h0 a _ _ _ _ _)
                refine pn_V0 (G := G) (As := [.int 32]) (rest := []) hx hb hml hown hq hE hX pX0_al hP hD hS hA hl.1 (P_take l G h0 a (upd (upd (upd F 2 (nI sz)) 9 (nI at9)) 9 (nI ((((at9 + 1) + 1) + r478) + r534))) (updR R 1 (.ref pq)) Z B J K375.1 (fun q99 x99 => x99 = rep G a K375 q99) w 32 ((((at9 + 1) + 1) + r478) + r534) sz (by omega) (by omega) (by decide) hO hl0) (gV pw_793 pw_794 pw_795 pw_796 pw_781) hV_X8_take qr542 5 hqr543 rfl rfl rfl (Nat.le_of_ble_eq_true rfl) dX8_declaration_119 ⟨(by show 5 + 1 ≤ 6; omega), (by show 25 + 6 ≤ 31; omega)⟩ ⟨Nat.le_of_ble_eq_true rfl, Nat.le_of_ble_eq_true rfl⟩ (fun v541 u539 H locs hw540 hP hD hS => ?_) (fun ux ce9 q9 H9 locs9 hux hP9 hD9 hS9 hce hcv hcl => pb_out ux (ThQ.up (Thx.same (Thx.same (Thx.f Thx.rfl (by omega)) rfl) rfl) RhX.rfl hux) hnt hlocks hce hcv hcl hP9 hD9 hS9 (by show 5 + 1 ≤ 6; omega) (by show 25 + 6 ≤ 31; omega))
                obtain ⟨w, _⟩ := u539
                obtain ⟨hw540, h544, hO⟩ := hw540
                have h544 : ((((at9 + 1) + 1) + r478) + r534) + 1 ≤ sz := h544
                obtain rfl : v541 = some (.int (nI ((((at9 + 1) + 1) + r478) + r534))) := hw540
                have hO : OKP G h0 a (upd (upd F 2 (nI sz)) 9 (nI (((((at9 + 1) + 1) + r478) + r534) + 1))) (updR R 1 (.ref pq)) Z B J K375 w := hO.to rfl
                refine W.widen (k := 5) (n := 25) (by show 5 + 0 ≤ 5; omega) (by show 25 + 0 ≤ 25; omega) ?_
                refine W.eq (g2 := F0 m 122 ls [.int (nI ((((at9 + 1) + 1) + r478) + r534))]) rfl ?_
                refine lv_pop hx hb dX8_declaration_122 rfl ?_
                refine lv_aload_n hx hb dX8_declaration_123 rfl (lv_at hl 0 rfl) ?_
                refine W_size (fun hz1 hz2 => ?_)
                refine vx_ret ?_
                have hz545 : WPr G K375 g376 := h377
                have hz546 : PgS G K375 g376 (a 1) pq dr ml (nd + 1) nm cp it s9 := h378
                have hz547 : K375.1 r374 = 4 := h379
                have hz548 : at9 + 3 ≤ (((((at9 + 1) + 1) + r478) + r534) + 1) ∧ (((((at9 + 1) + 1) + r478) + r534) + 1) ≤ sz := (by omega)
                have hO : OKP G h0 a (upd (upd F 2 (nI sz)) 9 (nI (((((at9 + 1) + 1) + r478) + r534) + 1))) (updR R 1 (.ref pq)) Z B J K375 w := hO.to rfl
                refine W.widen (k := 6) (n := 31) (by omega) (by omega) ?_
                have hzz1 : H.size ≤ s.heap.size + (5) := (by have z : 5 ≤ 5 := (by omega); omega)
                have hzz2 : hSl H ≤ hSl s.heap + (25) := (by have z : 25 ≤ 25 := (by omega); omega)
                exact W.aret (v := .ref r374) hx hb hr (Or.inl ⟨_, rfl⟩) (Or.inr ⟨_, rfl⟩) (fun t99 ht99 hW99 => ⟨⟨_, (w, (K375, g376, r374, (((((at9 + 1) + 1) + r478) + r534) + 1), (nd + 1))), rfl, ⟨rfl, hz545, hz546, hz547, hz548, hO⟩, by rw [ht99]; exact hP, hD, by rw [ht99]; exact hzz1, by rw [ht99]; exact hzz2⟩, hS.F ht99⟩) hS.2.2 dX8_declaration_124
              · have n549 : ¬ (r534 = 0) := fun h9 => c537 ((nI_eq (a := r534) (b := 0) (by omega) (by omega)).mpr h9)
                refine lv_aload_n hx hb dX8_declaration_111 rfl (lv_at hl 2 rfl) ?_
                refine lv_aload_n hx hb dX8_declaration_112 rfl (lv_at hl 0 rfl) ?_
                have hO : OKP G h0 a (upd (upd (upd (upd (upd F 2 (nI sz)) 9 (nI at9)) 9 (nI ((((at9 + 1) + 1) + r478) + r534))) 2 (nI sz)) 9 (nI ((((at9 + 1) + 1) + r478) + r534))) (updR (updR R 1 (.ref pq)) 1 (.ref pq)) Z B J K375 w := hO.to rfl
                obtain ⟨_, qr553, hqr554⟩ := hO.2.1 23 _ (sg_23 G h0 a _ _ _ _ _)
                refine pn_V0 (G := G) (As := [.ref r374]) (rest := []) hx hb hml hown hq hE hX pX0_al hP hD hS hA hl.1 (P_listI l G h0 a (upd (upd (upd F 2 (nI sz)) 9 (nI at9)) 9 (nI ((((at9 + 1) + 1) + r478) + r534))) (updR R 1 (.ref pq)) Z B J K375 w pq dr ml (nd + 1) nm cp it s9 r374 ((((at9 + 1) + 1) + r478) + r534) sz g376 (by omega) (by omega) h377 h378 h379 h380 hO hl0) (gV pw_815 pw_816 pw_817 pw_796 pw_800) hV_X8_listInterfaces qr553 5 hqr554 rfl rfl rfl (Nat.le_of_ble_eq_true rfl) dX8_declaration_113 ⟨(by show 5 + 1 ≤ 6; omega), (by show 25 + 6 ≤ 31; omega)⟩ ⟨Nat.le_of_ble_eq_true rfl, Nat.le_of_ble_eq_true rfl⟩ (fun v552 u550 H locs hw551 hP hD hS => ?_) (fun ux ce9 q9 H9 locs9 hux hP9 hD9 hS9 hce hcv hcl => pb_out ux (ThQ.up (Thx.same (Thx.same (Thx.f Thx.rfl (by omega)) rfl) rfl) (show RhX (updR R 1 (.ref pq)) (updR (updR R 1 (.ref pq)) 1 (.ref pq)) from fun k9 hk9 => by unfold updR; simp only [show ¬ k9 = 1 by omega, show ¬ k9 = 2 by omega, show ¬ k9 = 3 by omega, show ¬ k9 = 4 by omega, if_false]) hux) hnt hlocks hce hcv hcl hP9 hD9 hS9 (by show 5 + 1 ≤ 6; omega) (by show 25 + 6 ≤ 31; omega))
                obtain ⟨w, K555, g556, at557⟩ := u550
                obtain ⟨hw551, h558, h559, h560, h561, hO⟩ := hw551
                have h558 : WPr G K555 g556 := h558
                have h559 : PgS G K555 g556 (a 1) pq dr ml (nd + 1) nm cp it s9 := h559
                have h560 : K555.1 r374 = 4 := h560
                have h561 : ((((at9 + 1) + 1) + r478) + r534) + 1 ≤ at557 ∧ at557 ≤ sz := h561
                obtain rfl : v552 = none := hw551
                have hO : OKP G h0 a (upd (upd F 2 (nI sz)) 9 (nI at557)) (updR R 1 (.ref pq)) Z B J K555 w := hO.to rfl
                refine W.widen (k := 5) (n := 25) (by show 5 + 0 ≤ 5; omega) (by show 25 + 0 ≤ 25; omega) ?_
                refine W.eq (g2 := F0 m 116 ls []) rfl ?_
                refine lv_aload_n hx hb dX8_declaration_116 rfl (lv_at hl 2 rfl) ?_
                refine lv_bipush (v := 32) hx hb dX8_declaration_117 (by decide) ?_
                have hO : OKW G h0 a (upd (upd (upd (upd (upd F 2 (nI sz)) 9 (nI at9)) 9 (nI at557)) 2 (nI sz)) 9 (nI at557)) (updR R 1 (.ref pq)) Z B J K555.1 (fun q99 x99 => x99 = rep G a K555 q99) w := hO.to rfl
                obtain ⟨_, qr565, hqr566⟩ := hO.2.1 23 _ (sg_23 G h0 a _ _ _ _ _)
                refine pn_V0 (G := G) (As := [.int 32]) (rest := []) hx hb hml hown hq hE hX pX0_al hP hD hS hA hl.1 (P_take l G h0 a (upd (upd (upd F 2 (nI sz)) 9 (nI at9)) 9 (nI at557)) (updR R 1 (.ref pq)) Z B J K555.1 (fun q99 x99 => x99 = rep G a K555 q99) w 32 at557 sz (by omega) (by omega) (by decide) hO hl0) (gV pw_793 pw_794 pw_795 pw_796 pw_781) hV_X8_take qr565 5 hqr566 rfl rfl rfl (Nat.le_of_ble_eq_true rfl) dX8_declaration_119 ⟨(by show 5 + 1 ≤ 6; omega), (by show 25 + 6 ≤ 31; omega)⟩ ⟨Nat.le_of_ble_eq_true rfl, Nat.le_of_ble_eq_true rfl⟩ (fun v564 u562 H locs hw563 hP hD hS => ?_) (fun ux ce9 q9 H9 locs9 hux hP9 hD9 hS9 hce hcv hcl => pb_out ux (ThQ.up (Thx.same (Thx.same (Thx.f Thx.rfl (by omega)) rfl) rfl) RhX.rfl hux) hnt hlocks hce hcv hcl hP9 hD9 hS9 (by show 5 + 1 ≤ 6; omega) (by show 25 + 6 ≤ 31; omega))
                obtain ⟨w, _⟩ := u562
                obtain ⟨hw563, h567, hO⟩ := hw563
                have h567 : at557 + 1 ≤ sz := h567
                obtain rfl : v564 = some (.int (nI at557)) := hw563
                have hO : OKP G h0 a (upd (upd F 2 (nI sz)) 9 (nI (at557 + 1))) (updR R 1 (.ref pq)) Z B J K555 w := hO.to rfl
                refine W.widen (k := 5) (n := 25) (by show 5 + 0 ≤ 5; omega) (by show 25 + 0 ≤ 25; omega) ?_
                refine W.eq (g2 := F0 m 122 ls [.int (nI at557)]) rfl ?_
                refine lv_pop hx hb dX8_declaration_122 rfl ?_
                refine lv_aload_n hx hb dX8_declaration_123 rfl (lv_at hl 0 rfl) ?_
                refine W_size (fun hz1 hz2 => ?_)
                refine vx_ret ?_
                have hz568 : WPr G K555 g556 := h558
                have hz569 : PgS G K555 g556 (a 1) pq dr ml (nd + 1) nm cp it s9 := h559
                have hz570 : K555.1 r374 = 4 := h560
                have hz571 : at9 + 3 ≤ (at557 + 1) ∧ (at557 + 1) ≤ sz := (by omega)
                have hO : OKP G h0 a (upd (upd F 2 (nI sz)) 9 (nI (at557 + 1))) (updR R 1 (.ref pq)) Z B J K555 w := hO.to rfl
                refine W.widen (k := 6) (n := 31) (by omega) (by omega) ?_
                have hzz1 : H.size ≤ s.heap.size + (5) := (by have z : 5 ≤ 5 := (by omega); omega)
                have hzz2 : hSl H ≤ hSl s.heap + (25) := (by have z : 25 ≤ 25 := (by omega); omega)
                exact W.aret (v := .ref r374) hx hb hr (Or.inl ⟨_, rfl⟩) (Or.inr ⟨_, rfl⟩) (fun t99 ht99 hW99 => ⟨⟨_, (w, (K555, g556, r374, (at557 + 1), (nd + 1))), rfl, ⟨rfl, hz568, hz569, hz570, hz571, hO⟩, by rw [ht99]; exact hP, hD, by rw [ht99]; exact hzz1, by rw [ht99]; exact hzz2⟩, hS.F ht99⟩) hS.2.2 dX8_declaration_124
          · have n572 : ¬ (r478 = 0) := fun h9 => c481 ((nI_eq (a := r478) (b := 0) (by omega) (by omega)).mpr h9)
            refine lv_aload_n hx hb dX8_declaration_83 rfl (lv_at hl 0 rfl) ?_
            refine lv_aload_n hx hb dX8_declaration_84 rfl (lv_at hl 2 rfl) ?_
            refine lv_bipush (v := 65) hx hb dX8_declaration_85 (by decide) ?_
            have hO : OKW G h0 a (upd (upd (upd (upd (upd F 2 (nI sz)) 9 (nI at9)) 9 (nI (((at9 + 1) + 1) + r478))) 2 (nI sz)) 9 (nI (((at9 + 1) + 1) + r478))) (updR R 1 (.ref pq)) Z B J K375.1 (fun q99 x99 => x99 = rep G a K375 q99) w := hO.to rfl
            obtain ⟨_, qr576, hqr577⟩ := hO.2.1 23 _ (sg_23 G h0 a _ _ _ _ _)
            refine pn_V0 (G := G) (As := [.int 65]) (rest := [.ref r374]) hx hb hml hown hq hE hX pX0_al hP hD hS hA hl.1 (P_take l G h0 a (upd (upd (upd F 2 (nI sz)) 9 (nI at9)) 9 (nI (((at9 + 1) + 1) + r478))) (updR R 1 (.ref pq)) Z B J K375.1 (fun q99 x99 => x99 = rep G a K375 q99) w 65 (((at9 + 1) + 1) + r478) sz (by omega) (by omega) (by decide) hO hl0) (gV pw_793 pw_794 pw_795 pw_796 pw_781) hV_X8_take qr576 5 hqr577 rfl rfl rfl (Nat.le_of_ble_eq_true rfl) dX8_declaration_87 ⟨(by show 5 + 1 ≤ 6; omega), (by show 25 + 6 ≤ 31; omega)⟩ ⟨Nat.le_of_ble_eq_true rfl, Nat.le_of_ble_eq_true rfl⟩ (fun v575 u573 H locs hw574 hP hD hS => ?_) (fun ux ce9 q9 H9 locs9 hux hP9 hD9 hS9 hce hcv hcl => pb_out ux (ThQ.up (Thx.same (Thx.same (Thx.f Thx.rfl (by omega)) rfl) rfl) RhX.rfl hux) hnt hlocks hce hcv hcl hP9 hD9 hS9 (by show 5 + 1 ≤ 6; omega) (by show 25 + 6 ≤ 31; omega))
            obtain ⟨w, _⟩ := u573
            obtain ⟨hw574, h578, hO⟩ := hw574
            have h578 : (((at9 + 1) + 1) + r478) + 1 ≤ sz := h578
            obtain rfl : v575 = some (.int (nI (((at9 + 1) + 1) + r478))) := hw574
            have hO : OKP G h0 a (upd (upd F 2 (nI sz)) 9 (nI ((((at9 + 1) + 1) + r478) + 1))) (updR R 1 (.ref pq)) Z B J K375 w := hO.to rfl
            refine W.widen (k := 5) (n := 25) (by show 5 + 0 ≤ 5; omega) (by show 25 + 0 ≤ 25; omega) ?_
            refine W.eq (g2 := F0 m 90 ls [.int (nI (((at9 + 1) + 1) + r478)), .ref r374]) rfl ?_
            refine p_put (v := .int (nI (((at9 + 1) + 1) + r478))) (ty := .int) (C := RX2) (Tc := TX2) (N := 13) (ci := 2) (K' := (kI K375 19 r374 (nI (((at9 + 1) + 1) + r478)))) hx hb hq pin_wsX20 tyX2 tyX2_ok nmX2 hown hE hP hD hS hO (by rw [h379]; decide) (rep_4 h379) rfl 4 (by decide) (hq _ pw_802) (fun _ h9 => h9) rfl (by decide +kernel) rfl rfl (Nat.le_of_ble_eq_true rfl) rfl (by rw [rep_4 (show (kI K375 19 r374 (nI (((at9 + 1) + 1) + r478))).1 r374 = 4 from h379), pi_19] <;> rfl) (fun p9 hp9 => rep_kI hp9) dX8_declaration_90 (fun H locs w hP hD hS hO => ?_)
            obtain ⟨K579, hK580⟩ : ∃ z : PK, z = (kI K375 19 r374 (nI (((at9 + 1) + 1) + r478))) := ⟨_, rfl⟩
            rw [← hK580] at hO
            have hf581 : K579.1 r374 = 4 := (by rw [hK580]; exact h379)
            have hf582 : K579.2.1 19 r374 = (nI (((at9 + 1) + 1) + r478)) := by rw [hK580]; exact kI_eq
            have hwp583 : WPr G K579 g376 := by rw [hK580]; exact WPr.kI h377 (by decide) (Or.inr h380)
            have hps584 : PgS G K579 g376 (a 1) pq dr ml (nd + 1) nm cp it s9 := by rw [hK580]; exact PgS.kI h378 (by decide)
            refine lv_aload_n hx hb dX8_declaration_93 rfl (lv_at hl 2 rfl) ?_
            refine lv_iload_n hx hb dX8_declaration_94 rfl (lv_at hl 1 rfl) ?_
            refine lv_if_eq (tgt := 103) hx hb dX8_declaration_95 (by decide) (fun c585 => ?_) (fun c585 => ?_)
            · have n586 : r6 = 0 := (nI_eq (a := r6) (b := 0) (by omega) (by omega)).mp c585
              refine lv_bipush (v := 12) hx hb dX8_declaration_103 (by decide) ?_
              have hO : OKW G h0 a (upd (upd (upd (upd F 2 (nI sz)) 9 (nI ((((at9 + 1) + 1) + r478) + 1))) 2 (nI sz)) 9 (nI ((((at9 + 1) + 1) + r478) + 1))) (updR R 1 (.ref pq)) Z B J K579.1 (fun q99 x99 => x99 = rep G a K579 q99) w := hO.to rfl
              obtain ⟨_, qr590, hqr591⟩ := hO.2.1 23 _ (sg_23 G h0 a _ _ _ _ _)
              refine pc_V0 (G := G) (As := [.int 12]) (rest := []) hx hb hml hown hq hE hX pX0_al hP hD hS hA hl.1 (P_takeIf l G h0 a (upd (upd F 2 (nI sz)) 9 (nI ((((at9 + 1) + 1) + r478) + 1))) (updR R 1 (.ref pq)) Z B J K579.1 (fun q99 x99 => x99 = rep G a K579 q99) w 12 ((((at9 + 1) + 1) + r478) + 1) sz (by omega) (by omega) (by decide) hO) (gV pw_797 pw_798 pw_799 pw_796 pw_789) hV_X8_takeIf qr590 5 hqr591 rfl rfl rfl (Nat.le_of_ble_eq_true rfl) dX8_declaration_105 ⟨(by show 5 + 0 ≤ 6; omega), (by show 25 + 0 ≤ 31; omega)⟩ ⟨Nat.le_of_ble_eq_true rfl, Nat.le_of_ble_eq_true rfl⟩ (fun v589 u587 H locs hw588 hP hD hS => ?_)
              obtain ⟨w, r592⟩ := u587
              obtain ⟨hw588, h593, h594, hO⟩ := hw588
              have h593 : r592 ≤ 1 := h593
              have h594 : ((((at9 + 1) + 1) + r478) + 1) + r592 ≤ sz := h594
              obtain rfl : v589 = some (.int (nI r592)) := hw588
              have hO : OKP G h0 a (upd (upd F 2 (nI sz)) 9 (nI (((((at9 + 1) + 1) + r478) + 1) + r592))) (updR R 1 (.ref pq)) Z B J K579 w := hO.to rfl
              refine W.widen (k := 5) (n := 25) (by show 5 + 0 ≤ 5; omega) (by show 25 + 0 ≤ 25; omega) ?_
              refine W.eq (g2 := F0 m 108 ls [.int (nI r592)]) rfl ?_
              refine lv_if_eq (tgt := 116) hx hb dX8_declaration_108 (by decide) (fun c595 => ?_) (fun c595 => ?_)
              · have n596 : r592 = 0 := (nI_eq (a := r592) (b := 0) (by omega) (by omega)).mp c595
                refine lv_aload_n hx hb dX8_declaration_116 rfl (lv_at hl 2 rfl) ?_
                refine lv_bipush (v := 32) hx hb dX8_declaration_117 (by decide) ?_
                have hO : OKW G h0 a (upd (upd (upd (upd (upd F 2 (nI sz)) 9 (nI at9)) 9 (nI (((((at9 + 1) + 1) + r478) + 1) + r592))) 2 (nI sz)) 9 (nI (((((at9 + 1) + 1) + r478) + 1) + r592))) (updR R 1 (.ref pq)) Z B J K579.1 (fun q99 x99 => x99 = rep G a K579 q99) w := hO.to rfl
                obtain ⟨_, qr600, hqr601⟩ := hO.2.1 23 _ (sg_23 G h0 a _ _ _ _ _)
                refine pn_V0 (G := G) (As := [.int 32]) (rest := []) hx hb hml hown hq hE hX pX0_al hP hD hS hA hl.1 (P_take l G h0 a (upd (upd (upd F 2 (nI sz)) 9 (nI at9)) 9 (nI (((((at9 + 1) + 1) + r478) + 1) + r592))) (updR R 1 (.ref pq)) Z B J K579.1 (fun q99 x99 => x99 = rep G a K579 q99) w 32 (((((at9 + 1) + 1) + r478) + 1) + r592) sz (by omega) (by omega) (by decide) hO hl0) (gV pw_793 pw_794 pw_795 pw_796 pw_781) hV_X8_take qr600 5 hqr601 rfl rfl rfl (Nat.le_of_ble_eq_true rfl) dX8_declaration_119 ⟨(by show 5 + 1 ≤ 6; omega), (by show 25 + 6 ≤ 31; omega)⟩ ⟨Nat.le_of_ble_eq_true rfl, Nat.le_of_ble_eq_true rfl⟩ (fun v599 u597 H locs hw598 hP hD hS => ?_) (fun ux ce9 q9 H9 locs9 hux hP9 hD9 hS9 hce hcv hcl => pb_out ux (ThQ.up (Thx.same (Thx.same (Thx.f Thx.rfl (by omega)) rfl) rfl) RhX.rfl hux) hnt hlocks hce hcv hcl hP9 hD9 hS9 (by show 5 + 1 ≤ 6; omega) (by show 25 + 6 ≤ 31; omega))
                obtain ⟨w, _⟩ := u597
                obtain ⟨hw598, h602, hO⟩ := hw598
                have h602 : (((((at9 + 1) + 1) + r478) + 1) + r592) + 1 ≤ sz := h602
                obtain rfl : v599 = some (.int (nI (((((at9 + 1) + 1) + r478) + 1) + r592))) := hw598
                have hO : OKP G h0 a (upd (upd F 2 (nI sz)) 9 (nI ((((((at9 + 1) + 1) + r478) + 1) + r592) + 1))) (updR R 1 (.ref pq)) Z B J K579 w := hO.to rfl
                refine W.widen (k := 5) (n := 25) (by show 5 + 0 ≤ 5; omega) (by show 25 + 0 ≤ 25; omega) ?_
                refine W.eq (g2 := F0 m 122 ls [.int (nI (((((at9 + 1) + 1) + r478) + 1) + r592))]) rfl ?_
                refine lv_pop hx hb dX8_declaration_122 rfl ?_
                refine lv_aload_n hx hb dX8_declaration_123 rfl (lv_at hl 0 rfl) ?_
                refine W_size (fun hz1 hz2 => ?_)
                refine vx_ret ?_
                have hz603 : WPr G K579 g376 := hwp583
                have hz604 : PgS G K579 g376 (a 1) pq dr ml (nd + 1) nm cp it s9 := hps584
                have hz605 : K579.1 r374 = 4 := hf581
                have hz606 : at9 + 3 ≤ ((((((at9 + 1) + 1) + r478) + 1) + r592) + 1) ∧ ((((((at9 + 1) + 1) + r478) + 1) + r592) + 1) ≤ sz := (by omega)
                have hO : OKP G h0 a (upd (upd F 2 (nI sz)) 9 (nI ((((((at9 + 1) + 1) + r478) + 1) + r592) + 1))) (updR R 1 (.ref pq)) Z B J K579 w := hO.to rfl
                refine W.widen (k := 6) (n := 31) (by omega) (by omega) ?_
                have hzz1 : H.size ≤ s.heap.size + (5) := (by have z : 5 ≤ 5 := (by omega); omega)
                have hzz2 : hSl H ≤ hSl s.heap + (25) := (by have z : 25 ≤ 25 := (by omega); omega)
                exact W.aret (v := .ref r374) hx hb hr (Or.inl ⟨_, rfl⟩) (Or.inr ⟨_, rfl⟩) (fun t99 ht99 hW99 => ⟨⟨_, (w, (K579, g376, r374, ((((((at9 + 1) + 1) + r478) + 1) + r592) + 1), (nd + 1))), rfl, ⟨rfl, hz603, hz604, hz605, hz606, hO⟩, by rw [ht99]; exact hP, hD, by rw [ht99]; exact hzz1, by rw [ht99]; exact hzz2⟩, hS.F ht99⟩) hS.2.2 dX8_declaration_124
              · have n607 : ¬ (r592 = 0) := fun h9 => c595 ((nI_eq (a := r592) (b := 0) (by omega) (by omega)).mpr h9)
                refine lv_aload_n hx hb dX8_declaration_111 rfl (lv_at hl 2 rfl) ?_
                refine lv_aload_n hx hb dX8_declaration_112 rfl (lv_at hl 0 rfl) ?_
                have hO : OKP G h0 a (upd (upd (upd (upd (upd F 2 (nI sz)) 9 (nI at9)) 9 (nI (((((at9 + 1) + 1) + r478) + 1) + r592))) 2 (nI sz)) 9 (nI (((((at9 + 1) + 1) + r478) + 1) + r592))) (updR (updR R 1 (.ref pq)) 1 (.ref pq)) Z B J K579 w := hO.to rfl
                obtain ⟨_, qr611, hqr612⟩ := hO.2.1 23 _ (sg_23 G h0 a _ _ _ _ _)
                refine pn_V0 (G := G) (As := [.ref r374]) (rest := []) hx hb hml hown hq hE hX pX0_al hP hD hS hA hl.1 (P_listI l G h0 a (upd (upd (upd F 2 (nI sz)) 9 (nI at9)) 9 (nI (((((at9 + 1) + 1) + r478) + 1) + r592))) (updR R 1 (.ref pq)) Z B J K579 w pq dr ml (nd + 1) nm cp it s9 r374 (((((at9 + 1) + 1) + r478) + 1) + r592) sz g376 (by omega) (by omega) hwp583 hps584 hf581 h380 hO hl0) (gV pw_815 pw_816 pw_817 pw_796 pw_800) hV_X8_listInterfaces qr611 5 hqr612 rfl rfl rfl (Nat.le_of_ble_eq_true rfl) dX8_declaration_113 ⟨(by show 5 + 1 ≤ 6; omega), (by show 25 + 6 ≤ 31; omega)⟩ ⟨Nat.le_of_ble_eq_true rfl, Nat.le_of_ble_eq_true rfl⟩ (fun v610 u608 H locs hw609 hP hD hS => ?_) (fun ux ce9 q9 H9 locs9 hux hP9 hD9 hS9 hce hcv hcl => pb_out ux (ThQ.up (Thx.same (Thx.same (Thx.f Thx.rfl (by omega)) rfl) rfl) (show RhX (updR R 1 (.ref pq)) (updR (updR R 1 (.ref pq)) 1 (.ref pq)) from fun k9 hk9 => by unfold updR; simp only [show ¬ k9 = 1 by omega, show ¬ k9 = 2 by omega, show ¬ k9 = 3 by omega, show ¬ k9 = 4 by omega, if_false]) hux) hnt hlocks hce hcv hcl hP9 hD9 hS9 (by show 5 + 1 ≤ 6; omega) (by show 25 + 6 ≤ 31; omega))
                obtain ⟨w, K613, g614, at615⟩ := u608
                obtain ⟨hw609, h616, h617, h618, h619, hO⟩ := hw609
                have h616 : WPr G K613 g614 := h616
                have h617 : PgS G K613 g614 (a 1) pq dr ml (nd + 1) nm cp it s9 := h617
                have h618 : K613.1 r374 = 4 := h618
                have h619 : (((((at9 + 1) + 1) + r478) + 1) + r592) + 1 ≤ at615 ∧ at615 ≤ sz := h619
                obtain rfl : v610 = none := hw609
                have hO : OKP G h0 a (upd (upd F 2 (nI sz)) 9 (nI at615)) (updR R 1 (.ref pq)) Z B J K613 w := hO.to rfl
                refine W.widen (k := 5) (n := 25) (by show 5 + 0 ≤ 5; omega) (by show 25 + 0 ≤ 25; omega) ?_
                refine W.eq (g2 := F0 m 116 ls []) rfl ?_
                refine lv_aload_n hx hb dX8_declaration_116 rfl (lv_at hl 2 rfl) ?_
                refine lv_bipush (v := 32) hx hb dX8_declaration_117 (by decide) ?_
                have hO : OKW G h0 a (upd (upd (upd (upd (upd F 2 (nI sz)) 9 (nI at9)) 9 (nI at615)) 2 (nI sz)) 9 (nI at615)) (updR R 1 (.ref pq)) Z B J K613.1 (fun q99 x99 => x99 = rep G a K613 q99) w := hO.to rfl
                obtain ⟨_, qr623, hqr624⟩ := hO.2.1 23 _ (sg_23 G h0 a _ _ _ _ _)
                refine pn_V0 (G := G) (As := [.int 32]) (rest := []) hx hb hml hown hq hE hX pX0_al hP hD hS hA hl.1 (P_take l G h0 a (upd (upd (upd F 2 (nI sz)) 9 (nI at9)) 9 (nI at615)) (updR R 1 (.ref pq)) Z B J K613.1 (fun q99 x99 => x99 = rep G a K613 q99) w 32 at615 sz (by omega) (by omega) (by decide) hO hl0) (gV pw_793 pw_794 pw_795 pw_796 pw_781) hV_X8_take qr623 5 hqr624 rfl rfl rfl (Nat.le_of_ble_eq_true rfl) dX8_declaration_119 ⟨(by show 5 + 1 ≤ 6; omega), (by show 25 + 6 ≤ 31; omega)⟩ ⟨Nat.le_of_ble_eq_true rfl, Nat.le_of_ble_eq_true rfl⟩ (fun v622 u620 H locs hw621 hP hD hS => ?_) (fun ux ce9 q9 H9 locs9 hux hP9 hD9 hS9 hce hcv hcl => pb_out ux (ThQ.up (Thx.same (Thx.same (Thx.f Thx.rfl (by omega)) rfl) rfl) RhX.rfl hux) hnt hlocks hce hcv hcl hP9 hD9 hS9 (by show 5 + 1 ≤ 6; omega) (by show 25 + 6 ≤ 31; omega))
                obtain ⟨w, _⟩ := u620
                obtain ⟨hw621, h625, hO⟩ := hw621
                have h625 : at615 + 1 ≤ sz := h625
                obtain rfl : v622 = some (.int (nI at615)) := hw621
                have hO : OKP G h0 a (upd (upd F 2 (nI sz)) 9 (nI (at615 + 1))) (updR R 1 (.ref pq)) Z B J K613 w := hO.to rfl
                refine W.widen (k := 5) (n := 25) (by show 5 + 0 ≤ 5; omega) (by show 25 + 0 ≤ 25; omega) ?_
                refine W.eq (g2 := F0 m 122 ls [.int (nI at615)]) rfl ?_
                refine lv_pop hx hb dX8_declaration_122 rfl ?_
                refine lv_aload_n hx hb dX8_declaration_123 rfl (lv_at hl 0 rfl) ?_
                refine W_size (fun hz1 hz2 => ?_)
                refine vx_ret ?_
                have hz626 : WPr G K613 g614 := h616
                have hz627 : PgS G K613 g614 (a 1) pq dr ml (nd + 1) nm cp it s9 := h617
                have hz628 : K613.1 r374 = 4 := h618
                have hz629 : at9 + 3 ≤ (at615 + 1) ∧ (at615 + 1) ≤ sz := (by omega)
                have hO : OKP G h0 a (upd (upd F 2 (nI sz)) 9 (nI (at615 + 1))) (updR R 1 (.ref pq)) Z B J K613 w := hO.to rfl
                refine W.widen (k := 6) (n := 31) (by omega) (by omega) ?_
                have hzz1 : H.size ≤ s.heap.size + (5) := (by have z : 5 ≤ 5 := (by omega); omega)
                have hzz2 : hSl H ≤ hSl s.heap + (25) := (by have z : 25 ≤ 25 := (by omega); omega)
                exact W.aret (v := .ref r374) hx hb hr (Or.inl ⟨_, rfl⟩) (Or.inr ⟨_, rfl⟩) (fun t99 ht99 hW99 => ⟨⟨_, (w, (K613, g614, r374, (at615 + 1), (nd + 1))), rfl, ⟨rfl, hz626, hz627, hz628, hz629, hO⟩, by rw [ht99]; exact hP, hD, by rw [ht99]; exact hzz1, by rw [ht99]; exact hzz2⟩, hS.F ht99⟩) hS.2.2 dX8_declaration_124
            · have n630 : ¬ (r6 = 0) := fun h9 => c585 ((nI_eq (a := r6) (b := 0) (by omega) (by omega)).mpr h9)
              refine lv_bipush (v := 7) hx hb dX8_declaration_98 (by decide) ?_
              refine lv_goto (tgt := 105) hx hb dX8_declaration_100 (by decide) ?_
              have hO : OKW G h0 a (upd (upd (upd (upd F 2 (nI sz)) 9 (nI ((((at9 + 1) + 1) + r478) + 1))) 2 (nI sz)) 9 (nI ((((at9 + 1) + 1) + r478) + 1))) (updR R 1 (.ref pq)) Z B J K579.1 (fun q99 x99 => x99 = rep G a K579 q99) w := hO.to rfl
              obtain ⟨_, qr634, hqr635⟩ := hO.2.1 23 _ (sg_23 G h0 a _ _ _ _ _)
              refine pc_V0 (G := G) (As := [.int 7]) (rest := []) hx hb hml hown hq hE hX pX0_al hP hD hS hA hl.1 (P_takeIf l G h0 a (upd (upd F 2 (nI sz)) 9 (nI ((((at9 + 1) + 1) + r478) + 1))) (updR R 1 (.ref pq)) Z B J K579.1 (fun q99 x99 => x99 = rep G a K579 q99) w 7 ((((at9 + 1) + 1) + r478) + 1) sz (by omega) (by omega) (by decide) hO) (gV pw_797 pw_798 pw_799 pw_796 pw_789) hV_X8_takeIf qr634 5 hqr635 rfl rfl rfl (Nat.le_of_ble_eq_true rfl) dX8_declaration_105 ⟨(by show 5 + 0 ≤ 6; omega), (by show 25 + 0 ≤ 31; omega)⟩ ⟨Nat.le_of_ble_eq_true rfl, Nat.le_of_ble_eq_true rfl⟩ (fun v633 u631 H locs hw632 hP hD hS => ?_)
              obtain ⟨w, r636⟩ := u631
              obtain ⟨hw632, h637, h638, hO⟩ := hw632
              have h637 : r636 ≤ 1 := h637
              have h638 : ((((at9 + 1) + 1) + r478) + 1) + r636 ≤ sz := h638
              obtain rfl : v633 = some (.int (nI r636)) := hw632
              have hO : OKP G h0 a (upd (upd F 2 (nI sz)) 9 (nI (((((at9 + 1) + 1) + r478) + 1) + r636))) (updR R 1 (.ref pq)) Z B J K579 w := hO.to rfl
              refine W.widen (k := 5) (n := 25) (by show 5 + 0 ≤ 5; omega) (by show 25 + 0 ≤ 25; omega) ?_
              refine W.eq (g2 := F0 m 108 ls [.int (nI r636)]) rfl ?_
              refine lv_if_eq (tgt := 116) hx hb dX8_declaration_108 (by decide) (fun c639 => ?_) (fun c639 => ?_)
              · have n640 : r636 = 0 := (nI_eq (a := r636) (b := 0) (by omega) (by omega)).mp c639
                refine lv_aload_n hx hb dX8_declaration_116 rfl (lv_at hl 2 rfl) ?_
                refine lv_bipush (v := 32) hx hb dX8_declaration_117 (by decide) ?_
                have hO : OKW G h0 a (upd (upd (upd (upd (upd F 2 (nI sz)) 9 (nI at9)) 9 (nI (((((at9 + 1) + 1) + r478) + 1) + r636))) 2 (nI sz)) 9 (nI (((((at9 + 1) + 1) + r478) + 1) + r636))) (updR R 1 (.ref pq)) Z B J K579.1 (fun q99 x99 => x99 = rep G a K579 q99) w := hO.to rfl
                obtain ⟨_, qr644, hqr645⟩ := hO.2.1 23 _ (sg_23 G h0 a _ _ _ _ _)
                refine pn_V0 (G := G) (As := [.int 32]) (rest := []) hx hb hml hown hq hE hX pX0_al hP hD hS hA hl.1 (P_take l G h0 a (upd (upd (upd F 2 (nI sz)) 9 (nI at9)) 9 (nI (((((at9 + 1) + 1) + r478) + 1) + r636))) (updR R 1 (.ref pq)) Z B J K579.1 (fun q99 x99 => x99 = rep G a K579 q99) w 32 (((((at9 + 1) + 1) + r478) + 1) + r636) sz (by omega) (by omega) (by decide) hO hl0) (gV pw_793 pw_794 pw_795 pw_796 pw_781) hV_X8_take qr644 5 hqr645 rfl rfl rfl (Nat.le_of_ble_eq_true rfl) dX8_declaration_119 ⟨(by show 5 + 1 ≤ 6; omega), (by show 25 + 6 ≤ 31; omega)⟩ ⟨Nat.le_of_ble_eq_true rfl, Nat.le_of_ble_eq_true rfl⟩ (fun v643 u641 H locs hw642 hP hD hS => ?_) (fun ux ce9 q9 H9 locs9 hux hP9 hD9 hS9 hce hcv hcl => pb_out ux (ThQ.up (Thx.same (Thx.same (Thx.f Thx.rfl (by omega)) rfl) rfl) RhX.rfl hux) hnt hlocks hce hcv hcl hP9 hD9 hS9 (by show 5 + 1 ≤ 6; omega) (by show 25 + 6 ≤ 31; omega))
                obtain ⟨w, _⟩ := u641
                obtain ⟨hw642, h646, hO⟩ := hw642
                have h646 : (((((at9 + 1) + 1) + r478) + 1) + r636) + 1 ≤ sz := h646
                obtain rfl : v643 = some (.int (nI (((((at9 + 1) + 1) + r478) + 1) + r636))) := hw642
                have hO : OKP G h0 a (upd (upd F 2 (nI sz)) 9 (nI ((((((at9 + 1) + 1) + r478) + 1) + r636) + 1))) (updR R 1 (.ref pq)) Z B J K579 w := hO.to rfl
                refine W.widen (k := 5) (n := 25) (by show 5 + 0 ≤ 5; omega) (by show 25 + 0 ≤ 25; omega) ?_
                refine W.eq (g2 := F0 m 122 ls [.int (nI (((((at9 + 1) + 1) + r478) + 1) + r636))]) rfl ?_
                refine lv_pop hx hb dX8_declaration_122 rfl ?_
                refine lv_aload_n hx hb dX8_declaration_123 rfl (lv_at hl 0 rfl) ?_
                refine W_size (fun hz1 hz2 => ?_)
                refine vx_ret ?_
                have hz647 : WPr G K579 g376 := hwp583
                have hz648 : PgS G K579 g376 (a 1) pq dr ml (nd + 1) nm cp it s9 := hps584
                have hz649 : K579.1 r374 = 4 := hf581
                have hz650 : at9 + 3 ≤ ((((((at9 + 1) + 1) + r478) + 1) + r636) + 1) ∧ ((((((at9 + 1) + 1) + r478) + 1) + r636) + 1) ≤ sz := (by omega)
                have hO : OKP G h0 a (upd (upd F 2 (nI sz)) 9 (nI ((((((at9 + 1) + 1) + r478) + 1) + r636) + 1))) (updR R 1 (.ref pq)) Z B J K579 w := hO.to rfl
                refine W.widen (k := 6) (n := 31) (by omega) (by omega) ?_
                have hzz1 : H.size ≤ s.heap.size + (5) := (by have z : 5 ≤ 5 := (by omega); omega)
                have hzz2 : hSl H ≤ hSl s.heap + (25) := (by have z : 25 ≤ 25 := (by omega); omega)
                exact W.aret (v := .ref r374) hx hb hr (Or.inl ⟨_, rfl⟩) (Or.inr ⟨_, rfl⟩) (fun t99 ht99 hW99 => ⟨⟨_, (w, (K579, g376, r374, ((((((at9 + 1) + 1) + r478) + 1) + r636) + 1), (nd + 1))), rfl, ⟨rfl, hz647, hz648, hz649, hz650, hO⟩, by rw [ht99]; exact hP, hD, by rw [ht99]; exact hzz1, by rw [ht99]; exact hzz2⟩, hS.F ht99⟩) hS.2.2 dX8_declaration_124
              · have n651 : ¬ (r636 = 0) := fun h9 => c639 ((nI_eq (a := r636) (b := 0) (by omega) (by omega)).mpr h9)
                refine lv_aload_n hx hb dX8_declaration_111 rfl (lv_at hl 2 rfl) ?_
                refine lv_aload_n hx hb dX8_declaration_112 rfl (lv_at hl 0 rfl) ?_
                have hO : OKP G h0 a (upd (upd (upd (upd (upd F 2 (nI sz)) 9 (nI at9)) 9 (nI (((((at9 + 1) + 1) + r478) + 1) + r636))) 2 (nI sz)) 9 (nI (((((at9 + 1) + 1) + r478) + 1) + r636))) (updR (updR R 1 (.ref pq)) 1 (.ref pq)) Z B J K579 w := hO.to rfl
                obtain ⟨_, qr655, hqr656⟩ := hO.2.1 23 _ (sg_23 G h0 a _ _ _ _ _)
                refine pn_V0 (G := G) (As := [.ref r374]) (rest := []) hx hb hml hown hq hE hX pX0_al hP hD hS hA hl.1 (P_listI l G h0 a (upd (upd (upd F 2 (nI sz)) 9 (nI at9)) 9 (nI (((((at9 + 1) + 1) + r478) + 1) + r636))) (updR R 1 (.ref pq)) Z B J K579 w pq dr ml (nd + 1) nm cp it s9 r374 (((((at9 + 1) + 1) + r478) + 1) + r636) sz g376 (by omega) (by omega) hwp583 hps584 hf581 h380 hO hl0) (gV pw_815 pw_816 pw_817 pw_796 pw_800) hV_X8_listInterfaces qr655 5 hqr656 rfl rfl rfl (Nat.le_of_ble_eq_true rfl) dX8_declaration_113 ⟨(by show 5 + 1 ≤ 6; omega), (by show 25 + 6 ≤ 31; omega)⟩ ⟨Nat.le_of_ble_eq_true rfl, Nat.le_of_ble_eq_true rfl⟩ (fun v654 u652 H locs hw653 hP hD hS => ?_) (fun ux ce9 q9 H9 locs9 hux hP9 hD9 hS9 hce hcv hcl => pb_out ux (ThQ.up (Thx.same (Thx.same (Thx.f Thx.rfl (by omega)) rfl) rfl) (show RhX (updR R 1 (.ref pq)) (updR (updR R 1 (.ref pq)) 1 (.ref pq)) from fun k9 hk9 => by unfold updR; simp only [show ¬ k9 = 1 by omega, show ¬ k9 = 2 by omega, show ¬ k9 = 3 by omega, show ¬ k9 = 4 by omega, if_false]) hux) hnt hlocks hce hcv hcl hP9 hD9 hS9 (by show 5 + 1 ≤ 6; omega) (by show 25 + 6 ≤ 31; omega))
                obtain ⟨w, K657, g658, at659⟩ := u652
                obtain ⟨hw653, h660, h661, h662, h663, hO⟩ := hw653
                have h660 : WPr G K657 g658 := h660
                have h661 : PgS G K657 g658 (a 1) pq dr ml (nd + 1) nm cp it s9 := h661
                have h662 : K657.1 r374 = 4 := h662
                have h663 : (((((at9 + 1) + 1) + r478) + 1) + r636) + 1 ≤ at659 ∧ at659 ≤ sz := h663
                obtain rfl : v654 = none := hw653
                have hO : OKP G h0 a (upd (upd F 2 (nI sz)) 9 (nI at659)) (updR R 1 (.ref pq)) Z B J K657 w := hO.to rfl
                refine W.widen (k := 5) (n := 25) (by show 5 + 0 ≤ 5; omega) (by show 25 + 0 ≤ 25; omega) ?_
                refine W.eq (g2 := F0 m 116 ls []) rfl ?_
                refine lv_aload_n hx hb dX8_declaration_116 rfl (lv_at hl 2 rfl) ?_
                refine lv_bipush (v := 32) hx hb dX8_declaration_117 (by decide) ?_
                have hO : OKW G h0 a (upd (upd (upd (upd (upd F 2 (nI sz)) 9 (nI at9)) 9 (nI at659)) 2 (nI sz)) 9 (nI at659)) (updR R 1 (.ref pq)) Z B J K657.1 (fun q99 x99 => x99 = rep G a K657 q99) w := hO.to rfl
                obtain ⟨_, qr667, hqr668⟩ := hO.2.1 23 _ (sg_23 G h0 a _ _ _ _ _)
                refine pn_V0 (G := G) (As := [.int 32]) (rest := []) hx hb hml hown hq hE hX pX0_al hP hD hS hA hl.1 (P_take l G h0 a (upd (upd (upd F 2 (nI sz)) 9 (nI at9)) 9 (nI at659)) (updR R 1 (.ref pq)) Z B J K657.1 (fun q99 x99 => x99 = rep G a K657 q99) w 32 at659 sz (by omega) (by omega) (by decide) hO hl0) (gV pw_793 pw_794 pw_795 pw_796 pw_781) hV_X8_take qr667 5 hqr668 rfl rfl rfl (Nat.le_of_ble_eq_true rfl) dX8_declaration_119 ⟨(by show 5 + 1 ≤ 6; omega), (by show 25 + 6 ≤ 31; omega)⟩ ⟨Nat.le_of_ble_eq_true rfl, Nat.le_of_ble_eq_true rfl⟩ (fun v666 u664 H locs hw665 hP hD hS => ?_) (fun ux ce9 q9 H9 locs9 hux hP9 hD9 hS9 hce hcv hcl => pb_out ux (ThQ.up (Thx.same (Thx.same (Thx.f Thx.rfl (by omega)) rfl) rfl) RhX.rfl hux) hnt hlocks hce hcv hcl hP9 hD9 hS9 (by show 5 + 1 ≤ 6; omega) (by show 25 + 6 ≤ 31; omega))
                obtain ⟨w, _⟩ := u664
                obtain ⟨hw665, h669, hO⟩ := hw665
                have h669 : at659 + 1 ≤ sz := h669
                obtain rfl : v666 = some (.int (nI at659)) := hw665
                have hO : OKP G h0 a (upd (upd F 2 (nI sz)) 9 (nI (at659 + 1))) (updR R 1 (.ref pq)) Z B J K657 w := hO.to rfl
                refine W.widen (k := 5) (n := 25) (by show 5 + 0 ≤ 5; omega) (by show 25 + 0 ≤ 25; omega) ?_
                refine W.eq (g2 := F0 m 122 ls [.int (nI at659)]) rfl ?_
                refine lv_pop hx hb dX8_declaration_122 rfl ?_
                refine lv_aload_n hx hb dX8_declaration_123 rfl (lv_at hl 0 rfl) ?_
                refine W_size (fun hz1 hz2 => ?_)
                refine vx_ret ?_
                have hz670 : WPr G K657 g658 := h660
                have hz671 : PgS G K657 g658 (a 1) pq dr ml (nd + 1) nm cp it s9 := h661
                have hz672 : K657.1 r374 = 4 := h662
                have hz673 : at9 + 3 ≤ (at659 + 1) ∧ (at659 + 1) ≤ sz := (by omega)
                have hO : OKP G h0 a (upd (upd F 2 (nI sz)) 9 (nI (at659 + 1))) (updR R 1 (.ref pq)) Z B J K657 w := hO.to rfl
                refine W.widen (k := 6) (n := 31) (by omega) (by omega) ?_
                have hzz1 : H.size ≤ s.heap.size + (5) := (by have z : 5 ≤ 5 := (by omega); omega)
                have hzz2 : hSl H ≤ hSl s.heap + (25) := (by have z : 25 ≤ 25 := (by omega); omega)
                exact W.aret (v := .ref r374) hx hb hr (Or.inl ⟨_, rfl⟩) (Or.inr ⟨_, rfl⟩) (fun t99 ht99 hW99 => ⟨⟨_, (w, (K657, g658, r374, (at659 + 1), (nd + 1))), rfl, ⟨rfl, hz670, hz671, hz672, hz673, hO⟩, by rw [ht99]; exact hP, hD, by rw [ht99]; exact hzz1, by rw [ht99]; exact hzz2⟩, hS.F ht99⟩) hS.2.2 dX8_declaration_124
      · have n674 : ¬ (r356 = 0) := fun h9 => c359 ((nI_eq (a := r356) (b := 0) (by omega) (by omega)).mpr h9)
        refine lv_aload_n hx hb dX8_declaration_33 rfl (lv_at hl 1 rfl) ?_
        refine c_get (v := .ref (a 1)) (C := RX8) (Tc := TX8) (N := 5) (ci := 5) hx hb hq pin_wsX80 hown hE hP hO 23 (sg_23 G h0 a _ _ _ _ _) rfl 0 (by decide) (hq _ pw_774) (fun _ h9 => h9) rfl dX8_declaration_34 ?_
        refine lv_iconst (v := 2) hx hb dX8_declaration_37 (by decide) ?_
        refine lv_aload_n hx hb dX8_declaration_38 rfl (lv_at hl 1 rfl) ?_
        refine c_get (v := .int (nI at9)) (C := RX8) (Tc := TX8) (N := 5) (ci := 5) hx hb hq pin_wsX80 hown hE hP hO 23 (sg_23 G h0 a _ _ _ _ _) rfl 2 (by decide) (hq _ pw_776) (fun _ h9 => h9) rfl dX8_declaration_39 ?_
        have hO : OKW G h0 a (upd (upd (upd F 2 (nI sz)) 9 (nI at9)) 2 (nI sz)) (updR R 1 (.ref pq)) Z B J K.1 (fun q99 x99 => x99 = rep G a K q99) w := hO.to rfl
        obtain ⟨_, qr678, hqr679⟩ := hO.2.1 2 _ (sg_2 G h0 a _ _ _ _ _)
        refine pn_V0 (G := G) (As := [.int 2, .int (nI at9)]) (rest := []) hx hb hml hown hq hE hX pX0_al hP hD hS hA hl.1 (K_fail l G h0 a (upd (upd F 2 (nI sz)) 9 (nI at9)) (updR R 1 (.ref pq)) Z B J K.1 (fun q99 x99 => x99 = rep G a K q99) w 2 (nI at9) sz (by omega) hO hl0) (gV pw_779 pw_65 pw_66 pw_59 pw_43) hV_X10_fail qr678 7 hqr679 rfl rfl rfl (Nat.le_of_ble_eq_true rfl) dX8_declaration_42 ⟨(by show 0 + 1 ≤ 6; omega), (by show 0 + 6 ≤ 31; omega)⟩ ⟨Nat.le_of_ble_eq_true rfl, Nat.le_of_ble_eq_true rfl⟩ (fun v677 u675 H locs hw676 hP hD hS => hw676.elim) (fun ux ce9 q9 H9 locs9 hux hP9 hD9 hS9 hce hcv hcl => pb_out ux (ThQ.up (Thx.same Thx.rfl rfl) RhX.rfl hux) hnt hlocks hce hcv hcl hP9 hD9 hS9 (by show 0 + 1 ≤ 6; omega) (by show 0 + 6 ≤ 31; omega))
    · have n680 : r346 = 0 := (nI_eq (a := r346) (b := 0) (by omega) (by omega)).mp c349
      refine lv_aload_n hx hb dX8_declaration_19 rfl (lv_at hl 1 rfl) ?_
      have hO : OKW G h0 a (upd (upd (upd (upd F 2 (nI sz)) 9 (nI at9)) 2 (nI sz)) 9 (nI at9)) (updR R 1 (.ref pq)) Z B J K.1 (fun q99 x99 => x99 = rep G a K q99) w := hO.to rfl
      obtain ⟨_, qr684, hqr685⟩ := hO.2.1 23 _ (sg_23 G h0 a _ _ _ _ _)
      refine pn_V0 (G := G) (As := []) (rest := []) hx hb hml hown hq hE hX pX0_al hP hD hS hA hl.1 (P_refuse l G h0 a (upd (upd F 2 (nI sz)) 9 (nI at9)) (updR R 1 (.ref pq)) Z B J K.1 (fun q99 x99 => x99 = rep G a K q99) w at9 sz (by omega) (by omega) hO hl0) (gV pw_806 pw_807 pw_808 pw_796 pw_778) hV_X8_refuse qr684 5 hqr685 rfl rfl rfl (Nat.le_of_ble_eq_true rfl) dX8_declaration_20 ⟨(by show 0 + 1 ≤ 6; omega), (by show 0 + 6 ≤ 31; omega)⟩ ⟨Nat.le_of_ble_eq_true rfl, Nat.le_of_ble_eq_true rfl⟩ (fun v683 u681 H locs hw682 hP hD hS => hw682.elim) (fun ux ce9 q9 H9 locs9 hux hP9 hD9 hS9 hce hcv hcl => pb_out ux (ThQ.up (Thx.same (Thx.same Thx.rfl rfl) rfl) RhX.rfl hux) hnt hlocks hce hcv hcl hP9 hD9 hS9 (by show 0 + 1 ≤ 6; omega) (by show 0 + 6 ≤ 31; omega))
