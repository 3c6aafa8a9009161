theorem dX8_listInterfaces_0 : decode cX8_listInterfaces 0 = .ok (.aload_n 1, 1) := by decide +kernel
theorem dX8_listInterfaces_1 : decode cX8_listInterfaces 1 = .ok (.aload_n 0, 1) := by decide +kernel
theorem dX8_listInterfaces_2 : decode cX8_listInterfaces 2 = .ok (.bipush 65, 2) := by decide +kernel
theorem dX8_listInterfaces_4 : decode cX8_listInterfaces 4 = .ok (.invokevirtual 53, 3) := by decide +kernel
theorem dX8_listInterfaces_7 : decode cX8_listInterfaces 7 = .ok (.putfield 89, 3) := by decide +kernel
theorem dX8_listInterfaces_10 : decode cX8_listInterfaces 10 = .ok (.aload_n 1, 1) := by decide +kernel
theorem dX8_listInterfaces_11 : decode cX8_listInterfaces 11 = .ok (.iconst 1, 1) := by decide +kernel
theorem dX8_listInterfaces_12 : decode cX8_listInterfaces 12 = .ok (.putfield 92, 3) := by decide +kernel
theorem dX8_listInterfaces_15 : decode cX8_listInterfaces 15 = .ok (.iconst 0, 1) := by decide +kernel
theorem dX8_listInterfaces_16 : decode cX8_listInterfaces 16 = .ok (.istore_n 2, 1) := by decide +kernel
theorem dX8_listInterfaces_17 : decode cX8_listInterfaces 17 = .ok (.iload_n 2, 1) := by decide +kernel
theorem dX8_listInterfaces_18 : decode cX8_listInterfaces 18 = .ok (.aload_n 0, 1) := by decide +kernel
theorem dX8_listInterfaces_19 : decode cX8_listInterfaces 19 = .ok (.getfield 7, 3) := by decide +kernel
theorem dX8_listInterfaces_22 : decode cX8_listInterfaces 22 = .ok (.getfield 27, 3) := by decide +kernel
theorem dX8_listInterfaces_25 : decode cX8_listInterfaces 25 = .ok (.if_icmp .ge 35, 3) := by decide +kernel
theorem dX8_listInterfaces_60 : decode cX8_listInterfaces 60 = .ok (.return_, 1) := by decide +kernel
theorem dX8_listInterfaces_28 : decode cX8_listInterfaces 28 = .ok (.aload_n 0, 1) := by decide +kernel
theorem dX8_listInterfaces_29 : decode cX8_listInterfaces 29 = .ok (.bipush 39, 2) := by decide +kernel
theorem dX8_listInterfaces_31 : decode cX8_listInterfaces 31 = .ok (.invokevirtual 80, 3) := by decide +kernel
theorem dX8_listInterfaces_34 : decode cX8_listInterfaces 34 = .ok (.ifCond .eq 26, 3) := by decide +kernel
theorem dX8_listInterfaces_37 : decode cX8_listInterfaces 37 = .ok (.aload_n 0, 1) := by decide +kernel
theorem dX8_listInterfaces_38 : decode cX8_listInterfaces 38 = .ok (.bipush 65, 2) := by decide +kernel
theorem dX8_listInterfaces_40 : decode cX8_listInterfaces 40 = .ok (.invokevirtual 53, 3) := by decide +kernel
theorem dX8_listInterfaces_43 : decode cX8_listInterfaces 43 = .ok (.pop, 1) := by decide +kernel
theorem dX8_listInterfaces_44 : decode cX8_listInterfaces 44 = .ok (.aload_n 1, 1) := by decide +kernel
theorem dX8_listInterfaces_45 : decode cX8_listInterfaces 45 = .ok (.dup, 1) := by decide +kernel
theorem dX8_listInterfaces_46 : decode cX8_listInterfaces 46 = .ok (.getfield 92, 3) := by decide +kernel
theorem dX8_listInterfaces_49 : decode cX8_listInterfaces 49 = .ok (.iconst 1, 1) := by decide +kernel
theorem dX8_listInterfaces_50 : decode cX8_listInterfaces 50 = .ok (.iadd, 1) := by decide +kernel
theorem dX8_listInterfaces_51 : decode cX8_listInterfaces 51 = .ok (.putfield 92, 3) := by decide +kernel
theorem dX8_listInterfaces_54 : decode cX8_listInterfaces 54 = .ok (.iinc 2 1, 3) := by decide +kernel
theorem dX8_listInterfaces_57 : decode cX8_listInterfaces 57 = .ok (.goto (-40), 3) := by decide +kernel
set_option maxHeartbeats 16000000 in
set_option maxRecDepth 100000 in
theorem P_listI (l : Launch) (G : pT) (h0 : Nat) (a : Nat → Nat) (F : Nat → Int32) (R : Nat → Value) (Z : Int64) (B : Nat → Nat → Int32) (J : Nat → Nat → Int64) (K : PK) (w : va_W) (pq : Nat) (dr : Nat) (ml : Nat) (nd : Nat) (nm : Nat) (cp : Nat) (it : Nat → Nat) (s9 : Nat) (d0 : Nat) (at9 : Nat) (sz : Nat) (g : Nat → Nat → Nat) (hsz : sz ≤ 5000) (hat : at9 ≤ sz) (hwp : WPr G K g) (hps : PgS G K g (a 1) pq dr ml nd nm cp it s9) (hpz : PzK G K g nm it none) (hd0 : K.1 d0 = 4) (hg0 : g 5 d0 = 0) (hO : OKP G h0 a (upd (upd F 2 (nI sz)) 9 (nI at9)) (updR R 1 (.ref pq)) Z B J K w) (hl0 : l.stackTraces = false) : PBn l G pX0 yX8_listInterfaces cX8_listInterfaces 3 none ({ frames := 8, cells := 1, slots := 6, locals := 143 }) [.ref (a 3), .ref d0] w (fun (v : Option Value) (u : va_W × (PK × (Nat → Nat → Nat) × Nat)) => v = none ∧ (WPr G u.2.1 u.2.2.1) ∧ (PgS G u.2.1 u.2.2.1 (a 1) pq dr ml nd nm cp it s9) ∧ (u.2.1.1 d0 = 4) ∧ (at9 + 1 ≤ u.2.2.2 ∧ u.2.2.2 ≤ sz) ∧ (PzK G u.2.1 u.2.2.1 nm it none) ∧ (u.2.1.2.1 18 d0 = K.2.1 18 d0) ∧ (u.2.2.1 5 d0 = g 5 d0) ∧ (VaT K u.2.1) ∧ (OKP G h0 a (upd (upd F 2 (nI sz)) 9 (nI u.2.2.2)) (updR R 1 (.ref pq)) Z B J u.2.1 u.1)) (fun u => u.1) (fun (u : va_W × (PK × (Nat → Nat → Nat) × Nat)) => 0) (fun (u : va_W × (PK × (Nat → Nat → Nat) × Nat)) => 0) (fun (u : va_W × (Nat → Int32) × (Nat → Value) × (Nat → Nat → Int32)) => ThQ G h0 a (upd (upd F 2 (nI sz)) 9 (nI at9)) (updR R 1 (.ref pq)) Z B J u) (fun u => u.1) := by
  intro sz
  refine vx_ofW (cc := cX8_listInterfaces) (maxL := 3) (ret := none) (by decide) rfl ?_
  intro p e s m args below meth c s₁ B9 hml hnt hv
  obtain ⟨rfl, hsz, hP, hD0, hE, hX⟩ := hv
  have hx := B9.exec
  have hb := B9.bytes
  have hr := B9.returns
  have hts := atoms_spec (ws := Cond.code yX8_listInterfaces cX8_listInterfaces 3 none :: pw) B9.pre
  have hq : ∀ w ∈ pw, w.before _ s = true := fun w h => hts w (List.mem_cons_of_mem _ h)
  have hown : s.vm.findClass RX8 = some m.cls := findClass_of_methodNamed B9.named
  have hlocks := B9.notSynchronized
  subst hsz
  have hD := hD0.self (sz := s.heap.size)
  have hA : ∀ q : Nat, s.heap.size ≤ q → va_A w s.heap.size q := fun q h => Or.inr h
  generalize va_A w s.heap.size = A at hD hE hA ⊢
  have hS : va_S A s.heap s.heap [] := va_S.rf
  have hl := lv_entry ([.ref (a 3), .ref d0]) (n := 3) (Nat.le_of_ble_eq_true rfl)
  rw [lg_entry_eq]
  generalize (lg_sl ([.ref (a 3), .ref d0]) ++ List.replicate (3 - (lg_sl ([.ref (a 3), .ref d0])).length) Slot.unset).toArray = ls at hl ⊢
  have hl : lv_has ls 3 [(0, .ref (a 3)), (1, .ref d0)] := hl
  refine lv_aload_n hx hb dX8_listInterfaces_0 rfl (lv_at hl 1 rfl) ?_
  refine lv_aload_n hx hb dX8_listInterfaces_1 rfl (lv_at hl 0 rfl) ?_
  refine lv_bipush (v := 65) hx hb dX8_listInterfaces_2 (by decide) ?_
  have hO : OKW G h0 a (upd (upd (upd (upd F 2 (nI sz)) 9 (nI at9)) 2 (nI sz)) 9 (nI at9)) (updR R 1 (.ref pq)) Z B J K.1 (fun q99 x99 => x99 = rep G a K q99) w := hO.to rfl
  obtain ⟨_, qr4, hqr5⟩ := hO.2.1 23 _ (sg_23 G h0 a _ _ _ _ _)
  refine pn_V0 (G := G) (As := [.int 65]) (rest := [.ref d0]) hx hb hml hown hq hE hX pX0_al hP hD hS hA hl.1 (P_take l G h0 a (upd (upd F 2 (nI sz)) 9 (nI at9)) (updR R 1 (.ref pq)) Z B J K.1 (fun q99 x99 => x99 = rep G a K q99) w 65 at9 sz (by omega) (by omega) (by decide) hO hl0) (gV pw_793 pw_794 pw_795 pw_796 pw_781) hV_X8_take qr4 5 hqr5 rfl rfl rfl (Nat.le_of_ble_eq_true rfl) dX8_listInterfaces_4 ⟨(by show 0 + 1 ≤ 1; omega), (by show 0 + 6 ≤ 6; omega)⟩ ⟨Nat.le_of_ble_eq_true rfl, Nat.le_of_ble_eq_true rfl⟩ (fun v3 u1 H locs hw2 hP hD hS => ?_) (fun ux ce9 q9 H9 locs9 hux hP9 hD9 hS9 hce hcv hcl => pb_out ux (ThQ.up (Thx.same (Thx.same Thx.rfl rfl) rfl) RhX.rfl hux) hnt hlocks hce hcv hcl hP9 hD9 hS9 (by show 0 + 1 ≤ 1; omega) (by show 0 + 6 ≤ 6; omega))
  obtain ⟨w, _⟩ := u1
  obtain ⟨hw2, h6, h7, hO⟩ := hw2
  have h6 : at9 + 1 ≤ sz := h6
  have h7 : tkN ((B 7)) sz 67 (nI at9) = 65 := h7
  obtain rfl : v3 = some (.int (nI at9)) := hw2
  have hO : OKP G h0 a (upd (upd F 2 (nI sz)) 9 (nI (at9 + 1))) (updR R 1 (.ref pq)) Z B J K w := hO.to rfl
  refine W.widen (k := 0) (n := 0) (by show 0 + 0 ≤ 0; omega) (by show 0 + 0 ≤ 0; omega) ?_
  refine W.eq (g2 := F0 m 7 ls [.int (nI at9), .ref d0]) rfl ?_
  refine p_put (v := .int (nI at9)) (ty := .int) (C := RX2) (Tc := TX2) (N := 13) (ci := 2) (K' := (kI K 20 d0 (nI at9))) hx hb hq pin_wsX20 tyX2 tyX2_ok nmX2 hown hE hP hD hS hO (by rw [hd0]; decide) (rep_4 hd0) rfl 5 (by decide) (hq _ pw_790) (fun _ h9 => h9) rfl (by decide +kernel) rfl rfl (Nat.le_of_ble_eq_true rfl) rfl (by rw [rep_4 (show (kI K 20 d0 (nI at9)).1 d0 = 4 from hd0), pi_20] <;> rfl) (fun p9 hp9 => rep_kI hp9) dX8_listInterfaces_7 (fun H locs w hP hD hS hO => ?_)
  obtain ⟨K8, hK9⟩ : ∃ z : PK, z = (kI K 20 d0 (nI at9)) := ⟨_, rfl⟩
  rw [← hK9] at hO
  have hf10 : K8.1 d0 = 4 := (by rw [hK9]; exact hd0)
  have hf11 : K8.2.1 20 d0 = (nI at9) := by rw [hK9]; exact kI_eq
  have hwp12 : WPr G K8 g := by rw [hK9]; exact WPr.kI hwp (by decide) (Or.inr hg0)
  have hps13 : PgS G K8 g (a 1) pq dr ml nd nm cp it s9 := by rw [hK9]; exact PgS.kI hps (by decide)
  have hpz14 : PzK G K8 g nm it none := by rw [hK9]; exact PzK.kI hpz (by decide)
  have h18k15 : K8.2.1 18 d0 = K.2.1 18 d0 := by rw [hK9]; exact (kI_of (by decide)).trans rfl
  have hva16 : VaT K K8 := by rw [hK9]; exact fun kd ro sz a => NwT.puti ((fun _ _ _ _ => NwT.nil) kd ro sz a) (by decide)
  refine lv_aload_n hx hb dX8_listInterfaces_10 rfl (lv_at hl 1 rfl) ?_
  refine lv_iconst (v := 1) hx hb dX8_listInterfaces_11 (by decide) ?_
  refine p_put (v := .int 1) (ty := .int) (C := RX2) (Tc := TX2) (N := 13) (ci := 2) (K' := (kI K8 21 d0 1)) hx hb hq pin_wsX20 tyX2 tyX2_ok nmX2 hown hE hP hD hS hO (by rw [hf10]; decide) (rep_4 hf10) rfl 6 (by decide) (hq _ pw_791) (fun _ h9 => h9) rfl (by decide +kernel) rfl rfl (Nat.le_of_ble_eq_true rfl) rfl (by rw [rep_4 (show (kI K8 21 d0 1).1 d0 = 4 from hf10), pi_21] <;> rfl) (fun p9 hp9 => rep_kI hp9) dX8_listInterfaces_12 (fun H locs w hP hD hS hO => ?_)
  obtain ⟨K17, hK18⟩ : ∃ z : PK, z = (kI K8 21 d0 1) := ⟨_, rfl⟩
  rw [← hK18] at hO
  have hf19 : K17.1 d0 = 4 := (by rw [hK18]; exact hf10)
  have hf20 : K17.2.1 20 d0 = (nI at9) := (by rw [hK18]; exact (kI_of (by decide)).trans hf11)
  have hf21 : K17.2.1 21 d0 = 1 := by rw [hK18]; exact kI_eq
  have hwp22 : WPr G K17 g := by rw [hK18]; exact WPr.kI hwp12 (by decide) (Or.inr hg0)
  have hps23 : PgS G K17 g (a 1) pq dr ml nd nm cp it s9 := by rw [hK18]; exact PgS.kI hps13 (by decide)
  have hpz24 : PzK G K17 g nm it none := by rw [hK18]; exact PzK.kI hpz14 (by decide)
  have h18k25 : K17.2.1 18 d0 = K.2.1 18 d0 := by rw [hK18]; exact (kI_of (by decide)).trans h18k15
  have hva26 : VaT K K17 := by rw [hK18]; exact fun kd ro sz a => NwT.puti (hva16 kd ro sz a) (by decide)
  refine lv_iconst (v := 0) hx hb dX8_listInterfaces_15 (by decide) ?_
  refine lv_istore_n (lv' := [(2, .int 0), (0, .ref (a 3)), (1, .ref d0)]) hx hb dX8_listInterfaces_16 rfl hl (by decide) rfl (fun ls hl => ?_)
  have loop_i : ∀ (n_i : Nat) (i2 : Nat) (at2 : Nat) (K2 : PK) (H : Heap) (locs : List Loc) (ls : Array Slot) (w : va_W), i2 ≤ sz → sz + 1 ≤ i2 + n_i → (at9 + 1 ≤ at2 ∧ at2 ≤ sz) → (WPr G K2 g) → (PgS G K2 g (a 1) pq dr ml nd nm cp it s9) → (K2.1 d0 = 4) → (PzK G K2 g nm it none) → (K2.2.1 18 d0 = K.2.1 18 d0) → (VaT K K2) → va_P G.1 pCl w H → va_D A w → va_S A s.heap H locs → OKP G h0 a (upd (upd F 2 (nI sz)) 9 (nI at2)) (updR R 1 (.ref pq)) Z B J K2 w → lv_has ls 3 [(2, .int (nI i2)), (1, .ref d0), (0, .ref (a 3))] → W p l e (headSpec (Cond.code yX8_listInterfaces cX8_listInterfaces 3 none :: pw) ({ frames := 8, cells := 1, slots := 6, locals := 143 } : Room)).room s m ([.ref (a 3), .ref d0] : List Value).toArray below meth c H locs 0 0 (vx_MQ below (pQn G A (fun (v : Option Value) (u : va_W × (PK × (Nat → Nat → Nat) × Nat)) => v = none ∧ (WPr G u.2.1 u.2.2.1) ∧ (PgS G u.2.1 u.2.2.1 (a 1) pq dr ml nd nm cp it s9) ∧ (u.2.1.1 d0 = 4) ∧ (at9 + 1 ≤ u.2.2.2 ∧ u.2.2.2 ≤ sz) ∧ (PzK G u.2.1 u.2.2.1 nm it none) ∧ (u.2.1.2.1 18 d0 = K.2.1 18 d0) ∧ (u.2.2.1 5 d0 = g 5 d0) ∧ (VaT K u.2.1) ∧ (OKP G h0 a (upd (upd F 2 (nI sz)) 9 (nI u.2.2.2)) (updR R 1 (.ref pq)) Z B J u.2.1 u.1)) (fun u => u.1) (fun (u : va_W × (PK × (Nat → Nat → Nat) × Nat)) => 0) (fun (u : va_W × (PK × (Nat → Nat → Nat) × Nat)) => 0)) (pXX G A (fun (u : va_W × (Nat → Int32) × (Nat → Value) × (Nat → Nat → Int32)) => ThQ G h0 a (upd (upd F 2 (nI sz)) 9 (nI at9)) (updR R 1 (.ref pq)) Z B J u) (fun u => u.1)) ([.ref (a 3), .ref d0] : List Value).toArray s ({ frames := 8, cells := 1, slots := 6, locals := 143 } : Room).cells ({ frames := 8, cells := 1, slots := 6, locals := 143 } : Room).slots A) (F0 m 17 ls []) := by
    intro n_i
    induction n_i with
    | zero => intro i2 at2 K2 H locs ls w hk_i hn_i; omega
    | succ n_i ih_i =>
      intro i2 at2 K2 H locs ls w hk_i hn_i hat2 hwp2 hps2 hd2 hpz2 h18k2 hva2 hP hD hS hO hl
      refine lv_iload_n hx hb dX8_listInterfaces_17 rfl (lv_at hl 0 rfl) ?_
      refine lv_aload_n hx hb dX8_listInterfaces_18 rfl (lv_at hl 2 rfl) ?_
      refine c_get (v := .ref (a 1)) (C := RX8) (Tc := TX8) (N := 5) (ci := 5) hx hb hq pin_wsX80 hown hE hP hO 23 (sg_23 G h0 a _ _ _ _ _) rfl 0 (by decide) (hq _ pw_774) (fun _ h9 => h9) rfl dX8_listInterfaces_19 ?_
      refine c_get (v := .int (nI sz)) (C := RX10) (Tc := TX10) (N := 15) (ci := 7) hx hb hq pin_wsX100 hown hE hP hO 2 (sg_2 G h0 a _ _ _ _ _) rfl 8 (by decide) (hq _ pw_792) (fun _ h9 => h9) rfl dX8_listInterfaces_22 ?_
      refine lv_icmp_ge (tgt := 60) hx hb dX8_listInterfaces_25 (by decide) (fun c27 => ?_) (fun c27 => ?_)
      · have n28 : sz ≤ i2 := (nI_leI (a := sz) (b := i2) (by omega) (by omega)).mp c27
        refine W_size (fun hz1 hz2 => ?_)
        refine vx_ret ?_
        have hz29 : WPr G K2 g := hwp2
        have hz30 : PgS G K2 g (a 1) pq dr ml nd nm cp it s9 := hps2
        have hz31 : K2.1 d0 = 4 := hd2
        have hz32 : at9 + 1 ≤ at2 ∧ at2 ≤ sz := (by omega)
        have hz33 : PzK G K2 g nm it none := hpz2
        have hz34 : K2.2.1 18 d0 = K.2.1 18 d0 := h18k2
        have hz35 : g 5 d0 = g 5 d0 := rfl
        have hz36 : VaT K K2 := hva2
        have hO : OKP G h0 a (upd (upd F 2 (nI sz)) 9 (nI at2)) (updR R 1 (.ref pq)) Z B J K2 w := hO.to rfl
        refine W.widen (k := 1) (n := 6) (by omega) (by omega) ?_
        have hzz1 : H.size ≤ s.heap.size + (0) := (by have z : 0 ≤ 0 := (by omega); omega)
        have hzz2 : hSl H ≤ hSl s.heap + (0) := (by have z : 0 ≤ 0 := (by omega); omega)
        exact W.vret hx hb hr (fun t99 ht99 hW99 => ⟨⟨_, (w, (K2, g, at2)), rfl, ⟨rfl, hz29, hz30, hz31, hz32, hz33, hz34, hz35, hz36, hO⟩, by rw [ht99]; exact hP, hD, by rw [ht99]; exact hzz1, by rw [ht99]; exact hzz2⟩, hS.F ht99⟩) hS.2.2 dX8_listInterfaces_60
      · have n37 : ¬ (sz ≤ i2) := fun h9 => c27 ((nI_leI (a := sz) (b := i2) (by omega) (by omega)).mpr h9)
        refine lv_aload_n hx hb dX8_listInterfaces_28 rfl (lv_at hl 2 rfl) ?_
        refine lv_bipush (v := 39) hx hb dX8_listInterfaces_29 (by decide) ?_
        have hO : OKW G h0 a (upd (upd (upd (upd F 2 (nI sz)) 9 (nI at2)) 2 (nI sz)) 9 (nI at2)) (updR R 1 (.ref pq)) Z B J K2.1 (fun q99 x99 => x99 = rep G a K2 q99) w := hO.to rfl
        obtain ⟨_, qr41, hqr42⟩ := hO.2.1 23 _ (sg_23 G h0 a _ _ _ _ _)
        refine pc_V0 (G := G) (As := [.int 39]) (rest := []) hx hb hml hown hq hE hX pX0_al hP hD hS hA hl.1 (P_takeIf l G h0 a (upd (upd F 2 (nI sz)) 9 (nI at2)) (updR R 1 (.ref pq)) Z B J K2.1 (fun q99 x99 => x99 = rep G a K2 q99) w 39 at2 sz (by omega) (by omega) (by decide) hO) (gV pw_797 pw_798 pw_799 pw_796 pw_789) hV_X8_takeIf qr41 5 hqr42 rfl rfl rfl (Nat.le_of_ble_eq_true rfl) dX8_listInterfaces_31 ⟨(by show 0 + 0 ≤ 1; omega), (by show 0 + 0 ≤ 6; omega)⟩ ⟨Nat.le_of_ble_eq_true rfl, Nat.le_of_ble_eq_true rfl⟩ (fun v40 u38 H locs hw39 hP hD hS => ?_)
        obtain ⟨w, r43⟩ := u38
        obtain ⟨hw39, h44, h45, h46, hO⟩ := hw39
        have h44 : r43 ≤ 1 := h44
        have h45 : at2 + r43 ≤ sz := h45
        have h46 : SeQ ((B 7)) sz at2 39 r43 := h46
        obtain rfl : v40 = some (.int (nI r43)) := hw39
        have hO : OKP G h0 a (upd (upd F 2 (nI sz)) 9 (nI (at2 + r43))) (updR R 1 (.ref pq)) Z B J K2 w := hO.to rfl
        refine W.widen (k := 0) (n := 0) (Nat.le_of_ble_eq_true rfl) (Nat.le_of_ble_eq_true rfl) ?_
        refine W.eq (g2 := F0 m 34 ls [.int (nI r43)]) rfl ?_
        refine lv_if_eq (tgt := 60) hx hb dX8_listInterfaces_34 (by decide) (fun c47 => ?_) (fun c47 => ?_)
        · have n48 : r43 = 0 := (nI_eq (a := r43) (b := 0) (by omega) (by omega)).mp c47
          refine W_size (fun hz1 hz2 => ?_)
          refine vx_ret ?_
          have hz49 : WPr G K2 g := hwp2
          have hz50 : PgS G K2 g (a 1) pq dr ml nd nm cp it s9 := hps2
          have hz51 : K2.1 d0 = 4 := hd2
          have hz52 : at9 + 1 ≤ (at2 + r43) ∧ (at2 + r43) ≤ sz := (by omega)
          have hz53 : PzK G K2 g nm it none := hpz2
          have hz54 : K2.2.1 18 d0 = K.2.1 18 d0 := h18k2
          have hz55 : g 5 d0 = g 5 d0 := rfl
          have hz56 : VaT K K2 := hva2
          have hO : OKP G h0 a (upd (upd F 2 (nI sz)) 9 (nI (at2 + r43))) (updR R 1 (.ref pq)) Z B J K2 w := hO.to rfl
          refine W.widen (k := 1) (n := 6) (by omega) (by omega) ?_
          have hzz1 : H.size ≤ s.heap.size + (0) := (by have z : 0 ≤ 0 := (by omega); omega)
          have hzz2 : hSl H ≤ hSl s.heap + (0) := (by have z : 0 ≤ 0 := (by omega); omega)
          exact W.vret hx hb hr (fun t99 ht99 hW99 => ⟨⟨_, (w, (K2, g, (at2 + r43))), rfl, ⟨rfl, hz49, hz50, hz51, hz52, hz53, hz54, hz55, hz56, hO⟩, by rw [ht99]; exact hP, hD, by rw [ht99]; exact hzz1, by rw [ht99]; exact hzz2⟩, hS.F ht99⟩) hS.2.2 dX8_listInterfaces_60
        · have n57 : ¬ (r43 = 0) := fun h9 => c47 ((nI_eq (a := r43) (b := 0) (by omega) (by omega)).mpr h9)
          refine lv_aload_n hx hb dX8_listInterfaces_37 rfl (lv_at hl 2 rfl) ?_
          refine lv_bipush (v := 65) hx hb dX8_listInterfaces_38 (by decide) ?_
          have hO : OKW G h0 a (upd (upd (upd (upd (upd F 2 (nI sz)) 9 (nI at9)) 9 (nI (at2 + r43))) 2 (nI sz)) 9 (nI (at2 + r43))) (updR R 1 (.ref pq)) Z B J K2.1 (fun q99 x99 => x99 = rep G a K2 q99) w := hO.to rfl
          obtain ⟨_, qr61, hqr62⟩ := hO.2.1 23 _ (sg_23 G h0 a _ _ _ _ _)
          refine pn_V0 (G := G) (As := [.int 65]) (rest := []) hx hb hml hown hq hE hX pX0_al hP hD hS hA hl.1 (P_take l G h0 a (upd (upd (upd F 2 (nI sz)) 9 (nI at9)) 9 (nI (at2 + r43))) (updR R 1 (.ref pq)) Z B J K2.1 (fun q99 x99 => x99 = rep G a K2 q99) w 65 (at2 + r43) sz (by omega) (by omega) (by decide) hO hl0) (gV pw_793 pw_794 pw_795 pw_796 pw_781) hV_X8_take qr61 5 hqr62 rfl rfl rfl (Nat.le_of_ble_eq_true rfl) dX8_listInterfaces_40 ⟨(by show 0 + 1 ≤ 1; omega), (by show 0 + 6 ≤ 6; omega)⟩ ⟨Nat.le_of_ble_eq_true rfl, Nat.le_of_ble_eq_true rfl⟩ (fun v60 u58 H locs hw59 hP hD hS => ?_) (fun ux ce9 q9 H9 locs9 hux hP9 hD9 hS9 hce hcv hcl => pb_out ux (ThQ.up (Thx.same (Thx.same (Thx.f Thx.rfl (by omega)) rfl) rfl) RhX.rfl hux) hnt hlocks hce hcv hcl hP9 hD9 hS9 (by show 0 + 1 ≤ 1; omega) (by show 0 + 6 ≤ 6; omega))
          obtain ⟨w, _⟩ := u58
          obtain ⟨hw59, h63, h64, hO⟩ := hw59
          have h63 : (at2 + r43) + 1 ≤ sz := h63
          have h64 : tkN ((B 7)) sz 67 (nI (at2 + r43)) = 65 := h64
          obtain rfl : v60 = some (.int (nI (at2 + r43))) := hw59
          have hO : OKP G h0 a (upd (upd F 2 (nI sz)) 9 (nI ((at2 + r43) + 1))) (updR R 1 (.ref pq)) Z B J K2 w := hO.to rfl
          refine W.widen (k := 0) (n := 0) (by show 0 + 0 ≤ 0; omega) (by show 0 + 0 ≤ 0; omega) ?_
          refine W.eq (g2 := F0 m 43 ls [.int (nI (at2 + r43))]) rfl ?_
          refine lv_pop hx hb dX8_listInterfaces_43 rfl ?_
          refine lv_aload_n hx hb dX8_listInterfaces_44 rfl (lv_at hl 1 rfl) ?_
          refine lv_dup hx hb dX8_listInterfaces_45 rfl ?_
          refine p_get (v := .int (K2.2.1 21 d0)) (C := RX2) (Tc := TX2) (N := 13) (ci := 2) hx hb hq pin_wsX20 hown hE hP hO (by rw [hd2]; decide) (rep_4 hd2) rfl 6 (by decide) (hq _ pw_791) (fun _ h9 => h9) rfl dX8_listInterfaces_46 ?_
          refine lv_iconst (v := 1) hx hb dX8_listInterfaces_49 (by decide) ?_
          refine lv_iadd hx hb dX8_listInterfaces_50 ?_
          refine lv_topi (fun x65 e66 => ?_)
          refine p_put (v := .int x65) (ty := .int) (C := RX2) (Tc := TX2) (N := 13) (ci := 2) (K' := (kI K2 21 d0 x65)) hx hb hq pin_wsX20 tyX2 tyX2_ok nmX2 hown hE hP hD hS hO (by rw [hd2]; decide) (rep_4 hd2) rfl 6 (by decide) (hq _ pw_791) (fun _ h9 => h9) rfl (by decide +kernel) rfl rfl (Nat.le_of_ble_eq_true rfl) rfl (by rw [rep_4 (show (kI K2 21 d0 x65).1 d0 = 4 from hd2), pi_21] <;> rfl) (fun p9 hp9 => rep_kI hp9) dX8_listInterfaces_51 (fun H locs w hP hD hS hO => ?_)
          obtain ⟨K67, hK68⟩ : ∃ z : PK, z = (kI K2 21 d0 x65) := ⟨_, rfl⟩
          rw [← hK68] at hO
          have hf69 : K67.1 d0 = 4 := (by rw [hK68]; exact hd2)
          have hf70 : K67.2.1 21 d0 = x65 := by rw [hK68]; exact kI_eq
          have hwp71 : WPr G K67 g := by rw [hK68]; exact WPr.kI hwp2 (by decide) (Or.inr hg0)
          have hps72 : PgS G K67 g (a 1) pq dr ml nd nm cp it s9 := by rw [hK68]; exact PgS.kI hps2 (by decide)
          have hpz73 : PzK G K67 g nm it none := by rw [hK68]; exact PzK.kI hpz2 (by decide)
          have h18k74 : K67.2.1 18 d0 = K.2.1 18 d0 := by rw [hK68]; exact (kI_of (by decide)).trans h18k2
          have hva75 : VaT K K67 := by rw [hK68]; exact fun kd ro sz a => NwT.puti (hva2 kd ro sz a) (by decide)
          refine lv_iinc (v := (nI (i2 + 1))) (lv' := [(2, .int (nI (i2 + 1))), (1, .ref d0), (0, .ref (a 3))]) hx hb dX8_listInterfaces_54 hl (k := 0) rfl (nI_1 i2) (by decide) rfl (fun ls hl => ?_)
          refine lv_goto (tgt := 17) hx hb dX8_listInterfaces_57 (by decide) ?_
          refine W.widen (k := 0) (n := 0) (by show 0 ≤ _; omega) (by show 0 ≤ _; omega) ?_
          have hO : OKP G h0 a (upd (upd F 2 (nI sz)) 9 (nI ((at2 + r43) + 1))) (updR R 1 (.ref pq)) Z B J K67 w := hO.to rfl
          exact ih_i (i2 + 1) ((at2 + r43) + 1) K67 _ _ _ _ (by omega) (by omega) (by omega) hwp71 hps72 hf69 hpz73 h18k74 hva75 hP hD hS hO (lv_sub hl [0, 1, 2] rfl)
  refine W.widen (k := 0) (n := 0) (by show 0 ≤ _; omega) (by show 0 ≤ _; omega) ?_
  have hO : OKP G h0 a (upd (upd F 2 (nI sz)) 9 (nI (at9 + 1))) (updR R 1 (.ref pq)) Z B J K17 w := hO.to rfl
  exact loop_i (sz + 1) 0 (at9 + 1) K17 _ _ _ _ (by omega) (by omega) (by omega) hwp22 hps23 hf19 hpz24 h18k25 hva26 hP hD hS hO (lv_sub hl [0, 2, 1] rfl)
theorem dX8_declaration_0 : decode cX8_declaration 0 = .ok (.aload_n 0, 1) := by decide +kernel
theorem dX8_declaration_1 : decode cX8_declaration 1 = .ok (.bipush 14, 2) := by decide +kernel
theorem dX8_declaration_3 : decode cX8_declaration 3 = .ok (.invokevirtual 36, 3) := by decide +kernel
theorem dX8_declaration_6 : decode cX8_declaration 6 = .ok (.istore_n 1, 1) := by decide +kernel
theorem dX8_declaration_7 : decode cX8_declaration 7 = .ok (.iload_n 1, 1) := by decide +kernel
theorem dX8_declaration_8 : decode cX8_declaration 8 = .ok (.ifCond .ne 15, 3) := by decide +kernel
theorem dX8_declaration_23 : decode cX8_declaration 23 = .ok (.aload_n 0, 1) := by decide +kernel
theorem dX8_declaration_24 : decode cX8_declaration 24 = .ok (.getfield 13, 3) := by decide +kernel
theorem dX8_declaration_27 : decode cX8_declaration 27 = .ok (.invokevirtual 70, 3) := by decide +kernel
theorem dX8_declaration_30 : decode cX8_declaration 30 = .ok (.ifCond .eq 15, 3) := by decide +kernel
theorem dX8_declaration_45 : decode cX8_declaration 45 = .ok (.aload_n 0, 1) := by decide +kernel
theorem dX8_declaration_46 : decode cX8_declaration 46 = .ok (.dup, 1) := by decide +kernel
theorem dX8_declaration_47 : decode cX8_declaration 47 = .ok (.getfield 17, 3) := by decide +kernel
theorem dX8_declaration_50 : decode cX8_declaration 50 = .ok (.iconst 1, 1) := by decide +kernel
theorem dX8_declaration_51 : decode cX8_declaration 51 = .ok (.iadd, 1) := by decide +kernel
theorem dX8_declaration_52 : decode cX8_declaration 52 = .ok (.putfield 17, 3) := by decide +kernel
theorem dX8_declaration_55 : decode cX8_declaration 55 = .ok (.aload_n 0, 1) := by decide +kernel
theorem dX8_declaration_56 : decode cX8_declaration 56 = .ok (.getfield 13, 3) := by decide +kernel
theorem dX8_declaration_59 : decode cX8_declaration 59 = .ok (.aload_n 0, 1) := by decide +kernel
theorem dX8_declaration_60 : decode cX8_declaration 60 = .ok (.bipush 65, 2) := by decide +kernel
theorem dX8_declaration_62 : decode cX8_declaration 62 = .ok (.invokevirtual 53, 3) := by decide +kernel
theorem dX8_declaration_65 : decode cX8_declaration 65 = .ok (.iload_n 1, 1) := by decide +kernel
theorem dX8_declaration_66 : decode cX8_declaration 66 = .ok (.invokevirtual 76, 3) := by decide +kernel
theorem dX8_declaration_69 : decode cX8_declaration 69 = .ok (.astore_n 2, 1) := by decide +kernel
theorem dX8_declaration_70 : decode cX8_declaration 70 = .ok (.iload_n 1, 1) := by decide +kernel
theorem dX8_declaration_71 : decode cX8_declaration 71 = .ok (.ifCond .ne 22, 3) := by decide +kernel
theorem dX8_declaration_93 : decode cX8_declaration 93 = .ok (.aload_n 0, 1) := by decide +kernel
theorem dX8_declaration_94 : decode cX8_declaration 94 = .ok (.iload_n 1, 1) := by decide +kernel
theorem dX8_declaration_95 : decode cX8_declaration 95 = .ok (.ifCond .eq 8, 3) := by decide +kernel
theorem dX8_declaration_103 : decode cX8_declaration 103 = .ok (.bipush 12, 2) := by decide +kernel
theorem dX8_declaration_105 : decode cX8_declaration 105 = .ok (.invokevirtual 80, 3) := by decide +kernel
theorem dX8_declaration_108 : decode cX8_declaration 108 = .ok (.ifCond .eq 8, 3) := by decide +kernel
theorem dX8_declaration_116 : decode cX8_declaration 116 = .ok (.aload_n 0, 1) := by decide +kernel
theorem dX8_declaration_117 : decode cX8_declaration 117 = .ok (.bipush 32, 2) := by decide +kernel
theorem dX8_declaration_119 : decode cX8_declaration 119 = .ok (.invokevirtual 53, 3) := by decide +kernel
theorem dX8_declaration_122 : decode cX8_declaration 122 = .ok (.pop, 1) := by decide +kernel
theorem dX8_declaration_123 : decode cX8_declaration 123 = .ok (.aload_n 2, 1) := by decide +kernel
theorem dX8_declaration_124 : decode cX8_declaration 124 = .ok (.areturn, 1) := by decide +kernel
theorem dX8_declaration_111 : decode cX8_declaration 111 = .ok (.aload_n 0, 1) := by decide +kernel
theorem dX8_declaration_112 : decode cX8_declaration 112 = .ok (.aload_n 2, 1) := by decide +kernel
theorem dX8_declaration_113 : decode cX8_declaration 113 = .ok (.invokevirtual 86, 3) := by decide +kernel
theorem dX8_declaration_98 : decode cX8_declaration 98 = .ok (.bipush 7, 2) := by decide +kernel
theorem dX8_declaration_100 : decode cX8_declaration 100 = .ok (.goto 5, 3) := by decide +kernel
theorem dX8_declaration_74 : decode cX8_declaration 74 = .ok (.aload_n 0, 1) := by decide +kernel
theorem dX8_declaration_75 : decode cX8_declaration 75 = .ok (.bipush 7, 2) := by decide +kernel
theorem dX8_declaration_77 : decode cX8_declaration 77 = .ok (.invokevirtual 80, 3) := by decide +kernel
theorem dX8_declaration_80 : decode cX8_declaration 80 = .ok (.ifCond .eq 13, 3) := by decide +kernel
theorem dX8_declaration_83 : decode cX8_declaration 83 = .ok (.aload_n 2, 1) := by decide +kernel
theorem dX8_declaration_84 : decode cX8_declaration 84 = .ok (.aload_n 0, 1) := by decide +kernel
theorem dX8_declaration_85 : decode cX8_declaration 85 = .ok (.bipush 65, 2) := by decide +kernel
theorem dX8_declaration_87 : decode cX8_declaration 87 = .ok (.invokevirtual 53, 3) := by decide +kernel
theorem dX8_declaration_90 : decode cX8_declaration 90 = .ok (.putfield 83, 3) := by decide +kernel
theorem dX8_declaration_33 : decode cX8_declaration 33 = .ok (.aload_n 0, 1) := by decide +kernel
theorem dX8_declaration_34 : decode cX8_declaration 34 = .ok (.getfield 7, 3) := by decide +kernel
theorem dX8_declaration_37 : decode cX8_declaration 37 = .ok (.iconst 2, 1) := by decide +kernel
theorem dX8_declaration_38 : decode cX8_declaration 38 = .ok (.aload_n 0, 1) := by decide +kernel
theorem dX8_declaration_39 : decode cX8_declaration 39 = .ok (.getfield 17, 3) := by decide +kernel
theorem dX8_declaration_42 : decode cX8_declaration 42 = .ok (.invokevirtual 60, 3) := by decide +kernel
theorem dX8_declaration_11 : decode cX8_declaration 11 = .ok (.aload_n 0, 1) := by decide +kernel
theorem dX8_declaration_12 : decode cX8_declaration 12 = .ok (.iconst 4, 1) := by decide +kernel
theorem dX8_declaration_13 : decode cX8_declaration 13 = .ok (.invokevirtual 36, 3) := by decide +kernel
theorem dX8_declaration_16 : decode cX8_declaration 16 = .ok (.ifCond .ne 7, 3) := by decide +kernel
theorem dX8_declaration_19 : decode cX8_declaration 19 = .ok (.aload_n 0, 1) := by decide +kernel
theorem dX8_declaration_20 : decode cX8_declaration 20 = .ok (.invokevirtual 67, 3) := by decide +kernel
theorem hV_X9_isFull : yX9_isFull.cls = RX9 ∧ yX9_isFull.cls ≠ "java/lang/invoke/MethodHandle" ∧ yX9_isFull.cls ≠ "java/lang/invoke/VarHandle" ∧ (parseMethodDescriptor yX9_isFull.desc).map (fun d => d.parameters.length) = some 0 := by decide +kernel
theorem hV_X9_addDecl : yX9_addDecl.cls = RX9 ∧ yX9_addDecl.cls ≠ "java/lang/invoke/MethodHandle" ∧ yX9_addDecl.cls ≠ "java/lang/invoke/VarHandle" ∧ (parseMethodDescriptor yX9_addDecl.desc).map (fun d => d.parameters.length) = some 2 := by decide +kernel
theorem hV_X8_listInterfaces : yX8_listInterfaces.cls = RX8 ∧ yX8_listInterfaces.cls ≠ "java/lang/invoke/MethodHandle" ∧ yX8_listInterfaces.cls ≠ "java/lang/invoke/VarHandle" ∧ (parseMethodDescriptor yX8_listInterfaces.desc).map (fun d => d.parameters.length) = some 1 := by decide +kernel
set_option maxHeartbeats 16000000 in
set_option maxRecDepth 100000 in
theorem P_declaration (l : Launch) (G : pT) (h0 : Nat) (a : Nat → Nat) (F : Nat → Int32) (R : Nat → Value) (Z : Int64) (B : Nat → Nat → Int32) (J : Nat → Nat → Int64) (K : PK) (w : va_W) (pq : Nat) (dr : Nat) (ml : Nat) (nd : Nat) (nm : Nat) (cp : Nat) (it : Nat → Nat) (s9 : Nat) (at9 : Nat) (sz : Nat) (g : Nat → Nat → Nat) (hsz : sz ≤ 5000) (hat : at9 ≤ sz) (hwp : WPr G K g) (hps : PgS G K g (a 1) pq dr ml nd nm cp it s9) (hpz : PzK G K g nm it none) (hO : OKP G h0 a (upd (upd F 2 (nI sz)) 9 (nI at9)) (updR R 1 (.ref pq)) Z B J K w) (hl0 : l.stackTraces = false) : PBn l G pX0 yX8_declaration cX8_declaration 3 (some (.object "JinjaTongue$Decl")) ({ frames := 9, cells := 6, slots := 31, locals := 167 }) [.ref (a 3)] w (fun (v : Option Value) (u : va_W × (PK × (Nat → Nat → Nat) × Nat × Nat × Nat)) => v = some (.ref u.2.2.2.1) ∧ (WPr G u.2.1 u.2.2.1) ∧ (PgS G u.2.1 u.2.2.1 (a 1) pq dr ml u.2.2.2.2.2 nm cp it s9) ∧ (u.2.1.1 u.2.2.2.1 = 4) ∧ (at9 + 3 ≤ u.2.2.2.2.1 ∧ u.2.2.2.2.1 ≤ sz) ∧ (PzK G u.2.1 u.2.2.1 nm it none) ∧ (u.2.2.1 5 u.2.2.2.1 = 0) ∧ (NwT (B 7) sz (B 10) (B 10) K u.2.1 at9 u.2.2.2.2.1) ∧ (OKP G h0 a (upd (upd F 2 (nI sz)) 9 (nI u.2.2.2.2.1)) (updR R 1 (.ref pq)) Z B J u.2.1 u.1)) (fun u => u.1) (fun (u : va_W × (PK × (Nat → Nat → Nat) × Nat × Nat × Nat)) => 5) (fun (u : va_W × (PK × (Nat → Nat → Nat) × Nat × Nat × Nat)) => 25) (fun (u : va_W × (Nat → Int32) × (Nat → Value) × (Nat → Nat → Int32)) => ThQ G h0 a (upd (upd F 2 (nI sz)) 9 (nI at9)) (updR R 1 (.ref pq)) Z B J u) (fun u => u.1) := by
  intro sz
  refine vx_ofW (cc := cX8_declaration) (maxL := 3) (ret := (some (.object "JinjaTongue$Decl"))) (by decide) rfl ?_
  intro p e s m args below meth c s₁ B9 hml hnt hv
  obtain ⟨rfl, hsz, hP, hD0, hE, hX⟩ := hv
  have hx := B9.exec
  have hb := B9.bytes
  have hr := B9.returns
  have hts := atoms_spec (ws := Cond.code yX8_declaration cX8_declaration 3 (some (.object "JinjaTongue$Decl")) :: pw) B9.pre
  have hq : ∀ w ∈ pw, w.before _ s = true := fun w h => hts w (List.mem_cons_of_mem _ h)
  have hown : s.vm.findClass RX8 = some m.cls := findClass_of_methodNamed B9.named
  have hlocks := B9.notSynchronized
  subst hsz
  have hD := hD0.self (sz := s.heap.size)
  have hA : ∀ q : Nat, s.heap.size ≤ q → va_A w s.heap.size q := fun q h => Or.inr h
  generalize va_A w s.heap.size = A at hD hE hA ⊢
  have hS : va_S A s.heap s.heap [] := va_S.rf
  have hl := lv_entry ([.ref (a 3)]) (n := 3) (Nat.le_of_ble_eq_true rfl)
  rw [lg_entry_eq]
  generalize (lg_sl ([.ref (a 3)]) ++ List.replicate (3 - (lg_sl ([.ref (a 3)])).length) Slot.unset).toArray = ls at hl ⊢
  have hl : lv_has ls 3 [(0, .ref (a 3))] := hl
  have htk0 : NwT (B 7) sz (B 10) (B 10) K K at9 at9 := NwT.nil
  have hp1 := hps.1.1
  have hp2 := hps.1.2.1
  have hp3 := hps.1.2.2.1
  have hp4 := hps.1.2.2.2.1
  have hp5 := hps.1.2.2.2.2.1
  have hp6 := hps.1.2.2.2.2.2.1
  have hp8 := hps.1.2.2.2.2.2.2.2.1
  have hp9 := hps.1.2.2.2.2.2.2.2.2
  refine lv_aload_n hx hb dX8_declaration_0 rfl (lv_at hl 0 rfl) ?_
  refine lv_bipush (v := 14) hx hb dX8_declaration_1 (by decide) ?_
  have hO : OKW G h0 a (upd (upd (upd (upd F 2 (nI sz)) 9 (nI at9)) 2 (nI sz)) 9 (nI at9)) (updR R 1 (.ref pq)) Z B J K.1 (fun q99 x99 => x99 = rep G a K q99) w := hO.to rfl
  obtain ⟨_, qr4, hqr5⟩ := hO.2.1 23 _ (sg_23 G h0 a _ _ _ _ _)
  refine pc_V0 (G := G) (As := [.int 14]) (rest := []) hx hb hml hown hq hE hX pX0_al hP hD hS hA hl.1 (P_seesT l G h0 a (upd (upd F 2 (nI sz)) 9 (nI at9)) (updR R 1 (.ref pq)) Z B J K.1 (fun q99 x99 => x99 = rep G a K q99) w 14 at9 sz (by omega) (by omega) (by decide) hO) (gV pw_803 pw_804 pw_805 pw_796 pw_775) hV_X8_sees qr4 5 hqr5 rfl rfl rfl (Nat.le_of_ble_eq_true rfl) dX8_declaration_3 ⟨(by show 0 + 0 ≤ 6; omega), (by show 0 + 0 ≤ 31; omega)⟩ ⟨Nat.le_of_ble_eq_true rfl, Nat.le_of_ble_eq_true rfl⟩ (fun v3 u1 H locs hw2 hP hD hS => ?_)
  obtain ⟨w, r6⟩ := u1
  obtain ⟨hw2, h7, h8, h9, hO⟩ := hw2
  have h7 : r6 ≤ 1 := h7
  have h8 : at9 + r6 ≤ sz := h8
  have h9 : SeQ ((B 7)) sz at9 14 r6 := h9
  obtain rfl : v3 = some (.int (nI r6)) := hw2
  have hO : OKP G h0 a (upd (upd F 2 (nI sz)) 9 (nI at9)) (updR R 1 (.ref pq)) Z B J K w := hO.to rfl
  refine W.widen (k := 0) (n := 0) (Nat.le_of_ble_eq_true rfl) (Nat.le_of_ble_eq_true rfl) ?_
  refine W.eq (g2 := F0 m 6 ls [.int (nI r6)]) rfl ?_
  refine lv_istore_n (lv' := [(1, .int (nI r6)), (0, .ref (a 3))]) hx hb dX8_declaration_6 rfl hl (by decide) rfl (fun ls hl => ?_)
  refine lv_iload_n hx hb dX8_declaration_7 rfl (lv_at hl 0 rfl) ?_
  refine lv_if_ne (tgt := 23) hx hb dX8_declaration_8 (by decide) (fun c10 => ?_) (fun c10 => ?_)
  · have n11 : ¬ (r6 = 0) := fun h9 => c10 ((nI_eq (a := r6) (b := 0) (by omega) (by omega)).mpr h9)
    refine lv_aload_n hx hb dX8_declaration_23 rfl (lv_at hl 1 rfl) ?_
    refine c_get (v := .ref pq) (C := RX8) (Tc := TX8) (N := 5) (ci := 5) hx hb hq pin_wsX80 hown hE hP hO 23 (sg_23 G h0 a _ _ _ _ _) rfl 1 (by decide) (hq _ pw_801) (fun _ h9 => h9) rfl dX8_declaration_24 ?_
    have hO : OKP G h0 a (upd (upd F 2 (nI sz)) 9 (nI at9)) (updR R 1 (.ref pq)) Z B J K w := hO.to rfl
    obtain ⟨qr15, hqr16⟩ := p_recv hO (by rw [hp1]; decide) (rep_7 hp1)
    refine pc_V0 (G := G) (As := []) (rest := []) hx hb hml hown hq hE hX pX0_al hP hD hS hA hl.1 (G_isFull l G h0 a (upd (upd F 2 (nI sz)) 9 (nI at9)) (updR R 1 (.ref pq)) Z B J K w pq dr ml nd g hps.1 hO) (gV pw_809 pw_810 pw_811 pw_106 pw_780) hV_X9_isFull qr15 6 hqr16 rfl rfl rfl (Nat.le_of_ble_eq_true rfl) dX8_declaration_27 ⟨(by show 0 + 0 ≤ 6; omega), (by show 0 + 0 ≤ 31; omega)⟩ ⟨Nat.le_of_ble_eq_true rfl, Nat.le_of_ble_eq_true rfl⟩ (fun v14 u12 H locs hw13 hP hD hS => ?_)
    obtain ⟨w, r17⟩ := u12
    obtain ⟨hw13, h18, h19, hO⟩ := hw13
    have h18 : r17 ≤ 1 := h18
    have h19 : nd + 1 ≤ 37 + r17 := h19
    obtain rfl : v14 = some (.int (nI r17)) := hw13
    have hO : OKP G h0 a (upd (upd F 2 (nI sz)) 9 (nI at9)) (updR R 1 (.ref pq)) Z B J K w := hO.to rfl
    refine W.widen (k := 0) (n := 0) (Nat.le_of_ble_eq_true rfl) (Nat.le_of_ble_eq_true rfl) ?_
    refine W.eq (g2 := F0 m 30 ls [.int (nI r17)]) rfl ?_
    refine lv_if_eq (tgt := 45) hx hb dX8_declaration_30 (by decide) (fun c20 => ?_) (fun c20 => ?_)
    · have n21 : r17 = 0 := (nI_eq (a := r17) (b := 0) (by omega) (by omega)).mp c20
      refine lv_aload_n hx hb dX8_declaration_45 rfl (lv_at hl 1 rfl) ?_
      refine lv_dup hx hb dX8_declaration_46 rfl ?_
      refine c_get (v := .int (nI at9)) (C := RX8) (Tc := TX8) (N := 5) (ci := 5) hx hb hq pin_wsX80 hown hE hP hO 23 (sg_23 G h0 a _ _ _ _ _) rfl 2 (by decide) (hq _ pw_776) (fun _ h9 => h9) rfl dX8_declaration_47 ?_
      refine lv_iconst (v := 1) hx hb dX8_declaration_50 (by decide) ?_
      refine lv_iadd hx hb dX8_declaration_51 ?_
      refine lv_topi (fun x22 e23 => ?_)
      obtain rfl : x22 = nI (at9 + 1) := e23.trans (nI_add (at9) (1))
      refine c_put (v := .int (nI (at9 + 1))) (ty := .int) (C := RX8) (Tc := TX8) (N := 5) (ci := 5) hx hb hq pin_wsX80 tyX8 tyX8_ok nmX8 hown hE hP hD hS hO 23 (sg_23 G h0 a _ _ _ _ _) rfl 2 (by decide) (hq _ pw_776) (fun _ h9 => h9) rfl (by decide +kernel) rfl rfl (Nat.le_of_ble_eq_true rfl) (sf_9 G h0 a _ _ _ _ _ (nI (at9 + 1))) dX8_declaration_52 (fun H locs w hP hD hS hO => ?_)
      refine lv_aload_n hx hb dX8_declaration_55 rfl (lv_at hl 1 rfl) ?_
      refine c_get (v := .ref pq) (C := RX8) (Tc := TX8) (N := 5) (ci := 5) hx hb hq pin_wsX80 hown hE hP hO 23 (sg_23 G h0 a _ _ _ _ _) rfl 1 (by decide) (hq _ pw_801) (fun _ h9 => h9) rfl dX8_declaration_56 ?_
      refine lv_aload_n hx hb dX8_declaration_59 rfl (lv_at hl 1 rfl) ?_
      refine lv_bipush (v := 65) hx hb dX8_declaration_60 (by decide) ?_
      have hO : OKW G h0 a (upd (upd (upd (upd (upd F 2 (nI sz)) 9 (nI at9)) 9 (nI (at9 + 1))) 2 (nI sz)) 9 (nI (at9 + 1))) (updR R 1 (.ref pq)) Z B J K.1 (fun q99 x99 => x99 = rep G a K q99) w := hO.to rfl
      obtain ⟨_, qr27, hqr28⟩ := hO.2.1 23 _ (sg_23 G h0 a _ _ _ _ _)
      refine pn_V0 (G := G) (As := [.int 65]) (rest := [.ref pq]) hx hb hml hown hq hE hX pX0_al hP hD hS hA hl.1 (P_take l G h0 a (upd (upd (upd F 2 (nI sz)) 9 (nI at9)) 9 (nI (at9 + 1))) (updR R 1 (.ref pq)) Z B J K.1 (fun q99 x99 => x99 = rep G a K q99) w 65 (at9 + 1) sz (by omega) (by omega) (by decide) hO hl0) (gV pw_793 pw_794 pw_795 pw_796 pw_781) hV_X8_take qr27 5 hqr28 rfl rfl rfl (Nat.le_of_ble_eq_true rfl) dX8_declaration_62 ⟨(by show 0 + 1 ≤ 6; omega), (by show 0 + 6 ≤ 31; omega)⟩ ⟨Nat.le_of_ble_eq_true rfl, Nat.le_of_ble_eq_true rfl⟩ (fun v26 u24 H locs hw25 hP hD hS => ?_) (fun ux ce9 q9 H9 locs9 hux hP9 hD9 hS9 hce hcv hcl => pb_out ux (ThQ.up (Thx.same (Thx.same (Thx.f Thx.rfl (by omega)) rfl) rfl) RhX.rfl hux) hnt hlocks hce hcv hcl hP9 hD9 hS9 (by show 0 + 1 ≤ 6; omega) (by show 0 + 6 ≤ 31; omega))
      obtain ⟨w, _⟩ := u24
      obtain ⟨hw25, h29, h30, hO⟩ := hw25
      have h29 : (at9 + 1) + 1 ≤ sz := h29
      have h30 : tkN ((B 7)) sz 67 (nI (at9 + 1)) = 65 := h30
      obtain rfl : v26 = some (.int (nI (at9 + 1))) := hw25
      have hO : OKP G h0 a (upd (upd F 2 (nI sz)) 9 (nI ((at9 + 1) + 1))) (updR R 1 (.ref pq)) Z B J K w := hO.to rfl
      refine W.widen (k := 0) (n := 0) (by show 0 + 0 ≤ 0; omega) (by show 0 + 0 ≤ 0; omega) ?_
      refine W.eq (g2 := F0 m 65 ls [.int (nI (at9 + 1)), .ref pq]) rfl ?_
      refine lv_iload_n hx hb dX8_declaration_65 rfl (lv_at hl 0 rfl) ?_
      have hO : OKP G h0 a (upd (upd (upd F 2 (nI sz)) 9 (nI ((at9 + 1) + 1))) 2 (nI sz)) (updR R 1 (.ref pq)) Z B J K w := hO.to rfl
      obtain ⟨qr34, hqr35⟩ := p_recv hO (by rw [hp1]; decide) (rep_7 hp1)
      refine pc_V0 (G := G) (As := [.int (nI (at9 + 1)), .int (nI r6)]) (rest := []) hx hb hml hown hq hE hX pX0_al hP hD hS hA hl.1 (G_addDecl l G h0 a (upd (upd F 2 (nI sz)) 9 (nI ((at9 + 1) + 1))) (updR R 1 (.ref pq)) Z B J K w pq dr ml nd nm cp it s9 (nI (at9 + 1)) r6 sz g (by omega) hwp hps hpz (by omega) (by omega) hO) (gV pw_812 pw_813 pw_814 pw_106 pw_788) hV_X9_addDecl qr34 6 hqr35 rfl rfl rfl (Nat.le_of_ble_eq_true rfl) dX8_declaration_66 ⟨(by show 0 + 5 ≤ 6; omega), (by show 0 + 25 ≤ 31; omega)⟩ ⟨Nat.le_of_ble_eq_true rfl, Nat.le_of_ble_eq_true rfl⟩ (fun v33 u31 H locs hw32 hP hD hS => ?_)
      obtain ⟨w, r36, K37, g38⟩ := u31
      obtain ⟨hw32, h39, h40, h41, h42, h43, h44, hO⟩ := hw32
      have h39 : WPr G K37 g38 := h39
      have h40 : PgS G K37 g38 (a 1) pq dr ml (nd + 1) nm cp it s9 := h40
      have h41 : K37.1 r36 = 4 := h41
      have h42 : g38 5 r36 = 0 := h42
      have h43 : PzK G K37 g38 nm it none := h43
      have h44 : VaT K K37 := h44
      obtain rfl : v33 = some (.ref r36) := hw32
      have hO : OKP G h0 a (upd (upd F 2 (nI sz)) 9 (nI ((at9 + 1) + 1))) (updR R 1 (.ref pq)) Z B J K37 w := hO.to rfl
      refine W.widen (k := 5) (n := 25) (by show 0 + 5 ≤ 5; omega) (by show 0 + 25 ≤ 25; omega) ?_
      refine W.eq (g2 := F0 m 69 ls [.ref r36]) rfl ?_
      have htk45 : NwT (B 7) sz (B 10) (B 10) K K37 at9 ((at9 + 1) + 1) := (NwT.call (NwT.le htk0 (show _ ≤ ((at9 + 1) + 1) by omega)) (h44 (B 7) (B 10) sz ((at9 + 1) + 1)) (Nat.le_refl _))
      refine lv_astore_n (lv' := [(2, .ref r36), (1, .int (nI r6)), (0, .ref (a 3))]) hx hb dX8_declaration_69 rfl hl (by decide) rfl (fun ls hl => ?_)
      refine lv_iload_n hx hb dX8_declaration_70 rfl (lv_at hl 1 rfl) ?_
      refine lv_if_ne (tgt := 93) hx hb dX8_declaration_71 (by decide) (fun c46 => ?_) (fun c46 => ?_)
      · have n47 : ¬ (r6 = 0) := fun h9 => c46 ((nI_eq (a := r6) (b := 0) (by omega) (by omega)).mpr h9)
        refine lv_aload_n hx hb dX8_declaration_93 rfl (lv_at hl 2 rfl) ?_
        refine lv_iload_n hx hb dX8_declaration_94 rfl (lv_at hl 1 rfl) ?_
        refine lv_if_eq (tgt := 103) hx hb dX8_declaration_95 (by decide) (fun c48 => ?_) (fun c48 => ?_)
        · have n49 : r6 = 0 := (nI_eq (a := r6) (b := 0) (by omega) (by omega)).mp c48
          refine lv_bipush (v := 12) hx hb dX8_declaration_103 (by decide) ?_
          have hO : OKW G h0 a (upd (upd (upd (upd F 2 (nI sz)) 9 (nI ((at9 + 1) + 1))) 2 (nI sz)) 9 (nI ((at9 + 1) + 1))) (updR R 1 (.ref pq)) Z B J K37.1 (fun q99 x99 => x99 = rep G a K37 q99) w := hO.to rfl
          obtain ⟨_, qr53, hqr54⟩ := hO.2.1 23 _ (sg_23 G h0 a _ _ _ _ _)
          refine pc_V0 (G := G) (As := [.int 12]) (rest := []) hx hb hml hown hq hE hX pX0_al hP hD hS hA hl.1 (P_takeIf l G h0 a (upd (upd F 2 (nI sz)) 9 (nI ((at9 + 1) + 1))) (updR R 1 (.ref pq)) Z B J K37.1 (fun q99 x99 => x99 = rep G a K37 q99) w 12 ((at9 + 1) + 1) sz (by omega) (by omega) (by decide) hO) (gV pw_797 pw_798 pw_799 pw_796 pw_789) hV_X8_takeIf qr53 5 hqr54 rfl rfl rfl (Nat.le_of_ble_eq_true rfl) dX8_declaration_105 ⟨(by show 5 + 0 ≤ 6; omega), (by show 25 + 0 ≤ 31; omega)⟩ ⟨Nat.le_of_ble_eq_true rfl, Nat.le_of_ble_eq_true rfl⟩ (fun v52 u50 H locs hw51 hP hD hS => ?_)
          obtain ⟨w, r55⟩ := u50
          obtain ⟨hw51, h56, h57, h58, hO⟩ := hw51
          have h56 : r55 ≤ 1 := h56
          have h57 : ((at9 + 1) + 1) + r55 ≤ sz := h57
          have h58 : SeQ ((B 7)) sz ((at9 + 1) + 1) 12 r55 := h58
          obtain rfl : v52 = some (.int (nI r55)) := hw51
          have hO : OKP G h0 a (upd (upd F 2 (nI sz)) 9 (nI (((at9 + 1) + 1) + r55))) (updR R 1 (.ref pq)) Z B J K37 w := hO.to rfl
          refine W.widen (k := 5) (n := 25) (by show 5 + 0 ≤ 5; omega) (by show 25 + 0 ≤ 25; omega) ?_
          refine W.eq (g2 := F0 m 108 ls [.int (nI r55)]) rfl ?_
          refine lv_if_eq (tgt := 116) hx hb dX8_declaration_108 (by decide) (fun c59 => ?_) (fun c59 => ?_)
          · have n60 : r55 = 0 := (nI_eq (a := r55) (b := 0) (by omega) (by omega)).mp c59
            refine lv_aload_n hx hb dX8_declaration_116 rfl (lv_at hl 2 rfl) ?_
            refine lv_bipush (v := 32) hx hb dX8_declaration_117 (by decide) ?_
            have hO : OKW G h0 a (upd (upd (upd (upd (upd F 2 (nI sz)) 9 (nI at9)) 9 (nI (((at9 + 1) + 1) + r55))) 2 (nI sz)) 9 (nI (((at9 + 1) + 1) + r55))) (updR R 1 (.ref pq)) Z B J K37.1 (fun q99 x99 => x99 = rep G a K37 q99) w := hO.to rfl
            obtain ⟨_, qr64, hqr65⟩ := hO.2.1 23 _ (sg_23 G h0 a _ _ _ _ _)
            refine pn_V0 (G := G) (As := [.int 32]) (rest := []) hx hb hml hown hq hE hX pX0_al hP hD hS hA hl.1 (P_take l G h0 a (upd (upd (upd F 2 (nI sz)) 9 (nI at9)) 9 (nI (((at9 + 1) + 1) + r55))) (updR R 1 (.ref pq)) Z B J K37.1 (fun q99 x99 => x99 = rep G a K37 q99) w 32 (((at9 + 1) + 1) + r55) sz (by omega) (by omega) (by decide) hO hl0) (gV pw_793 pw_794 pw_795 pw_796 pw_781) hV_X8_take qr64 5 hqr65 rfl rfl rfl (Nat.le_of_ble_eq_true rfl) dX8_declaration_119 ⟨(by show 5 + 1 ≤ 6; omega), (by show 25 + 6 ≤ 31; omega)⟩ ⟨Nat.le_of_ble_eq_true rfl, Nat.le_of_ble_eq_true rfl⟩ (fun v63 u61 H locs hw62 hP hD hS => ?_) (fun ux ce9 q9 H9 locs9 hux hP9 hD9 hS9 hce hcv hcl => pb_out ux (ThQ.up (Thx.same (Thx.same (Thx.f Thx.rfl (by omega)) rfl) rfl) RhX.rfl hux) hnt hlocks hce hcv hcl hP9 hD9 hS9 (by show 5 + 1 ≤ 6; omega) (by show 25 + 6 ≤ 31; omega))
            obtain ⟨w, _⟩ := u61
            obtain ⟨hw62, h66, h67, hO⟩ := hw62
            have h66 : (((at9 + 1) + 1) + r55) + 1 ≤ sz := h66
            have h67 : tkN ((B 7)) sz 67 (nI (((at9 + 1) + 1) + r55)) = 32 := h67
            obtain rfl : v63 = some (.int (nI (((at9 + 1) + 1) + r55))) := hw62
            have hO : OKP G h0 a (upd (upd F 2 (nI sz)) 9 (nI ((((at9 + 1) + 1) + r55) + 1))) (updR R 1 (.ref pq)) Z B J K37 w := hO.to rfl
            refine W.widen (k := 5) (n := 25) (by show 5 + 0 ≤ 5; omega) (by show 25 + 0 ≤ 25; omega) ?_
            refine W.eq (g2 := F0 m 122 ls [.int (nI (((at9 + 1) + 1) + r55))]) rfl ?_
            refine lv_pop hx hb dX8_declaration_122 rfl ?_
            refine lv_aload_n hx hb dX8_declaration_123 rfl (lv_at hl 0 rfl) ?_
            refine W_size (fun hz1 hz2 => ?_)
            refine vx_ret ?_
            have hz68 : WPr G K37 g38 := h39
            have hz69 : PgS G K37 g38 (a 1) pq dr ml (nd + 1) nm cp it s9 := h40
            have hz70 : K37.1 r36 = 4 := h41
            have hz71 : at9 + 3 ≤ ((((at9 + 1) + 1) + r55) + 1) ∧ ((((at9 + 1) + 1) + r55) + 1) ≤ sz := (by omega)
            have hz72 : PzK G K37 g38 nm it none := h43
            have hz73 : g38 5 r36 = 0 := h42
            have hz74 : NwT (B 7) sz (B 10) (B 10) K K37 at9 ((((at9 + 1) + 1) + r55) + 1) := (NwT.le htk45 (by omega))
            have hO : OKP G h0 a (upd (upd F 2 (nI sz)) 9 (nI ((((at9 + 1) + 1) + r55) + 1))) (updR R 1 (.ref pq)) Z B J K37 w := hO.to rfl
            refine W.widen (k := 6) (n := 31) (by omega) (by omega) ?_
            have hzz1 : H.size ≤ s.heap.size + (5) := (by have z : 5 ≤ 5 := (by omega); omega)
            have hzz2 : hSl H ≤ hSl s.heap + (25) := (by have z : 25 ≤ 25 := (by omega); omega)
            exact W.aret (v := .ref r36) hx hb hr (Or.inl ⟨_, rfl⟩) (Or.inr ⟨_, rfl⟩) (fun t99 ht99 hW99 => ⟨⟨_, (w, (K37, g38, r36, ((((at9 + 1) + 1) + r55) + 1), (nd + 1))), rfl, ⟨rfl, hz68, hz69, hz70, hz71, hz72, hz73, hz74, hO⟩, by rw [ht99]; exact hP, hD, by rw [ht99]; exact hzz1, by rw [ht99]; exact hzz2⟩, hS.F ht99⟩) hS.2.2 dX8_declaration_124
          · have n75 : ¬ (r55 = 0) := fun h9 => c59 ((nI_eq (a := r55) (b := 0) (by omega) (by omega)).mpr h9)
            refine lv_aload_n hx hb dX8_declaration_111 rfl (lv_at hl 2 rfl) ?_
            refine lv_aload_n hx hb dX8_declaration_112 rfl (lv_at hl 0 rfl) ?_
            have hO : OKP G h0 a (upd (upd (upd (upd (upd F 2 (nI sz)) 9 (nI at9)) 9 (nI (((at9 + 1) + 1) + r55))) 2 (nI sz)) 9 (nI (((at9 + 1) + 1) + r55))) (updR (updR R 1 (.ref pq)) 1 (.ref pq)) Z B J K37 w := hO.to rfl
            obtain ⟨_, qr79, hqr80⟩ := hO.2.1 23 _ (sg_23 G h0 a _ _ _ _ _)
            refine pn_V0 (G := G) (As := [.ref r36]) (rest := []) hx hb hml hown hq hE hX pX0_al hP hD hS hA hl.1 (P_listI l G h0 a (upd (upd (upd F 2 (nI sz)) 9 (nI at9)) 9 (nI (((at9 + 1) + 1) + r55))) (updR R 1 (.ref pq)) Z B J K37 w pq dr ml (nd + 1) nm cp it s9 r36 (((at9 + 1) + 1) + r55) sz g38 (by omega) (by omega) h39 h40 h43 h41 h42 hO hl0) (gV pw_815 pw_816 pw_817 pw_796 pw_800) hV_X8_listInterfaces qr79 5 hqr80 rfl rfl rfl (Nat.le_of_ble_eq_true rfl) dX8_declaration_113 ⟨(by show 5 + 1 ≤ 6; omega), (by show 25 + 6 ≤ 31; omega)⟩ ⟨Nat.le_of_ble_eq_true rfl, Nat.le_of_ble_eq_true rfl⟩ (fun v78 u76 H locs hw77 hP hD hS => ?_) (fun ux ce9 q9 H9 locs9 hux hP9 hD9 hS9 hce hcv hcl => pb_out ux (ThQ.up (Thx.same (Thx.same (Thx.f Thx.rfl (by omega)) rfl) rfl) (show RhX (updR R 1 (.ref pq)) (updR (updR R 1 (.ref pq)) 1 (.ref pq)) from fun k9 hk9 => by unfold updR; simp only [show ¬ k9 = 1 by omega, show ¬ k9 = 2 by omega, show ¬ k9 = 3 by omega, show ¬ k9 = 4 by omega, if_false]) hux) hnt hlocks hce hcv hcl hP9 hD9 hS9 (by show 5 + 1 ≤ 6; omega) (by show 25 + 6 ≤ 31; omega))
            obtain ⟨w, K81, g82, at83⟩ := u76
            obtain ⟨hw77, h84, h85, h86, h87, h88, h89, h90, h91, hO⟩ := hw77
            have h84 : WPr G K81 g82 := h84
            have h85 : PgS G K81 g82 (a 1) pq dr ml (nd + 1) nm cp it s9 := h85
            have h86 : K81.1 r36 = 4 := h86
            have h87 : (((at9 + 1) + 1) + r55) + 1 ≤ at83 ∧ at83 ≤ sz := h87
            have h88 : PzK G K81 g82 nm it none := h88
            have h89 : K81.2.1 18 r36 = K37.2.1 18 r36 := h89
            have h90 : g82 5 r36 = g38 5 r36 := h90
            have h91 : VaT K37 K81 := h91
            obtain rfl : v78 = none := hw77
            have hO : OKP G h0 a (upd (upd F 2 (nI sz)) 9 (nI at83)) (updR R 1 (.ref pq)) Z B J K81 w := hO.to rfl
            refine W.widen (k := 5) (n := 25) (by show 5 + 0 ≤ 5; omega) (by show 25 + 0 ≤ 25; omega) ?_
            refine W.eq (g2 := F0 m 116 ls []) rfl ?_
            have htk92 : NwT (B 7) sz (B 10) (B 10) K K81 at9 (((at9 + 1) + 1) + r55) := (NwT.call (NwT.le htk45 (show _ ≤ (((at9 + 1) + 1) + r55) by omega)) (h91 (B 7) (B 10) sz (((at9 + 1) + 1) + r55)) (Nat.le_refl _))
            refine lv_aload_n hx hb dX8_declaration_116 rfl (lv_at hl 2 rfl) ?_
            refine lv_bipush (v := 32) hx hb dX8_declaration_117 (by decide) ?_
            have hO : OKW G h0 a (upd (upd (upd (upd (upd F 2 (nI sz)) 9 (nI at9)) 9 (nI at83)) 2 (nI sz)) 9 (nI at83)) (updR R 1 (.ref pq)) Z B J K81.1 (fun q99 x99 => x99 = rep G a K81 q99) w := hO.to rfl
            obtain ⟨_, qr96, hqr97⟩ := hO.2.1 23 _ (sg_23 G h0 a _ _ _ _ _)
            refine pn_V0 (G := G) (As := [.int 32]) (rest := []) hx hb hml hown hq hE hX pX0_al hP hD hS hA hl.1 (P_take l G h0 a (upd (upd (upd F 2 (nI sz)) 9 (nI at9)) 9 (nI at83)) (updR R 1 (.ref pq)) Z B J K81.1 (fun q99 x99 => x99 = rep G a K81 q99) w 32 at83 sz (by omega) (by omega) (by decide) hO hl0) (gV pw_793 pw_794 pw_795 pw_796 pw_781) hV_X8_take qr96 5 hqr97 rfl rfl rfl (Nat.le_of_ble_eq_true rfl) dX8_declaration_119 ⟨(by show 5 + 1 ≤ 6; omega), (by show 25 + 6 ≤ 31; omega)⟩ ⟨Nat.le_of_ble_eq_true rfl, Nat.le_of_ble_eq_true rfl⟩ (fun v95 u93 H locs hw94 hP hD hS => ?_) (fun ux ce9 q9 H9 locs9 hux hP9 hD9 hS9 hce hcv hcl => pb_out ux (ThQ.up (Thx.same (Thx.same (Thx.f Thx.rfl (by omega)) rfl) rfl) RhX.rfl hux) hnt hlocks hce hcv hcl hP9 hD9 hS9 (by show 5 + 1 ≤ 6; omega) (by show 25 + 6 ≤ 31; omega))
            obtain ⟨w, _⟩ := u93
            obtain ⟨hw94, h98, h99, hO⟩ := hw94
            have h98 : at83 + 1 ≤ sz := h98
            have h99 : tkN ((B 7)) sz 67 (nI at83) = 32 := h99
            obtain rfl : v95 = some (.int (nI at83)) := hw94
            have hO : OKP G h0 a (upd (upd F 2 (nI sz)) 9 (nI (at83 + 1))) (updR R 1 (.ref pq)) Z B J K81 w := hO.to rfl
            refine W.widen (k := 5) (n := 25) (by show 5 + 0 ≤ 5; omega) (by show 25 + 0 ≤ 25; omega) ?_
            refine W.eq (g2 := F0 m 122 ls [.int (nI at83)]) rfl ?_
            refine lv_pop hx hb dX8_declaration_122 rfl ?_
            refine lv_aload_n hx hb dX8_declaration_123 rfl (lv_at hl 0 rfl) ?_
            refine W_size (fun hz1 hz2 => ?_)
            refine vx_ret ?_
            have hz100 : WPr G K81 g82 := h84
            have hz101 : PgS G K81 g82 (a 1) pq dr ml (nd + 1) nm cp it s9 := h85
            have hz102 : K81.1 r36 = 4 := h86
            have hz103 : at9 + 3 ≤ (at83 + 1) ∧ (at83 + 1) ≤ sz := (by omega)
            have hz104 : PzK G K81 g82 nm it none := h88
            have hz105 : g82 5 r36 = 0 := (h90.trans h42)
            have hz106 : NwT (B 7) sz (B 10) (B 10) K K81 at9 (at83 + 1) := (NwT.le htk92 (by omega))
            have hO : OKP G h0 a (upd (upd F 2 (nI sz)) 9 (nI (at83 + 1))) (updR R 1 (.ref pq)) Z B J K81 w := hO.to rfl
            refine W.widen (k := 6) (n := 31) (by omega) (by omega) ?_
            have hzz1 : H.size ≤ s.heap.size + (5) := (by have z : 5 ≤ 5 := (by omega); omega)
            have hzz2 : hSl H ≤ hSl s.heap + (25) := (by have z : 25 ≤ 25 := (by omega); omega)
            exact W.aret (v := .ref r36) hx hb hr (Or.inl ⟨_, rfl⟩) (Or.inr ⟨_, rfl⟩) (fun t99 ht99 hW99 => ⟨⟨_, (w, (K81, g82, r36, (at83 + 1), (nd + 1))), rfl, ⟨rfl, hz100, hz101, hz102, hz103, hz104, hz105, hz106, hO⟩, by rw [ht99]; exact hP, hD, by rw [ht99]; exact hzz1, by rw [ht99]; exact hzz2⟩, hS.F ht99⟩) hS.2.2 dX8_declaration_124
        · have n107 : ¬ (r6 = 0) := fun h9 => c48 ((nI_eq (a := r6) (b := 0) (by omega) (by omega)).mpr h9)
          refine lv_bipush (v := 7) hx hb dX8_declaration_98 (by decide) ?_
          refine lv_goto (tgt := 105) hx hb dX8_declaration_100 (by decide) ?_
          have hO : OKW G h0 a (upd (upd (upd (upd F 2 (nI sz)) 9 (nI ((at9 + 1) + 1))) 2 (nI sz)) 9 (nI ((at9 + 1) + 1))) (updR R 1 (.ref pq)) Z B J K37.1 (fun q99 x99 => x99 = rep G a K37 q99) w := hO.to rfl
          obtain ⟨_, qr111, hqr112⟩ := hO.2.1 23 _ (sg_23 G h0 a _ _ _ _ _)
          refine pc_V0 (G := G) (As := [.int 7]) (rest := []) hx hb hml hown hq hE hX pX0_al hP hD hS hA hl.1 (P_takeIf l G h0 a (upd (upd F 2 (nI sz)) 9 (nI ((at9 + 1) + 1))) (updR R 1 (.ref pq)) Z B J K37.1 (fun q99 x99 => x99 = rep G a K37 q99) w 7 ((at9 + 1) + 1) sz (by omega) (by omega) (by decide) hO) (gV pw_797 pw_798 pw_799 pw_796 pw_789) hV_X8_takeIf qr111 5 hqr112 rfl rfl rfl (Nat.le_of_ble_eq_true rfl) dX8_declaration_105 ⟨(by show 5 + 0 ≤ 6; omega), (by show 25 + 0 ≤ 31; omega)⟩ ⟨Nat.le_of_ble_eq_true rfl, Nat.le_of_ble_eq_true rfl⟩ (fun v110 u108 H locs hw109 hP hD hS => ?_)
          obtain ⟨w, r113⟩ := u108
          obtain ⟨hw109, h114, h115, h116, hO⟩ := hw109
          have h114 : r113 ≤ 1 := h114
          have h115 : ((at9 + 1) + 1) + r113 ≤ sz := h115
          have h116 : SeQ ((B 7)) sz ((at9 + 1) + 1) 7 r113 := h116
          obtain rfl : v110 = some (.int (nI r113)) := hw109
          have hO : OKP G h0 a (upd (upd F 2 (nI sz)) 9 (nI (((at9 + 1) + 1) + r113))) (updR R 1 (.ref pq)) Z B J K37 w := hO.to rfl
          refine W.widen (k := 5) (n := 25) (by show 5 + 0 ≤ 5; omega) (by show 25 + 0 ≤ 25; omega) ?_
          refine W.eq (g2 := F0 m 108 ls [.int (nI r113)]) rfl ?_
          refine lv_if_eq (tgt := 116) hx hb dX8_declaration_108 (by decide) (fun c117 => ?_) (fun c117 => ?_)
          · have n118 : r113 = 0 := (nI_eq (a := r113) (b := 0) (by omega) (by omega)).mp c117
            refine lv_aload_n hx hb dX8_declaration_116 rfl (lv_at hl 2 rfl) ?_
            refine lv_bipush (v := 32) hx hb dX8_declaration_117 (by decide) ?_
            have hO : OKW G h0 a (upd (upd (upd (upd (upd F 2 (nI sz)) 9 (nI at9)) 9 (nI (((at9 + 1) + 1) + r113))) 2 (nI sz)) 9 (nI (((at9 + 1) + 1) + r113))) (updR R 1 (.ref pq)) Z B J K37.1 (fun q99 x99 => x99 = rep G a K37 q99) w := hO.to rfl
            obtain ⟨_, qr122, hqr123⟩ := hO.2.1 23 _ (sg_23 G h0 a _ _ _ _ _)
            refine pn_V0 (G := G) (As := [.int 32]) (rest := []) hx hb hml hown hq hE hX pX0_al hP hD hS hA hl.1 (P_take l G h0 a (upd (upd (upd F 2 (nI sz)) 9 (nI at9)) 9 (nI (((at9 + 1) + 1) + r113))) (updR R 1 (.ref pq)) Z B J K37.1 (fun q99 x99 => x99 = rep G a K37 q99) w 32 (((at9 + 1) + 1) + r113) sz (by omega) (by omega) (by decide) hO hl0) (gV pw_793 pw_794 pw_795 pw_796 pw_781) hV_X8_take qr122 5 hqr123 rfl rfl rfl (Nat.le_of_ble_eq_true rfl) dX8_declaration_119 ⟨(by show 5 + 1 ≤ 6; omega), (by show 25 + 6 ≤ 31; omega)⟩ ⟨Nat.le_of_ble_eq_true rfl, Nat.le_of_ble_eq_true rfl⟩ (fun v121 u119 H locs hw120 hP hD hS => ?_) (fun ux ce9 q9 H9 locs9 hux hP9 hD9 hS9 hce hcv hcl => pb_out ux (ThQ.up (Thx.same (Thx.same (Thx.f Thx.rfl (by omega)) rfl) rfl) RhX.rfl hux) hnt hlocks hce hcv hcl hP9 hD9 hS9 (by show 5 + 1 ≤ 6; omega) (by show 25 + 6 ≤ 31; omega))
            obtain ⟨w, _⟩ := u119
            obtain ⟨hw120, h124, h125, hO⟩ := hw120
            have h124 : (((at9 + 1) + 1) + r113) + 1 ≤ sz := h124
            have h125 : tkN ((B 7)) sz 67 (nI (((at9 + 1) + 1) + r113)) = 32 := h125
            obtain rfl : v121 = some (.int (nI (((at9 + 1) + 1) + r113))) := hw120
            have hO : OKP G h0 a (upd (upd F 2 (nI sz)) 9 (nI ((((at9 + 1) + 1) + r113) + 1))) (updR R 1 (.ref pq)) Z B J K37 w := hO.to rfl
            refine W.widen (k := 5) (n := 25) (by show 5 + 0 ≤ 5; omega) (by show 25 + 0 ≤ 25; omega) ?_
            refine W.eq (g2 := F0 m 122 ls [.int (nI (((at9 + 1) + 1) + r113))]) rfl ?_
            refine lv_pop hx hb dX8_declaration_122 rfl ?_
            refine lv_aload_n hx hb dX8_declaration_123 rfl (lv_at hl 0 rfl) ?_
            refine W_size (fun hz1 hz2 => ?_)
            refine vx_ret ?_
            have hz126 : WPr G K37 g38 := h39
            have hz127 : PgS G K37 g38 (a 1) pq dr ml (nd + 1) nm cp it s9 := h40
            have hz128 : K37.1 r36 = 4 := h41
            have hz129 : at9 + 3 ≤ ((((at9 + 1) + 1) + r113) + 1) ∧ ((((at9 + 1) + 1) + r113) + 1) ≤ sz := (by omega)
            have hz130 : PzK G K37 g38 nm it none := h43
            have hz131 : g38 5 r36 = 0 := h42
            have hz132 : NwT (B 7) sz (B 10) (B 10) K K37 at9 ((((at9 + 1) + 1) + r113) + 1) := (NwT.le htk45 (by omega))
            have hO : OKP G h0 a (upd (upd F 2 (nI sz)) 9 (nI ((((at9 + 1) + 1) + r113) + 1))) (updR R 1 (.ref pq)) Z B J K37 w := hO.to rfl
            refine W.widen (k := 6) (n := 31) (by omega) (by omega) ?_
            have hzz1 : H.size ≤ s.heap.size + (5) := (by have z : 5 ≤ 5 := (by omega); omega)
            have hzz2 : hSl H ≤ hSl s.heap + (25) := (by have z : 25 ≤ 25 := (by omega); omega)
            exact W.aret (v := .ref r36) hx hb hr (Or.inl ⟨_, rfl⟩) (Or.inr ⟨_, rfl⟩) (fun t99 ht99 hW99 => ⟨⟨_, (w, (K37, g38, r36, ((((at9 + 1) + 1) + r113) + 1), (nd + 1))), rfl, ⟨rfl, hz126, hz127, hz128, hz129, hz130, hz131, hz132, hO⟩, by rw [ht99]; exact hP, hD, by rw [ht99]; exact hzz1, by rw [ht99]; exact hzz2⟩, hS.F ht99⟩) hS.2.2 dX8_declaration_124
          · have n133 : ¬ (r113 = 0) := fun h9 => c117 ((nI_eq (a := r113) (b := 0) (by omega) (by omega)).mpr h9)
            refine lv_aload_n hx hb dX8_declaration_111 rfl (lv_at hl 2 rfl) ?_
            refine lv_aload_n hx hb dX8_declaration_112 rfl (lv_at hl 0 rfl) ?_
            have hO : OKP G h0 a (upd (upd (upd (upd (upd F 2 (nI sz)) 9 (nI at9)) 9 (nI (((at9 + 1) + 1) + r113))) 2 (nI sz)) 9 (nI (((at9 + 1) + 1) + r113))) (updR (updR R 1 (.ref pq)) 1 (.ref pq)) Z B J K37 w := hO.to rfl
            obtain ⟨_, qr137, hqr138⟩ := hO.2.1 23 _ (sg_23 G h0 a _ _ _ _ _)
            refine pn_V0 (G := G) (As := [.ref r36]) (rest := []) hx hb hml hown hq hE hX pX0_al hP hD hS hA hl.1 (P_listI l G h0 a (upd (upd (upd F 2 (nI sz)) 9 (nI at9)) 9 (nI (((at9 + 1) + 1) + r113))) (updR R 1 (.ref pq)) Z B J K37 w pq dr ml (nd + 1) nm cp it s9 r36 (((at9 + 1) + 1) + r113) sz g38 (by omega) (by omega) h39 h40 h43 h41 h42 hO hl0) (gV pw_815 pw_816 pw_817 pw_796 pw_800) hV_X8_listInterfaces qr137 5 hqr138 rfl rfl rfl (Nat.le_of_ble_eq_true rfl) dX8_declaration_113 ⟨(by show 5 + 1 ≤ 6; omega), (by show 25 + 6 ≤ 31; omega)⟩ ⟨Nat.le_of_ble_eq_true rfl, Nat.le_of_ble_eq_true rfl⟩ (fun v136 u134 H locs hw135 hP hD hS => ?_) (fun ux ce9 q9 H9 locs9 hux hP9 hD9 hS9 hce hcv hcl => pb_out ux (ThQ.up (Thx.same (Thx.same (Thx.f Thx.rfl (by omega)) rfl) rfl) (show RhX (updR R 1 (.ref pq)) (updR (updR R 1 (.ref pq)) 1 (.ref pq)) from fun k9 hk9 => by unfold updR; simp only [show ¬ k9 = 1 by omega, show ¬ k9 = 2 by omega, show ¬ k9 = 3 by omega, show ¬ k9 = 4 by omega, if_false]) hux) hnt hlocks hce hcv hcl hP9 hD9 hS9 (by show 5 + 1 ≤ 6; omega) (by show 25 + 6 ≤ 31; omega))
            obtain ⟨w, K139, g140, at141⟩ := u134
            obtain ⟨hw135, h142, h143, h144, h145, h146, h147, h148, h149, hO⟩ := hw135
            have h142 : WPr G K139 g140 := h142
            have h143 : PgS G K139 g140 (a 1) pq dr ml (nd + 1) nm cp it s9 := h143
            have h144 : K139.1 r36 = 4 := h144
            have h145 : (((at9 + 1) + 1) + r113) + 1 ≤ at141 ∧ at141 ≤ sz := h145
            have h146 : PzK G K139 g140 nm it none := h146
            have h147 : K139.2.1 18 r36 = K37.2.1 18 r36 := h147
            have h148 : g140 5 r36 = g38 5 r36 := h148
            have h149 : VaT K37 K139 := h149
            obtain rfl : v136 = none := hw135
            have hO : OKP G h0 a (upd (upd F 2 (nI sz)) 9 (nI at141)) (updR R 1 (.ref pq)) Z B J K139 w := hO.to rfl
            refine W.widen (k := 5) (n := 25) (by show 5 + 0 ≤ 5; omega) (by show 25 + 0 ≤ 25; omega) ?_
            refine W.eq (g2 := F0 m 116 ls []) rfl ?_
            have htk150 : NwT (B 7) sz (B 10) (B 10) K K139 at9 (((at9 + 1) + 1) + r113) := (NwT.call (NwT.le htk45 (show _ ≤ (((at9 + 1) + 1) + r113) by omega)) (h149 (B 7) (B 10) sz (((at9 + 1) + 1) + r113)) (Nat.le_refl _))
            refine lv_aload_n hx hb dX8_declaration_116 rfl (lv_at hl 2 rfl) ?_
            refine lv_bipush (v := 32) hx hb dX8_declaration_117 (by decide) ?_
            have hO : OKW G h0 a (upd (upd (upd (upd (upd F 2 (nI sz)) 9 (nI at9)) 9 (nI at141)) 2 (nI sz)) 9 (nI at141)) (updR R 1 (.ref pq)) Z B J K139.1 (fun q99 x99 => x99 = rep G a K139 q99) w := hO.to rfl
            obtain ⟨_, qr154, hqr155⟩ := hO.2.1 23 _ (sg_23 G h0 a _ _ _ _ _)
            refine pn_V0 (G := G) (As := [.int 32]) (rest := []) hx hb hml hown hq hE hX pX0_al hP hD hS hA hl.1 (P_take l G h0 a (upd (upd (upd F 2 (nI sz)) 9 (nI at9)) 9 (nI at141)) (updR R 1 (.ref pq)) Z B J K139.1 (fun q99 x99 => x99 = rep G a K139 q99) w 32 at141 sz (by omega) (by omega) (by decide) hO hl0) (gV pw_793 pw_794 pw_795 pw_796 pw_781) hV_X8_take qr154 5 hqr155 rfl rfl rfl (Nat.le_of_ble_eq_true rfl) dX8_declaration_119 ⟨(by show 5 + 1 ≤ 6; omega), (by show 25 + 6 ≤ 31; omega)⟩ ⟨Nat.le_of_ble_eq_true rfl, Nat.le_of_ble_eq_true rfl⟩ (fun v153 u151 H locs hw152 hP hD hS => ?_) (fun ux ce9 q9 H9 locs9 hux hP9 hD9 hS9 hce hcv hcl => pb_out ux (ThQ.up (Thx.same (Thx.same (Thx.f Thx.rfl (by omega)) rfl) rfl) RhX.rfl hux) hnt hlocks hce hcv hcl hP9 hD9 hS9 (by show 5 + 1 ≤ 6; omega) (by show 25 + 6 ≤ 31; omega))
            obtain ⟨w, _⟩ := u151
            obtain ⟨hw152, h156, h157, hO⟩ := hw152
            have h156 : at141 + 1 ≤ sz := h156
            have h157 : tkN ((B 7)) sz 67 (nI at141) = 32 := h157
            obtain rfl : v153 = some (.int (nI at141)) := hw152
            have hO : OKP G h0 a (upd (upd F 2 (nI sz)) 9 (nI (at141 + 1))) (updR R 1 (.ref pq)) Z B J K139 w := hO.to rfl
            refine W.widen (k := 5) (n := 25) (by show 5 + 0 ≤ 5; omega) (by show 25 + 0 ≤ 25; omega) ?_
            refine W.eq (g2 := F0 m 122 ls [.int (nI at141)]) rfl ?_
            refine lv_pop hx hb dX8_declaration_122 rfl ?_
            refine lv_aload_n hx hb dX8_declaration_123 rfl (lv_at hl 0 rfl) ?_
            refine W_size (fun hz1 hz2 => ?_)
            refine vx_ret ?_
            have hz158 : WPr G K139 g140 := h142
            have hz159 : PgS G K139 g140 (a 1) pq dr ml (nd + 1) nm cp it s9 := h143
            have hz160 : K139.1 r36 = 4 := h144
            have hz161 : at9 + 3 ≤ (at141 + 1) ∧ (at141 + 1) ≤ sz := (by omega)
            have hz162 : PzK G K139 g140 nm it none := h146
            have hz163 : g140 5 r36 = 0 := (h148.trans h42)
            have hz164 : NwT (B 7) sz (B 10) (B 10) K K139 at9 (at141 + 1) := (NwT.le htk150 (by omega))
            have hO : OKP G h0 a (upd (upd F 2 (nI sz)) 9 (nI (at141 + 1))) (updR R 1 (.ref pq)) Z B J K139 w := hO.to rfl
            refine W.widen (k := 6) (n := 31) (by omega) (by omega) ?_
            have hzz1 : H.size ≤ s.heap.size + (5) := (by have z : 5 ≤ 5 := (by omega); omega)
            have hzz2 : hSl H ≤ hSl s.heap + (25) := (by have z : 25 ≤ 25 := (by omega); omega)
            exact W.aret (v := .ref r36) hx hb hr (Or.inl ⟨_, rfl⟩) (Or.inr ⟨_, rfl⟩) (fun t99 ht99 hW99 => ⟨⟨_, (w, (K139, g140, r36, (at141 + 1), (nd + 1))), rfl, ⟨rfl, hz158, hz159, hz160, hz161, hz162, hz163, hz164, hO⟩, by rw [ht99]; exact hP, hD, by rw [ht99]; exact hzz1, by rw [ht99]; exact hzz2⟩, hS.F ht99⟩) hS.2.2 dX8_declaration_124
      · have n165 : r6 = 0 := (nI_eq (a := r6) (b := 0) (by omega) (by omega)).mp c46
        refine lv_aload_n hx hb dX8_declaration_74 rfl (lv_at hl 2 rfl) ?_
        refine lv_bipush (v := 7) hx hb dX8_declaration_75 (by decide) ?_
        have hO : OKW G h0 a (upd (upd (upd (upd F 2 (nI sz)) 9 (nI ((at9 + 1) + 1))) 2 (nI sz)) 9 (nI ((at9 + 1) + 1))) (updR R 1 (.ref pq)) Z B J K37.1 (fun q99 x99 => x99 = rep G a K37 q99) w := hO.to rfl
        obtain ⟨_, qr169, hqr170⟩ := hO.2.1 23 _ (sg_23 G h0 a _ _ _ _ _)
        refine pc_V0 (G := G) (As := [.int 7]) (rest := []) hx hb hml hown hq hE hX pX0_al hP hD hS hA hl.1 (P_takeIf l G h0 a (upd (upd F 2 (nI sz)) 9 (nI ((at9 + 1) + 1))) (updR R 1 (.ref pq)) Z B J K37.1 (fun q99 x99 => x99 = rep G a K37 q99) w 7 ((at9 + 1) + 1) sz (by omega) (by omega) (by decide) hO) (gV pw_797 pw_798 pw_799 pw_796 pw_789) hV_X8_takeIf qr169 5 hqr170 rfl rfl rfl (Nat.le_of_ble_eq_true rfl) dX8_declaration_77 ⟨(by show 5 + 0 ≤ 6; omega), (by show 25 + 0 ≤ 31; omega)⟩ ⟨Nat.le_of_ble_eq_true rfl, Nat.le_of_ble_eq_true rfl⟩ (fun v168 u166 H locs hw167 hP hD hS => ?_)
        obtain ⟨w, r171⟩ := u166
        obtain ⟨hw167, h172, h173, h174, hO⟩ := hw167
        have h172 : r171 ≤ 1 := h172
        have h173 : ((at9 + 1) + 1) + r171 ≤ sz := h173
        have h174 : SeQ ((B 7)) sz ((at9 + 1) + 1) 7 r171 := h174
        obtain rfl : v168 = some (.int (nI r171)) := hw167
        have hO : OKP G h0 a (upd (upd F 2 (nI sz)) 9 (nI (((at9 + 1) + 1) + r171))) (updR R 1 (.ref pq)) Z B J K37 w := hO.to rfl
        refine W.widen (k := 5) (n := 25) (by show 5 + 0 ≤ 5; omega) (by show 25 + 0 ≤ 25; omega) ?_
        refine W.eq (g2 := F0 m 80 ls [.int (nI r171)]) rfl ?_
        refine lv_if_eq (tgt := 93) hx hb dX8_declaration_80 (by decide) (fun c175 => ?_) (fun c175 => ?_)
        · have n176 : r171 = 0 := (nI_eq (a := r171) (b := 0) (by omega) (by omega)).mp c175
          refine lv_aload_n hx hb dX8_declaration_93 rfl (lv_at hl 2 rfl) ?_
          refine lv_iload_n hx hb dX8_declaration_94 rfl (lv_at hl 1 rfl) ?_
          refine lv_if_eq (tgt := 103) hx hb dX8_declaration_95 (by decide) (fun c177 => ?_) (fun c177 => ?_)
          · have n178 : r6 = 0 := (nI_eq (a := r6) (b := 0) (by omega) (by omega)).mp c177
            refine lv_bipush (v := 12) hx hb dX8_declaration_103 (by decide) ?_
            have hO : OKW G h0 a (upd (upd (upd (upd F 2 (nI sz)) 9 (nI (((at9 + 1) + 1) + r171))) 2 (nI sz)) 9 (nI (((at9 + 1) + 1) + r171))) (updR R 1 (.ref pq)) Z B J K37.1 (fun q99 x99 => x99 = rep G a K37 q99) w := hO.to rfl
            obtain ⟨_, qr182, hqr183⟩ := hO.2.1 23 _ (sg_23 G h0 a _ _ _ _ _)
            refine pc_V0 (G := G) (As := [.int 12]) (rest := []) hx hb hml hown hq hE hX pX0_al hP hD hS hA hl.1 (P_takeIf l G h0 a (upd (upd F 2 (nI sz)) 9 (nI (((at9 + 1) + 1) + r171))) (updR R 1 (.ref pq)) Z B J K37.1 (fun q99 x99 => x99 = rep G a K37 q99) w 12 (((at9 + 1) + 1) + r171) sz (by omega) (by omega) (by decide) hO) (gV pw_797 pw_798 pw_799 pw_796 pw_789) hV_X8_takeIf qr182 5 hqr183 rfl rfl rfl (Nat.le_of_ble_eq_true rfl) dX8_declaration_105 ⟨(by show 5 + 0 ≤ 6; omega), (by show 25 + 0 ≤ 31; omega)⟩ ⟨Nat.le_of_ble_eq_true rfl, Nat.le_of_ble_eq_true rfl⟩ (fun v181 u179 H locs hw180 hP hD hS => ?_)
            obtain ⟨w, r184⟩ := u179
            obtain ⟨hw180, h185, h186, h187, hO⟩ := hw180
            have h185 : r184 ≤ 1 := h185
            have h186 : (((at9 + 1) + 1) + r171) + r184 ≤ sz := h186
            have h187 : SeQ ((B 7)) sz (((at9 + 1) + 1) + r171) 12 r184 := h187
            obtain rfl : v181 = some (.int (nI r184)) := hw180
            have hO : OKP G h0 a (upd (upd F 2 (nI sz)) 9 (nI ((((at9 + 1) + 1) + r171) + r184))) (updR R 1 (.ref pq)) Z B J K37 w := hO.to rfl
            refine W.widen (k := 5) (n := 25) (by show 5 + 0 ≤ 5; omega) (by show 25 + 0 ≤ 25; omega) ?_
            refine W.eq (g2 := F0 m 108 ls [.int (nI r184)]) rfl ?_
            refine lv_if_eq (tgt := 116) hx hb dX8_declaration_108 (by decide) (fun c188 => ?_) (fun c188 => ?_)
            · have n189 : r184 = 0 := (nI_eq (a := r184) (b := 0) (by omega) (by omega)).mp c188
              refine lv_aload_n hx hb dX8_declaration_116 rfl (lv_at hl 2 rfl) ?_
              refine lv_bipush (v := 32) hx hb dX8_declaration_117 (by decide) ?_
              have hO : OKW G h0 a (upd (upd (upd (upd (upd F 2 (nI sz)) 9 (nI at9)) 9 (nI ((((at9 + 1) + 1) + r171) + r184))) 2 (nI sz)) 9 (nI ((((at9 + 1) + 1) + r171) + r184))) (updR R 1 (.ref pq)) Z B J K37.1 (fun q99 x99 => x99 = rep G a K37 q99) w := hO.to rfl
              obtain ⟨_, qr193, hqr194⟩ := hO.2.1 23 _ (sg_23 G h0 a _ _ _ _ _)
              refine pn_V0 (G := G) (As := [.int 32]) (rest := []) hx hb hml hown hq hE hX pX0_al hP hD hS hA hl.1 (P_take l G h0 a (upd (upd (upd F 2 (nI sz)) 9 (nI at9)) 9 (nI ((((at9 + 1) + 1) + r171) + r184))) (updR R 1 (.ref pq)) Z B J K37.1 (fun q99 x99 => x99 = rep G a K37 q99) w 32 ((((at9 + 1) + 1) + r171) + r184) sz (by omega) (by omega) (by decide) hO hl0) (gV pw_793 pw_794 pw_795 pw_796 pw_781) hV_X8_take qr193 5 hqr194 rfl rfl rfl (Nat.le_of_ble_eq_true rfl) dX8_declaration_119 ⟨(by show 5 + 1 ≤ 6; omega), (by show 25 + 6 ≤ 31; omega)⟩ ⟨Nat.le_of_ble_eq_true rfl, Nat.le_of_ble_eq_true rfl⟩ (fun v192 u190 H locs hw191 hP hD hS => ?_) (fun ux ce9 q9 H9 locs9 hux hP9 hD9 hS9 hce hcv hcl => pb_out ux (ThQ.up (Thx.same (Thx.same (Thx.f Thx.rfl (by omega)) rfl) rfl) RhX.rfl hux) hnt hlocks hce hcv hcl hP9 hD9 hS9 (by show 5 + 1 ≤ 6; omega) (by show 25 + 6 ≤ 31; omega))
              obtain ⟨w, _⟩ := u190
              obtain ⟨hw191, h195, h196, hO⟩ := hw191
              have h195 : ((((at9 + 1) + 1) + r171) + r184) + 1 ≤ sz := h195
              have h196 : tkN ((B 7)) sz 67 (nI ((((at9 + 1) + 1) + r171) + r184)) = 32 := h196
              obtain rfl : v192 = some (.int (nI ((((at9 + 1) + 1) + r171) + r184))) := hw191
              have hO : OKP G h0 a (upd (upd F 2 (nI sz)) 9 (nI (((((at9 + 1) + 1) + r171) + r184) + 1))) (updR R 1 (.ref pq)) Z B J K37 w := hO.to rfl
              refine W.widen (k := 5) (n := 25) (by show 5 + 0 ≤ 5; omega) (by show 25 + 0 ≤ 25; omega) ?_
              refine W.eq (g2 := F0 m 122 ls [.int (nI ((((at9 + 1) + 1) + r171) + r184))]) rfl ?_
              refine lv_pop hx hb dX8_declaration_122 rfl ?_
              refine lv_aload_n hx hb dX8_declaration_123 rfl (lv_at hl 0 rfl) ?_
              refine W_size (fun hz1 hz2 => ?_)
              refine vx_ret ?_
              have hz197 : WPr G K37 g38 := h39
              have hz198 : PgS G K37 g38 (a 1) pq dr ml (nd + 1) nm cp it s9 := h40
              have hz199 : K37.1 r36 = 4 := h41
              have hz200 : at9 + 3 ≤ (((((at9 + 1) + 1) + r171) + r184) + 1) ∧ (((((at9 + 1) + 1) + r171) + r184) + 1) ≤ sz := (by omega)
              have hz201 : PzK G K37 g38 nm it none := h43
              have hz202 : g38 5 r36 = 0 := h42
              have hz203 : NwT (B 7) sz (B 10) (B 10) K K37 at9 (((((at9 + 1) + 1) + r171) + r184) + 1) := (NwT.le htk45 (by omega))
              have hO : OKP G h0 a (upd (upd F 2 (nI sz)) 9 (nI (((((at9 + 1) + 1) + r171) + r184) + 1))) (updR R 1 (.ref pq)) Z B J K37 w := hO.to rfl
              refine W.widen (k := 6) (n := 31) (by omega) (by omega) ?_
              have hzz1 : H.size ≤ s.heap.size + (5) := (by have z : 5 ≤ 5 := (by omega); omega)
              have hzz2 : hSl H ≤ hSl s.heap + (25) := (by have z : 25 ≤ 25 := (by omega); omega)
              exact W.aret (v := .ref r36) hx hb hr (Or.inl ⟨_, rfl⟩) (Or.inr ⟨_, rfl⟩) (fun t99 ht99 hW99 => ⟨⟨_, (w, (K37, g38, r36, (((((at9 + 1) + 1) + r171) + r184) + 1), (nd + 1))), rfl, ⟨rfl, hz197, hz198, hz199, hz200, hz201, hz202, hz203, hO⟩, by rw [ht99]; exact hP, hD, by rw [ht99]; exact hzz1, by rw [ht99]; exact hzz2⟩, hS.F ht99⟩) hS.2.2 dX8_declaration_124
            · have n204 : ¬ (r184 = 0) := fun h9 => c188 ((nI_eq (a := r184) (b := 0) (by omega) (by omega)).mpr h9)
              refine lv_aload_n hx hb dX8_declaration_111 rfl (lv_at hl 2 rfl) ?_
              refine lv_aload_n hx hb dX8_declaration_112 rfl (lv_at hl 0 rfl) ?_
              have hO : OKP G h0 a (upd (upd (upd (upd (upd F 2 (nI sz)) 9 (nI at9)) 9 (nI ((((at9 + 1) + 1) + r171) + r184))) 2 (nI sz)) 9 (nI ((((at9 + 1) + 1) + r171) + r184))) (updR (updR R 1 (.ref pq)) 1 (.ref pq)) Z B J K37 w := hO.to rfl
              obtain ⟨_, qr208, hqr209⟩ := hO.2.1 23 _ (sg_23 G h0 a _ _ _ _ _)
              refine pn_V0 (G := G) (As := [.ref r36]) (rest := []) hx hb hml hown hq hE hX pX0_al hP hD hS hA hl.1 (P_listI l G h0 a (upd (upd (upd F 2 (nI sz)) 9 (nI at9)) 9 (nI ((((at9 + 1) + 1) + r171) + r184))) (updR R 1 (.ref pq)) Z B J K37 w pq dr ml (nd + 1) nm cp it s9 r36 ((((at9 + 1) + 1) + r171) + r184) sz g38 (by omega) (by omega) h39 h40 h43 h41 h42 hO hl0) (gV pw_815 pw_816 pw_817 pw_796 pw_800) hV_X8_listInterfaces qr208 5 hqr209 rfl rfl rfl (Nat.le_of_ble_eq_true rfl) dX8_declaration_113 ⟨(by show 5 + 1 ≤ 6; omega), (by show 25 + 6 ≤ 31; omega)⟩ ⟨Nat.le_of_ble_eq_true rfl, Nat.le_of_ble_eq_true rfl⟩ (fun v207 u205 H locs hw206 hP hD hS => ?_) (fun ux ce9 q9 H9 locs9 hux hP9 hD9 hS9 hce hcv hcl => pb_out ux (ThQ.up (Thx.same (Thx.same (Thx.f Thx.rfl (by omega)) rfl) rfl) (show RhX (updR R 1 (.ref pq)) (updR (updR R 1 (.ref pq)) 1 (.ref pq)) from fun k9 hk9 => by unfold updR; simp only [show ¬ k9 = 1 by omega, show ¬ k9 = 2 by omega, show ¬ k9 = 3 by omega, show ¬ k9 = 4 by omega, if_false]) hux) hnt hlocks hce hcv hcl hP9 hD9 hS9 (by show 5 + 1 ≤ 6; omega) (by show 25 + 6 ≤ 31; omega))
              obtain ⟨w, K210, g211, at212⟩ := u205
              obtain ⟨hw206, h213, h214, h215, h216, h217, h218, h219, h220, hO⟩ := hw206
              have h213 : WPr G K210 g211 := h213
              have h214 : PgS G K210 g211 (a 1) pq dr ml (nd + 1) nm cp it s9 := h214
              have h215 : K210.1 r36 = 4 := h215
              have h216 : ((((at9 + 1) + 1) + r171) + r184) + 1 ≤ at212 ∧ at212 ≤ sz := h216
              have h217 : PzK G K210 g211 nm it none := h217
              have h218 : K210.2.1 18 r36 = K37.2.1 18 r36 := h218
              have h219 : g211 5 r36 = g38 5 r36 := h219
              have h220 : VaT K37 K210 := h220
              obtain rfl : v207 = none := hw206
              have hO : OKP G h0 a (upd (upd F 2 (nI sz)) 9 (nI at212)) (updR R 1 (.ref pq)) Z B J K210 w := hO.to rfl
              refine W.widen (k := 5) (n := 25) (by show 5 + 0 ≤ 5; omega) (by show 25 + 0 ≤ 25; omega) ?_
              refine W.eq (g2 := F0 m 116 ls []) rfl ?_
              have htk221 : NwT (B 7) sz (B 10) (B 10) K K210 at9 ((((at9 + 1) + 1) + r171) + r184) := (NwT.call (NwT.le htk45 (show _ ≤ ((((at9 + 1) + 1) + r171) + r184) by omega)) (h220 (B 7) (B 10) sz ((((at9 + 1) + 1) + r171) + r184)) (Nat.le_refl _))
              refine lv_aload_n hx hb dX8_declaration_116 rfl (lv_at hl 2 rfl) ?_
              refine lv_bipush (v := 32) hx hb dX8_declaration_117 (by decide) ?_
              have hO : OKW G h0 a (upd (upd (upd (upd (upd F 2 (nI sz)) 9 (nI at9)) 9 (nI at212)) 2 (nI sz)) 9 (nI at212)) (updR R 1 (.ref pq)) Z B J K210.1 (fun q99 x99 => x99 = rep G a K210 q99) w := hO.to rfl
              obtain ⟨_, qr225, hqr226⟩ := hO.2.1 23 _ (sg_23 G h0 a _ _ _ _ _)
              refine pn_V0 (G := G) (As := [.int 32]) (rest := []) hx hb hml hown hq hE hX pX0_al hP hD hS hA hl.1 (P_take l G h0 a (upd (upd (upd F 2 (nI sz)) 9 (nI at9)) 9 (nI at212)) (updR R 1 (.ref pq)) Z B J K210.1 (fun q99 x99 => x99 = rep G a K210 q99) w 32 at212 sz (by omega) (by omega) (by decide) hO hl0) (gV pw_793 pw_794 pw_795 pw_796 pw_781) hV_X8_take qr225 5 hqr226 rfl rfl rfl (Nat.le_of_ble_eq_true rfl) dX8_declaration_119 ⟨(by show 5 + 1 ≤ 6; omega), (by show 25 + 6 ≤ 31; omega)⟩ ⟨Nat.le_of_ble_eq_true rfl, Nat.le_of_ble_eq_true rfl⟩ (fun v224 u222 H locs hw223 hP hD hS => ?_) (fun ux ce9 q9 H9 locs9 hux hP9 hD9 hS9 hce hcv hcl => pb_out ux (ThQ.up (Thx.same (Thx.same (Thx.f Thx.rfl (by omega)) rfl) rfl) RhX.rfl hux) hnt hlocks hce hcv hcl hP9 hD9 hS9 (by show 5 + 1 ≤ 6; omega) (by show 25 + 6 ≤ 31; omega))
              obtain ⟨w, _⟩ := u222
              obtain ⟨hw223, h227, h228, hO⟩ := hw223
              have h227 : at212 + 1 ≤ sz := h227
              have h228 : tkN ((B 7)) sz 67 (nI at212) = 32 := h228
              obtain rfl : v224 = some (.int (nI at212)) := hw223
              have hO : OKP G h0 a (upd (upd F 2 (nI sz)) 9 (nI (at212 + 1))) (updR R 1 (.ref pq)) Z B J K210 w := hO.to rfl
              refine W.widen (k := 5) (n := 25) (by show 5 + 0 ≤ 5; omega) (by show 25 + 0 ≤ 25; omega) ?_
              refine W.eq (g2 := F0 m 122 ls [.int (nI at212)]) rfl ?_
              refine lv_pop hx hb dX8_declaration_122 rfl ?_
              refine lv_aload_n hx hb dX8_declaration_123 rfl (lv_at hl 0 rfl) ?_
              refine W_size (fun hz1 hz2 => ?_)
              refine vx_ret ?_
              have hz229 : WPr G K210 g211 := h213
              have hz230 : PgS G K210 g211 (a 1) pq dr ml (nd + 1) nm cp it s9 := h214
              have hz231 : K210.1 r36 = 4 := h215
              have hz232 : at9 + 3 ≤ (at212 + 1) ∧ (at212 + 1) ≤ sz := (by omega)
              have hz233 : PzK G K210 g211 nm it none := h217
              have hz234 : g211 5 r36 = 0 := (h219.trans h42)
              have hz235 : NwT (B 7) sz (B 10) (B 10) K K210 at9 (at212 + 1) := (NwT.le htk221 (by omega))
              have hO : OKP G h0 a (upd (upd F 2 (nI sz)) 9 (nI (at212 + 1))) (updR R 1 (.ref pq)) Z B J K210 w := hO.to rfl
              refine W.widen (k := 6) (n := 31) (by omega) (by omega) ?_
              have hzz1 : H.size ≤ s.heap.size + (5) := (by have z : 5 ≤ 5 := (by omega); omega)
              have hzz2 : hSl H ≤ hSl s.heap + (25) := (by have z : 25 ≤ 25 := (by omega); omega)
              exact W.aret (v := .ref r36) hx hb hr (Or.inl ⟨_, rfl⟩) (Or.inr ⟨_, rfl⟩) (fun t99 ht99 hW99 => ⟨⟨_, (w, (K210, g211, r36, (at212 + 1), (nd + 1))), rfl, ⟨rfl, hz229, hz230, hz231, hz232, hz233, hz234, hz235, hO⟩, by rw [ht99]; exact hP, hD, by rw [ht99]; exact hzz1, by rw [ht99]; exact hzz2⟩, hS.F ht99⟩) hS.2.2 dX8_declaration_124
          · have n236 : ¬ (r6 = 0) := fun h9 => c177 ((nI_eq (a := r6) (b := 0) (by omega) (by omega)).mpr h9)
            refine lv_bipush (v := 7) hx hb dX8_declaration_98 (by decide) ?_
            refine lv_goto (tgt := 105) hx hb dX8_declaration_100 (by decide) ?_
            have hO : OKW G h0 a (upd (upd (upd (upd F 2 (nI sz)) 9 (nI (((at9 + 1) + 1) + r171))) 2 (nI sz)) 9 (nI (((at9 + 1) + 1) + r171))) (updR R 1 (.ref pq)) Z B J K37.1 (fun q99 x99 => x99 = rep G a K37 q99) w := hO.to rfl
            obtain ⟨_, qr240, hqr241⟩ := hO.2.1 23 _ (sg_23 G h0 a _ _ _ _ _)
            refine pc_V0 (G := G) (As := [.int 7]) (rest := []) hx hb hml hown hq hE hX pX0_al hP hD hS hA hl.1 (P_takeIf l G h0 a (upd (upd F 2 (nI sz)) 9 (nI (((at9 + 1) + 1) + r171))) (updR R 1 (.ref pq)) Z B J K37.1 (fun q99 x99 => x99 = rep G a K37 q99) w 7 (((at9 + 1) + 1) + r171) sz (by omega) (by omega) (by decide) hO) (gV pw_797 pw_798 pw_799 pw_796 pw_789) hV_X8_takeIf qr240 5 hqr241 rfl rfl rfl (Nat.le_of_ble_eq_true rfl) dX8_declaration_105 ⟨(by show 5 + 0 ≤ 6; omega), (by show 25 + 0 ≤ 31; omega)⟩ ⟨Nat.le_of_ble_eq_true rfl, Nat.le_of_ble_eq_true rfl⟩ (fun v239 u237 H locs hw238 hP hD hS => ?_)
            obtain ⟨w, r242⟩ := u237
            obtain ⟨hw238, h243, h244, h245, hO⟩ := hw238
            have h243 : r242 ≤ 1 := h243
            have h244 : (((at9 + 1) + 1) + r171) + r242 ≤ sz := h244
            have h245 : SeQ ((B 7)) sz (((at9 + 1) + 1) + r171) 7 r242 := h245
            obtain rfl : v239 = some (.int (nI r242)) := hw238
            have hO : OKP G h0 a (upd (upd F 2 (nI sz)) 9 (nI ((((at9 + 1) + 1) + r171) + r242))) (updR R 1 (.ref pq)) Z B J K37 w := hO.to rfl
            refine W.widen (k := 5) (n := 25) (by show 5 + 0 ≤ 5; omega) (by show 25 + 0 ≤ 25; omega) ?_
            refine W.eq (g2 := F0 m 108 ls [.int (nI r242)]) rfl ?_
            refine lv_if_eq (tgt := 116) hx hb dX8_declaration_108 (by decide) (fun c246 => ?_) (fun c246 => ?_)
            · have n247 : r242 = 0 := (nI_eq (a := r242) (b := 0) (by omega) (by omega)).mp c246
              refine lv_aload_n hx hb dX8_declaration_116 rfl (lv_at hl 2 rfl) ?_
              refine lv_bipush (v := 32) hx hb dX8_declaration_117 (by decide) ?_
              have hO : OKW G h0 a (upd (upd (upd (upd (upd F 2 (nI sz)) 9 (nI at9)) 9 (nI ((((at9 + 1) + 1) + r171) + r242))) 2 (nI sz)) 9 (nI ((((at9 + 1) + 1) + r171) + r242))) (updR R 1 (.ref pq)) Z B J K37.1 (fun q99 x99 => x99 = rep G a K37 q99) w := hO.to rfl
              obtain ⟨_, qr251, hqr252⟩ := hO.2.1 23 _ (sg_23 G h0 a _ _ _ _ _)
              refine pn_V0 (G := G) (As := [.int 32]) (rest := []) hx hb hml hown hq hE hX pX0_al hP hD hS hA hl.1 (P_take l G h0 a (upd (upd (upd F 2 (nI sz)) 9 (nI at9)) 9 (nI ((((at9 + 1) + 1) + r171) + r242))) (updR R 1 (.ref pq)) Z B J K37.1 (fun q99 x99 => x99 = rep G a K37 q99) w 32 ((((at9 + 1) + 1) + r171) + r242) sz (by omega) (by omega) (by decide) hO hl0) (gV pw_793 pw_794 pw_795 pw_796 pw_781) hV_X8_take qr251 5 hqr252 rfl rfl rfl (Nat.le_of_ble_eq_true rfl) dX8_declaration_119 ⟨(by show 5 + 1 ≤ 6; omega), (by show 25 + 6 ≤ 31; omega)⟩ ⟨Nat.le_of_ble_eq_true rfl, Nat.le_of_ble_eq_true rfl⟩ (fun v250 u248 H locs hw249 hP hD hS => ?_) (fun ux ce9 q9 H9 locs9 hux hP9 hD9 hS9 hce hcv hcl => pb_out ux (ThQ.up (Thx.same (Thx.same (Thx.f Thx.rfl (by omega)) rfl) rfl) RhX.rfl hux) hnt hlocks hce hcv hcl hP9 hD9 hS9 (by show 5 + 1 ≤ 6; omega) (by show 25 + 6 ≤ 31; omega))
              obtain ⟨w, _⟩ := u248
              obtain ⟨hw249, h253, h254, hO⟩ := hw249
              have h253 : ((((at9 + 1) + 1) + r171) + r242) + 1 ≤ sz := h253
              have h254 : tkN ((B 7)) sz 67 (nI ((((at9 + 1) + 1) + r171) + r242)) = 32 := h254
              obtain rfl : v250 = some (.int (nI ((((at9 + 1) + 1) + r171) + r242))) := hw249
              have hO : OKP G h0 a (upd (upd F 2 (nI sz)) 9 (nI (((((at9 + 1) + 1) + r171) + r242) + 1))) (updR R 1 (.ref pq)) Z B J K37 w := hO.to rfl
              refine W.widen (k := 5) (n := 25) (by show 5 + 0 ≤ 5; omega) (by show 25 + 0 ≤ 25; omega) ?_
              refine W.eq (g2 := F0 m 122 ls [.int (nI ((((at9 + 1) + 1) + r171) + r242))]) rfl ?_
              refine lv_pop hx hb dX8_declaration_122 rfl ?_
              refine lv_aload_n hx hb dX8_declaration_123 rfl (lv_at hl 0 rfl) ?_
              refine W_size (fun hz1 hz2 => ?_)
              refine vx_ret ?_
              have hz255 : WPr G K37 g38 := h39
              have hz256 : PgS G K37 g38 (a 1) pq dr ml (nd + 1) nm cp it s9 := h40
              have hz257 : K37.1 r36 = 4 := h41
              have hz258 : at9 + 3 ≤ (((((at9 + 1) + 1) + r171) + r242) + 1) ∧ (((((at9 + 1) + 1) + r171) + r242) + 1) ≤ sz := (by omega)
              have hz259 : PzK G K37 g38 nm it none := h43
              have hz260 : g38 5 r36 = 0 := h42
              have hz261 : NwT (B 7) sz (B 10) (B 10) K K37 at9 (((((at9 + 1) + 1) + r171) + r242) + 1) := (NwT.le htk45 (by omega))
              have hO : OKP G h0 a (upd (upd F 2 (nI sz)) 9 (nI (((((at9 + 1) + 1) + r171) + r242) + 1))) (updR R 1 (.ref pq)) Z B J K37 w := hO.to rfl
              refine W.widen (k := 6) (n := 31) (by omega) (by omega) ?_
              have hzz1 : H.size ≤ s.heap.size + (5) := (by have z : 5 ≤ 5 := (by omega); omega)
              have hzz2 : hSl H ≤ hSl s.heap + (25) := (by have z : 25 ≤ 25 := (by omega); omega)
              exact W.aret (v := .ref r36) hx hb hr (Or.inl ⟨_, rfl⟩) (Or.inr ⟨_, rfl⟩) (fun t99 ht99 hW99 => ⟨⟨_, (w, (K37, g38, r36, (((((at9 + 1) + 1) + r171) + r242) + 1), (nd + 1))), rfl, ⟨rfl, hz255, hz256, hz257, hz258, hz259, hz260, hz261, hO⟩, by rw [ht99]; exact hP, hD, by rw [ht99]; exact hzz1, by rw [ht99]; exact hzz2⟩, hS.F ht99⟩) hS.2.2 dX8_declaration_124
            · have n262 : ¬ (r242 = 0) := fun h9 => c246 ((nI_eq (a := r242) (b := 0) (by omega) (by omega)).mpr h9)
              refine lv_aload_n hx hb dX8_declaration_111 rfl (lv_at hl 2 rfl) ?_
              refine lv_aload_n hx hb dX8_declaration_112 rfl (lv_at hl 0 rfl) ?_
              have hO : OKP G h0 a (upd (upd (upd (upd (upd F 2 (nI sz)) 9 (nI at9)) 9 (nI ((((at9 + 1) + 1) + r171) + r242))) 2 (nI sz)) 9 (nI ((((at9 + 1) + 1) + r171) + r242))) (updR (updR R 1 (.ref pq)) 1 (.ref pq)) Z B J K37 w := hO.to rfl
              obtain ⟨_, qr266, hqr267⟩ := hO.2.1 23 _ (sg_23 G h0 a _ _ _ _ _)
              refine pn_V0 (G := G) (As := [.ref r36]) (rest := []) hx hb hml hown hq hE hX pX0_al hP hD hS hA hl.1 (P_listI l G h0 a (upd (upd (upd F 2 (nI sz)) 9 (nI at9)) 9 (nI ((((at9 + 1) + 1) + r171) + r242))) (updR R 1 (.ref pq)) Z B J K37 w pq dr ml (nd + 1) nm cp it s9 r36 ((((at9 + 1) + 1) + r171) + r242) sz g38 (by omega) (by omega) h39 h40 h43 h41 h42 hO hl0) (gV pw_815 pw_816 pw_817 pw_796 pw_800) hV_X8_listInterfaces qr266 5 hqr267 rfl rfl rfl (Nat.le_of_ble_eq_true rfl) dX8_declaration_113 ⟨(by show 5 + 1 ≤ 6; omega), (by show 25 + 6 ≤ 31; omega)⟩ ⟨Nat.le_of_ble_eq_true rfl, Nat.le_of_ble_eq_true rfl⟩ (fun v265 u263 H locs hw264 hP hD hS => ?_) (fun ux ce9 q9 H9 locs9 hux hP9 hD9 hS9 hce hcv hcl => pb_out ux (ThQ.up (Thx.same (Thx.same (Thx.f Thx.rfl (by omega)) rfl) rfl) (show RhX (updR R 1 (.ref pq)) (updR (updR R 1 (.ref pq)) 1 (.ref pq)) from fun k9 hk9 => by unfold updR; simp only [show ¬ k9 = 1 by omega, show ¬ k9 = 2 by omega, show ¬ k9 = 3 by omega, show ¬ k9 = 4 by omega, if_false]) hux) hnt hlocks hce hcv hcl hP9 hD9 hS9 (by show 5 + 1 ≤ 6; omega) (by show 25 + 6 ≤ 31; omega))
              obtain ⟨w, K268, g269, at270⟩ := u263
              obtain ⟨hw264, h271, h272, h273, h274, h275, h276, h277, h278, hO⟩ := hw264
              have h271 : WPr G K268 g269 := h271
              have h272 : PgS G K268 g269 (a 1) pq dr ml (nd + 1) nm cp it s9 := h272
              have h273 : K268.1 r36 = 4 := h273
              have h274 : ((((at9 + 1) + 1) + r171) + r242) + 1 ≤ at270 ∧ at270 ≤ sz := h274
              have h275 : PzK G K268 g269 nm it none := h275
              have h276 : K268.2.1 18 r36 = K37.2.1 18 r36 := h276
              have h277 : g269 5 r36 = g38 5 r36 := h277
              have h278 : VaT K37 K268 := h278
              obtain rfl : v265 = none := hw264
              have hO : OKP G h0 a (upd (upd F 2 (nI sz)) 9 (nI at270)) (updR R 1 (.ref pq)) Z B J K268 w := hO.to rfl
              refine W.widen (k := 5) (n := 25) (by show 5 + 0 ≤ 5; omega) (by show 25 + 0 ≤ 25; omega) ?_
              refine W.eq (g2 := F0 m 116 ls []) rfl ?_
              have htk279 : NwT (B 7) sz (B 10) (B 10) K K268 at9 ((((at9 + 1) + 1) + r171) + r242) := (NwT.call (NwT.le htk45 (show _ ≤ ((((at9 + 1) + 1) + r171) + r242) by omega)) (h278 (B 7) (B 10) sz ((((at9 + 1) + 1) + r171) + r242)) (Nat.le_refl _))
              refine lv_aload_n hx hb dX8_declaration_116 rfl (lv_at hl 2 rfl) ?_
              refine lv_bipush (v := 32) hx hb dX8_declaration_117 (by decide) ?_
              have hO : OKW G h0 a (upd (upd (upd (upd (upd F 2 (nI sz)) 9 (nI at9)) 9 (nI at270)) 2 (nI sz)) 9 (nI at270)) (updR R 1 (.ref pq)) Z B J K268.1 (fun q99 x99 => x99 = rep G a K268 q99) w := hO.to rfl
              obtain ⟨_, qr283, hqr284⟩ := hO.2.1 23 _ (sg_23 G h0 a _ _ _ _ _)
              refine pn_V0 (G := G) (As := [.int 32]) (rest := []) hx hb hml hown hq hE hX pX0_al hP hD hS hA hl.1 (P_take l G h0 a (upd (upd (upd F 2 (nI sz)) 9 (nI at9)) 9 (nI at270)) (updR R 1 (.ref pq)) Z B J K268.1 (fun q99 x99 => x99 = rep G a K268 q99) w 32 at270 sz (by omega) (by omega) (by decide) hO hl0) (gV pw_793 pw_794 pw_795 pw_796 pw_781) hV_X8_take qr283 5 hqr284 rfl rfl rfl (Nat.le_of_ble_eq_true rfl) dX8_declaration_119 ⟨(by show 5 + 1 ≤ 6; omega), (by show 25 + 6 ≤ 31; omega)⟩ ⟨Nat.le_of_ble_eq_true rfl, Nat.le_of_ble_eq_true rfl⟩ (fun v282 u280 H locs hw281 hP hD hS => ?_) (fun ux ce9 q9 H9 locs9 hux hP9 hD9 hS9 hce hcv hcl => pb_out ux (ThQ.up (Thx.same (Thx.same (Thx.f Thx.rfl (by omega)) rfl) rfl) RhX.rfl hux) hnt hlocks hce hcv hcl hP9 hD9 hS9 (by show 5 + 1 ≤ 6; omega) (by show 25 + 6 ≤ 31; omega))
              obtain ⟨w, _⟩ := u280
              obtain ⟨hw281, h285, h286, hO⟩ := hw281
              have h285 : at270 + 1 ≤ sz := h285
              have h286 : tkN ((B 7)) sz 67 (nI at270) = 32 := h286
              obtain rfl : v282 = some (.int (nI at270)) := hw281
              have hO : OKP G h0 a (upd (upd F 2 (nI sz)) 9 (nI (at270 + 1))) (updR R 1 (.ref pq)) Z B J K268 w := hO.to rfl
              refine W.widen (k := 5) (n := 25) (by show 5 + 0 ≤ 5; omega) (by show 25 + 0 ≤ 25; omega) ?_
              refine W.eq (g2 := F0 m 122 ls [.int (nI at270)]) rfl ?_
              refine lv_pop hx hb dX8_declaration_122 rfl ?_
              refine lv_aload_n hx hb dX8_declaration_123 rfl (lv_at hl 0 rfl) ?_
              refine W_size (fun hz1 hz2 => ?_)
              refine vx_ret ?_
              have hz287 : WPr G K268 g269 := h271
              have hz288 : PgS G K268 g269 (a 1) pq dr ml (nd + 1) nm cp it s9 := h272
              have hz289 : K268.1 r36 = 4 := h273
              have hz290 : at9 + 3 ≤ (at270 + 1) ∧ (at270 + 1) ≤ sz := (by omega)
              have hz291 : PzK G K268 g269 nm it none := h275
              have hz292 : g269 5 r36 = 0 := (h277.trans h42)
              have hz293 : NwT (B 7) sz (B 10) (B 10) K K268 at9 (at270 + 1) := (NwT.le htk279 (by omega))
              have hO : OKP G h0 a (upd (upd F 2 (nI sz)) 9 (nI (at270 + 1))) (updR R 1 (.ref pq)) Z B J K268 w := hO.to rfl
              refine W.widen (k := 6) (n := 31) (by omega) (by omega) ?_
              have hzz1 : H.size ≤ s.heap.size + (5) := (by have z : 5 ≤ 5 := (by omega); omega)
              have hzz2 : hSl H ≤ hSl s.heap + (25) := (by have z : 25 ≤ 25 := (by omega); omega)
              exact W.aret (v := .ref r36) hx hb hr (Or.inl ⟨_, rfl⟩) (Or.inr ⟨_, rfl⟩) (fun t99 ht99 hW99 => ⟨⟨_, (w, (K268, g269, r36, (at270 + 1), (nd + 1))), rfl, ⟨rfl, hz287, hz288, hz289, hz290, hz291, hz292, hz293, hO⟩, by rw [ht99]; exact hP, hD, by rw [ht99]; exact hzz1, by rw [ht99]; exact hzz2⟩, hS.F ht99⟩) hS.2.2 dX8_declaration_124
        · have n294 : ¬ (r171 = 0) := fun h9 => c175 ((nI_eq (a := r171) (b := 0) (by omega) (by omega)).mpr h9)
          refine lv_aload_n hx hb dX8_declaration_83 rfl (lv_at hl 0 rfl) ?_
          refine lv_aload_n hx hb dX8_declaration_84 rfl (lv_at hl 2 rfl) ?_
          refine lv_bipush (v := 65) hx hb dX8_declaration_85 (by decide) ?_
          have hO : OKW G h0 a (upd (upd (upd (upd (upd F 2 (nI sz)) 9 (nI at9)) 9 (nI (((at9 + 1) + 1) + r171))) 2 (nI sz)) 9 (nI (((at9 + 1) + 1) + r171))) (updR R 1 (.ref pq)) Z B J K37.1 (fun q99 x99 => x99 = rep G a K37 q99) w := hO.to rfl
          obtain ⟨_, qr298, hqr299⟩ := hO.2.1 23 _ (sg_23 G h0 a _ _ _ _ _)
          refine pn_V0 (G := G) (As := [.int 65]) (rest := [.ref r36]) hx hb hml hown hq hE hX pX0_al hP hD hS hA hl.1 (P_take l G h0 a (upd (upd (upd F 2 (nI sz)) 9 (nI at9)) 9 (nI (((at9 + 1) + 1) + r171))) (updR R 1 (.ref pq)) Z B J K37.1 (fun q99 x99 => x99 = rep G a K37 q99) w 65 (((at9 + 1) + 1) + r171) sz (by omega) (by omega) (by decide) hO hl0) (gV pw_793 pw_794 pw_795 pw_796 pw_781) hV_X8_take qr298 5 hqr299 rfl rfl rfl (Nat.le_of_ble_eq_true rfl) dX8_declaration_87 ⟨(by show 5 + 1 ≤ 6; omega), (by show 25 + 6 ≤ 31; omega)⟩ ⟨Nat.le_of_ble_eq_true rfl, Nat.le_of_ble_eq_true rfl⟩ (fun v297 u295 H locs hw296 hP hD hS => ?_) (fun ux ce9 q9 H9 locs9 hux hP9 hD9 hS9 hce hcv hcl => pb_out ux (ThQ.up (Thx.same (Thx.same (Thx.f Thx.rfl (by omega)) rfl) rfl) RhX.rfl hux) hnt hlocks hce hcv hcl hP9 hD9 hS9 (by show 5 + 1 ≤ 6; omega) (by show 25 + 6 ≤ 31; omega))
          obtain ⟨w, _⟩ := u295
          obtain ⟨hw296, h300, h301, hO⟩ := hw296
          have h300 : (((at9 + 1) + 1) + r171) + 1 ≤ sz := h300
          have h301 : tkN ((B 7)) sz 67 (nI (((at9 + 1) + 1) + r171)) = 65 := h301
          obtain rfl : v297 = some (.int (nI (((at9 + 1) + 1) + r171))) := hw296
          have hO : OKP G h0 a (upd (upd F 2 (nI sz)) 9 (nI ((((at9 + 1) + 1) + r171) + 1))) (updR R 1 (.ref pq)) Z B J K37 w := hO.to rfl
          refine W.widen (k := 5) (n := 25) (by show 5 + 0 ≤ 5; omega) (by show 25 + 0 ≤ 25; omega) ?_
          refine W.eq (g2 := F0 m 90 ls [.int (nI (((at9 + 1) + 1) + r171)), .ref r36]) rfl ?_
          refine p_put (v := .int (nI (((at9 + 1) + 1) + r171))) (ty := .int) (C := RX2) (Tc := TX2) (N := 13) (ci := 2) (K' := (kI K37 19 r36 (nI (((at9 + 1) + 1) + r171)))) hx hb hq pin_wsX20 tyX2 tyX2_ok nmX2 hown hE hP hD hS hO (by rw [h41]; decide) (rep_4 h41) rfl 4 (by decide) (hq _ pw_802) (fun _ h9 => h9) rfl (by decide +kernel) rfl rfl (Nat.le_of_ble_eq_true rfl) rfl (by rw [rep_4 (show (kI K37 19 r36 (nI (((at9 + 1) + 1) + r171))).1 r36 = 4 from h41), pi_19] <;> rfl) (fun p9 hp9 => rep_kI hp9) dX8_declaration_90 (fun H locs w hP hD hS hO => ?_)
          obtain ⟨K302, hK303⟩ : ∃ z : PK, z = (kI K37 19 r36 (nI (((at9 + 1) + 1) + r171))) := ⟨_, rfl⟩
          rw [← hK303] at hO
          have hf304 : K302.1 r36 = 4 := (by rw [hK303]; exact h41)
          have hf305 : K302.2.1 19 r36 = (nI (((at9 + 1) + 1) + r171)) := by rw [hK303]; exact kI_eq
          have htk306 : NwT (B 7) sz (B 10) (B 10) K K302 at9 ((at9 + 1) + 1) := by rw [hK303]; exact NwT.puti htk45 (by decide)
          have hwp307 : WPr G K302 g38 := by rw [hK303]; exact WPr.kI h39 (by decide) (Or.inr h42)
          have hps308 : PgS G K302 g38 (a 1) pq dr ml (nd + 1) nm cp it s9 := by rw [hK303]; exact PgS.kI h40 (by decide)
          have hpz309 : PzK G K302 g38 nm it none := by rw [hK303]; exact PzK.kI h43 (by decide)
          refine lv_aload_n hx hb dX8_declaration_93 rfl (lv_at hl 2 rfl) ?_
          refine lv_iload_n hx hb dX8_declaration_94 rfl (lv_at hl 1 rfl) ?_
          refine lv_if_eq (tgt := 103) hx hb dX8_declaration_95 (by decide) (fun c310 => ?_) (fun c310 => ?_)
          · have n311 : r6 = 0 := (nI_eq (a := r6) (b := 0) (by omega) (by omega)).mp c310
            refine lv_bipush (v := 12) hx hb dX8_declaration_103 (by decide) ?_
            have hO : OKW G h0 a (upd (upd (upd (upd F 2 (nI sz)) 9 (nI ((((at9 + 1) + 1) + r171) + 1))) 2 (nI sz)) 9 (nI ((((at9 + 1) + 1) + r171) + 1))) (updR R 1 (.ref pq)) Z B J K302.1 (fun q99 x99 => x99 = rep G a K302 q99) w := hO.to rfl
            obtain ⟨_, qr315, hqr316⟩ := hO.2.1 23 _ (sg_23 G h0 a _ _ _ _ _)
            refine pc_V0 (G := G) (As := [.int 12]) (rest := []) hx hb hml hown hq hE hX pX0_al hP hD hS hA hl.1 (P_takeIf l G h0 a (upd (upd F 2 (nI sz)) 9 (nI ((((at9 + 1) + 1) + r171) + 1))) (updR R 1 (.ref pq)) Z B J K302.1 (fun q99 x99 => x99 = rep G a K302 q99) w 12 ((((at9 + 1) + 1) + r171) + 1) sz (by omega) (by omega) (by decide) hO) (gV pw_797 pw_798 pw_799 pw_796 pw_789) hV_X8_takeIf qr315 5 hqr316 rfl rfl rfl (Nat.le_of_ble_eq_true rfl) dX8_declaration_105 ⟨(by show 5 + 0 ≤ 6; omega), (by show 25 + 0 ≤ 31; omega)⟩ ⟨Nat.le_of_ble_eq_true rfl, Nat.le_of_ble_eq_true rfl⟩ (fun v314 u312 H locs hw313 hP hD hS => ?_)
            obtain ⟨w, r317⟩ := u312
            obtain ⟨hw313, h318, h319, h320, hO⟩ := hw313
            have h318 : r317 ≤ 1 := h318
            have h319 : ((((at9 + 1) + 1) + r171) + 1) + r317 ≤ sz := h319
            have h320 : SeQ ((B 7)) sz ((((at9 + 1) + 1) + r171) + 1) 12 r317 := h320
            obtain rfl : v314 = some (.int (nI r317)) := hw313
            have hO : OKP G h0 a (upd (upd F 2 (nI sz)) 9 (nI (((((at9 + 1) + 1) + r171) + 1) + r317))) (updR R 1 (.ref pq)) Z B J K302 w := hO.to rfl
            refine W.widen (k := 5) (n := 25) (by show 5 + 0 ≤ 5; omega) (by show 25 + 0 ≤ 25; omega) ?_
            refine W.eq (g2 := F0 m 108 ls [.int (nI r317)]) rfl ?_
            refine lv_if_eq (tgt := 116) hx hb dX8_declaration_108 (by decide) (fun c321 => ?_) (fun c321 => ?_)
            · have n322 : r317 = 0 := (nI_eq (a := r317) (b := 0) (by omega) (by omega)).mp c321
              refine lv_aload_n hx hb dX8_declaration_116 rfl (lv_at hl 2 rfl) ?_
              refine lv_bipush (v := 32) hx hb dX8_declaration_117 (by decide) ?_
              have hO : OKW G h0 a (upd (upd (upd (upd (upd F 2 (nI sz)) 9 (nI at9)) 9 (nI (((((at9 + 1) + 1) + r171) + 1) + r317))) 2 (nI sz)) 9 (nI (((((at9 + 1) + 1) + r171) + 1) + r317))) (updR R 1 (.ref pq)) Z B J K302.1 (fun q99 x99 => x99 = rep G a K302 q99) w := hO.to rfl
              obtain ⟨_, qr326, hqr327⟩ := hO.2.1 23 _ (sg_23 G h0 a _ _ _ _ _)
              refine pn_V0 (G := G) (As := [.int 32]) (rest := []) hx hb hml hown hq hE hX pX0_al hP hD hS hA hl.1 (P_take l G h0 a (upd (upd (upd F 2 (nI sz)) 9 (nI at9)) 9 (nI (((((at9 + 1) + 1) + r171) + 1) + r317))) (updR R 1 (.ref pq)) Z B J K302.1 (fun q99 x99 => x99 = rep G a K302 q99) w 32 (((((at9 + 1) + 1) + r171) + 1) + r317) sz (by omega) (by omega) (by decide) hO hl0) (gV pw_793 pw_794 pw_795 pw_796 pw_781) hV_X8_take qr326 5 hqr327 rfl rfl rfl (Nat.le_of_ble_eq_true rfl) dX8_declaration_119 ⟨(by show 5 + 1 ≤ 6; omega), (by show 25 + 6 ≤ 31; omega)⟩ ⟨Nat.le_of_ble_eq_true rfl, Nat.le_of_ble_eq_true rfl⟩ (fun v325 u323 H locs hw324 hP hD hS => ?_) (fun ux ce9 q9 H9 locs9 hux hP9 hD9 hS9 hce hcv hcl => pb_out ux (ThQ.up (Thx.same (Thx.same (Thx.f Thx.rfl (by omega)) rfl) rfl) RhX.rfl hux) hnt hlocks hce hcv hcl hP9 hD9 hS9 (by show 5 + 1 ≤ 6; omega) (by show 25 + 6 ≤ 31; omega))
              obtain ⟨w, _⟩ := u323
              obtain ⟨hw324, h328, h329, hO⟩ := hw324
              have h328 : (((((at9 + 1) + 1) + r171) + 1) + r317) + 1 ≤ sz := h328
              have h329 : tkN ((B 7)) sz 67 (nI (((((at9 + 1) + 1) + r171) + 1) + r317)) = 32 := h329
              obtain rfl : v325 = some (.int (nI (((((at9 + 1) + 1) + r171) + 1) + r317))) := hw324
              have hO : OKP G h0 a (upd (upd F 2 (nI sz)) 9 (nI ((((((at9 + 1) + 1) + r171) + 1) + r317) + 1))) (updR R 1 (.ref pq)) Z B J K302 w := hO.to rfl
              refine W.widen (k := 5) (n := 25) (by show 5 + 0 ≤ 5; omega) (by show 25 + 0 ≤ 25; omega) ?_
              refine W.eq (g2 := F0 m 122 ls [.int (nI (((((at9 + 1) + 1) + r171) + 1) + r317))]) rfl ?_
              refine lv_pop hx hb dX8_declaration_122 rfl ?_
              refine lv_aload_n hx hb dX8_declaration_123 rfl (lv_at hl 0 rfl) ?_
              refine W_size (fun hz1 hz2 => ?_)
              refine vx_ret ?_
              have hz330 : WPr G K302 g38 := hwp307
              have hz331 : PgS G K302 g38 (a 1) pq dr ml (nd + 1) nm cp it s9 := hps308
              have hz332 : K302.1 r36 = 4 := hf304
              have hz333 : at9 + 3 ≤ ((((((at9 + 1) + 1) + r171) + 1) + r317) + 1) ∧ ((((((at9 + 1) + 1) + r171) + 1) + r317) + 1) ≤ sz := (by omega)
              have hz334 : PzK G K302 g38 nm it none := hpz309
              have hz335 : g38 5 r36 = 0 := h42
              have hz336 : NwT (B 7) sz (B 10) (B 10) K K302 at9 ((((((at9 + 1) + 1) + r171) + 1) + r317) + 1) := (NwT.le htk306 (by omega))
              have hO : OKP G h0 a (upd (upd F 2 (nI sz)) 9 (nI ((((((at9 + 1) + 1) + r171) + 1) + r317) + 1))) (updR R 1 (.ref pq)) Z B J K302 w := hO.to rfl
              refine W.widen (k := 6) (n := 31) (by omega) (by omega) ?_
              have hzz1 : H.size ≤ s.heap.size + (5) := (by have z : 5 ≤ 5 := (by omega); omega)
              have hzz2 : hSl H ≤ hSl s.heap + (25) := (by have z : 25 ≤ 25 := (by omega); omega)
              exact W.aret (v := .ref r36) hx hb hr (Or.inl ⟨_, rfl⟩) (Or.inr ⟨_, rfl⟩) (fun t99 ht99 hW99 => ⟨⟨_, (w, (K302, g38, r36, ((((((at9 + 1) + 1) + r171) + 1) + r317) + 1), (nd + 1))), rfl, ⟨rfl, hz330, hz331, hz332, hz333, hz334, hz335, hz336, hO⟩, by rw [ht99]; exact hP, hD, by rw [ht99]; exact hzz1, by rw [ht99]; exact hzz2⟩, hS.F ht99⟩) hS.2.2 dX8_declaration_124
            · have n337 : ¬ (r317 = 0) := fun h9 => c321 ((nI_eq (a := r317) (b := 0) (by omega) (by omega)).mpr h9)
              refine lv_aload_n hx hb dX8_declaration_111 rfl (lv_at hl 2 rfl) ?_
              refine lv_aload_n hx hb dX8_declaration_112 rfl (lv_at hl 0 rfl) ?_
              have hO : OKP G h0 a (upd (upd (upd (upd (upd F 2 (nI sz)) 9 (nI at9)) 9 (nI (((((at9 + 1) + 1) + r171) + 1) + r317))) 2 (nI sz)) 9 (nI (((((at9 + 1) + 1) + r171) + 1) + r317))) (updR (updR R 1 (.ref pq)) 1 (.ref pq)) Z B J K302 w := hO.to rfl
              obtain ⟨_, qr341, hqr342⟩ := hO.2.1 23 _ (sg_23 G h0 a _ _ _ _ _)
              refine pn_V0 (G := G) (As := [.ref r36]) (rest := []) hx hb hml hown hq hE hX pX0_al hP hD hS hA hl.1 (P_listI l G h0 a (upd (upd (upd F 2 (nI sz)) 9 (nI at9)) 9 (nI (((((at9 + 1) + 1) + r171) + 1) + r317))) (updR R 1 (.ref pq)) Z B J K302 w pq dr ml (nd + 1) nm cp it s9 r36 (((((at9 + 1) + 1) + r171) + 1) + r317) sz g38 (by omega) (by omega) hwp307 hps308 hpz309 hf304 h42 hO hl0) (gV pw_815 pw_816 pw_817 pw_796 pw_800) hV_X8_listInterfaces qr341 5 hqr342 rfl rfl rfl (Nat.le_of_ble_eq_true rfl) dX8_declaration_113 ⟨(by show 5 + 1 ≤ 6; omega), (by show 25 + 6 ≤ 31; omega)⟩ ⟨Nat.le_of_ble_eq_true rfl, Nat.le_of_ble_eq_true rfl⟩ (fun v340 u338 H locs hw339 hP hD hS => ?_) (fun ux ce9 q9 H9 locs9 hux hP9 hD9 hS9 hce hcv hcl => pb_out ux (ThQ.up (Thx.same (Thx.same (Thx.f Thx.rfl (by omega)) rfl) rfl) (show RhX (updR R 1 (.ref pq)) (updR (updR R 1 (.ref pq)) 1 (.ref pq)) from fun k9 hk9 => by unfold updR; simp only [show ¬ k9 = 1 by omega, show ¬ k9 = 2 by omega, show ¬ k9 = 3 by omega, show ¬ k9 = 4 by omega, if_false]) hux) hnt hlocks hce hcv hcl hP9 hD9 hS9 (by show 5 + 1 ≤ 6; omega) (by show 25 + 6 ≤ 31; omega))
              obtain ⟨w, K343, g344, at345⟩ := u338
              obtain ⟨hw339, h346, h347, h348, h349, h350, h351, h352, h353, hO⟩ := hw339
              have h346 : WPr G K343 g344 := h346
              have h347 : PgS G K343 g344 (a 1) pq dr ml (nd + 1) nm cp it s9 := h347
              have h348 : K343.1 r36 = 4 := h348
              have h349 : (((((at9 + 1) + 1) + r171) + 1) + r317) + 1 ≤ at345 ∧ at345 ≤ sz := h349
              have h350 : PzK G K343 g344 nm it none := h350
              have h351 : K343.2.1 18 r36 = K302.2.1 18 r36 := h351
              have h352 : g344 5 r36 = g38 5 r36 := h352
              have h353 : VaT K302 K343 := h353
              obtain rfl : v340 = none := hw339
              have hO : OKP G h0 a (upd (upd F 2 (nI sz)) 9 (nI at345)) (updR R 1 (.ref pq)) Z B J K343 w := hO.to rfl
              refine W.widen (k := 5) (n := 25) (by show 5 + 0 ≤ 5; omega) (by show 25 + 0 ≤ 25; omega) ?_
              refine W.eq (g2 := F0 m 116 ls []) rfl ?_
              have htk354 : NwT (B 7) sz (B 10) (B 10) K K343 at9 (((((at9 + 1) + 1) + r171) + 1) + r317) := (NwT.call (NwT.le htk306 (show _ ≤ (((((at9 + 1) + 1) + r171) + 1) + r317) by omega)) (h353 (B 7) (B 10) sz (((((at9 + 1) + 1) + r171) + 1) + r317)) (Nat.le_refl _))
              refine lv_aload_n hx hb dX8_declaration_116 rfl (lv_at hl 2 rfl) ?_
              refine lv_bipush (v := 32) hx hb dX8_declaration_117 (by decide) ?_
              have hO : OKW G h0 a (upd (upd (upd (upd (upd F 2 (nI sz)) 9 (nI at9)) 9 (nI at345)) 2 (nI sz)) 9 (nI at345)) (updR R 1 (.ref pq)) Z B J K343.1 (fun q99 x99 => x99 = rep G a K343 q99) w := hO.to rfl
              obtain ⟨_, qr358, hqr359⟩ := hO.2.1 23 _ (sg_23 G h0 a _ _ _ _ _)
              refine pn_V0 (G := G) (As := [.int 32]) (rest := []) hx hb hml hown hq hE hX pX0_al hP hD hS hA hl.1 (P_take l G h0 a (upd (upd (upd F 2 (nI sz)) 9 (nI at9)) 9 (nI at345)) (updR R 1 (.ref pq)) Z B J K343.1 (fun q99 x99 => x99 = rep G a K343 q99) w 32 at345 sz (by omega) (by omega) (by decide) hO hl0) (gV pw_793 pw_794 pw_795 pw_796 pw_781) hV_X8_take qr358 5 hqr359 rfl rfl rfl (Nat.le_of_ble_eq_true rfl) dX8_declaration_119 ⟨(by show 5 + 1 ≤ 6; omega), (by show 25 + 6 ≤ 31; omega)⟩ ⟨Nat.le_of_ble_eq_true rfl, Nat.le_of_ble_eq_true rfl⟩ (fun v357 u355 H locs hw356 hP hD hS => ?_) (fun ux ce9 q9 H9 locs9 hux hP9 hD9 hS9 hce hcv hcl => pb_out ux (ThQ.up (Thx.same (Thx.same (Thx.f Thx.rfl (by omega)) rfl) rfl) RhX.rfl hux) hnt hlocks hce hcv hcl hP9 hD9 hS9 (by show 5 + 1 ≤ 6; omega) (by show 25 + 6 ≤ 31; omega))
              obtain ⟨w, _⟩ := u355
              obtain ⟨hw356, h360, h361, hO⟩ := hw356
              have h360 : at345 + 1 ≤ sz := h360
              have h361 : tkN ((B 7)) sz 67 (nI at345) = 32 := h361
              obtain rfl : v357 = some (.int (nI at345)) := hw356
              have hO : OKP G h0 a (upd (upd F 2 (nI sz)) 9 (nI (at345 + 1))) (updR R 1 (.ref pq)) Z B J K343 w := hO.to rfl
              refine W.widen (k := 5) (n := 25) (by show 5 + 0 ≤ 5; omega) (by show 25 + 0 ≤ 25; omega) ?_
              refine W.eq (g2 := F0 m 122 ls [.int (nI at345)]) rfl ?_
              refine lv_pop hx hb dX8_declaration_122 rfl ?_
              refine lv_aload_n hx hb dX8_declaration_123 rfl (lv_at hl 0 rfl) ?_
              refine W_size (fun hz1 hz2 => ?_)
              refine vx_ret ?_
              have hz362 : WPr G K343 g344 := h346
              have hz363 : PgS G K343 g344 (a 1) pq dr ml (nd + 1) nm cp it s9 := h347
              have hz364 : K343.1 r36 = 4 := h348
              have hz365 : at9 + 3 ≤ (at345 + 1) ∧ (at345 + 1) ≤ sz := (by omega)
              have hz366 : PzK G K343 g344 nm it none := h350
              have hz367 : g344 5 r36 = 0 := (h352.trans h42)
              have hz368 : NwT (B 7) sz (B 10) (B 10) K K343 at9 (at345 + 1) := (NwT.le htk354 (by omega))
              have hO : OKP G h0 a (upd (upd F 2 (nI sz)) 9 (nI (at345 + 1))) (updR R 1 (.ref pq)) Z B J K343 w := hO.to rfl
              refine W.widen (k := 6) (n := 31) (by omega) (by omega) ?_
              have hzz1 : H.size ≤ s.heap.size + (5) := (by have z : 5 ≤ 5 := (by omega); omega)
              have hzz2 : hSl H ≤ hSl s.heap + (25) := (by have z : 25 ≤ 25 := (by omega); omega)
              exact W.aret (v := .ref r36) hx hb hr (Or.inl ⟨_, rfl⟩) (Or.inr ⟨_, rfl⟩) (fun t99 ht99 hW99 => ⟨⟨_, (w, (K343, g344, r36, (at345 + 1), (nd + 1))), rfl, ⟨rfl, hz362, hz363, hz364, hz365, hz366, hz367, hz368, hO⟩, by rw [ht99]; exact hP, hD, by rw [ht99]; exact hzz1, by rw [ht99]; exact hzz2⟩, hS.F ht99⟩) hS.2.2 dX8_declaration_124
          · have n369 : ¬ (r6 = 0) := fun h9 => c310 ((nI_eq (a := r6) (b := 0) (by omega) (by omega)).mpr h9)
            refine lv_bipush (v := 7) hx hb dX8_declaration_98 (by decide) ?_
            refine lv_goto (tgt := 105) hx hb dX8_declaration_100 (by decide) ?_
            have hO : OKW G h0 a (upd (upd (upd (upd F 2 (nI sz)) 9 (nI ((((at9 + 1) + 1) + r171) + 1))) 2 (nI sz)) 9 (nI ((((at9 + 1) + 1) + r171) + 1))) (updR R 1 (.ref pq)) Z B J K302.1 (fun q99 x99 => x99 = rep G a K302 q99) w := hO.to rfl
            obtain ⟨_, qr373, hqr374⟩ := hO.2.1 23 _ (sg_23 G h0 a _ _ _ _ _)
            refine pc_V0 (G := G) (As := [.int 7]) (rest := []) hx hb hml hown hq hE hX pX0_al hP hD hS hA hl.1 (P_takeIf l G h0 a (upd (upd F 2 (nI sz)) 9 (nI ((((at9 + 1) + 1) + r171) + 1))) (updR R 1 (.ref pq)) Z B J K302.1 (fun q99 x99 => x99 = rep G a K302 q99) w 7 ((((at9 + 1) + 1) + r171) + 1) sz (by omega) (by omega) (by decide) hO) (gV pw_797 pw_798 pw_799 pw_796 pw_789) hV_X8_takeIf qr373 5 hqr374 rfl rfl rfl (Nat.le_of_ble_eq_true rfl) dX8_declaration_105 ⟨(by show 5 + 0 ≤ 6; omega), (by show 25 + 0 ≤ 31; omega)⟩ ⟨Nat.le_of_ble_eq_true rfl, Nat.le_of_ble_eq_true rfl⟩ (fun v372 u370 H locs hw371 hP hD hS => ?_)
            obtain ⟨w, r375⟩ := u370
            obtain ⟨hw371, h376, h377, h378, hO⟩ := hw371
            have h376 : r375 ≤ 1 := h376
            have h377 : ((((at9 + 1) + 1) + r171) + 1) + r375 ≤ sz := h377
            have h378 : SeQ ((B 7)) sz ((((at9 + 1) + 1) + r171) + 1) 7 r375 := h378
            obtain rfl : v372 = some (.int (nI r375)) := hw371
            have hO : OKP G h0 a (upd (upd F 2 (nI sz)) 9 (nI (((((at9 + 1) + 1) + r171) + 1) + r375))) (updR R 1 (.ref pq)) Z B J K302 w := hO.to rfl
            refine W.widen (k := 5) (n := 25) (by show 5 + 0 ≤ 5; omega) (by show 25 + 0 ≤ 25; omega) ?_
            refine W.eq (g2 := F0 m 108 ls [.int (nI r375)]) rfl ?_
            refine lv_if_eq (tgt := 116) hx hb dX8_declaration_108 (by decide) (fun c379 => ?_) (fun c379 => ?_)
            · have n380 : r375 = 0 := (nI_eq (a := r375) (b := 0) (by omega) (by omega)).mp c379
              refine lv_aload_n hx hb dX8_declaration_116 rfl (lv_at hl 2 rfl) ?_
              refine lv_bipush (v := 32) hx hb dX8_declaration_117 (by decide) ?_
              have hO : OKW G h0 a (upd (upd (upd (upd (upd F 2 (nI sz)) 9 (nI at9)) 9 (nI (((((at9 + 1) + 1) + r171) + 1) + r375))) 2 (nI sz)) 9 (nI (((((at9 + 1) + 1) + r171) + 1) + r375))) (updR R 1 (.ref pq)) Z B J K302.1 (fun q99 x99 => x99 = rep G a K302 q99) w := hO.to rfl
              obtain ⟨_, qr384, hqr385⟩ := hO.2.1 23 _ (sg_23 G h0 a _ _ _ _ _)
              refine pn_V0 (G := G) (As := [.int 32]) (rest := []) hx hb hml hown hq hE hX pX0_al hP hD hS hA hl.1 (P_take l G h0 a (upd (upd (upd F 2 (nI sz)) 9 (nI at9)) 9 (nI (((((at9 + 1) + 1) + r171) + 1) + r375))) (updR R 1 (.ref pq)) Z B J K302.1 (fun q99 x99 => x99 = rep G a K302 q99) w 32 (((((at9 + 1) + 1) + r171) + 1) + r375) sz (by omega) (by omega) (by decide) hO hl0) (gV pw_793 pw_794 pw_795 pw_796 pw_781) hV_X8_take qr384 5 hqr385 rfl rfl rfl (Nat.le_of_ble_eq_true rfl) dX8_declaration_119 ⟨(by show 5 + 1 ≤ 6; omega), (by show 25 + 6 ≤ 31; omega)⟩ ⟨Nat.le_of_ble_eq_true rfl, Nat.le_of_ble_eq_true rfl⟩ (fun v383 u381 H locs hw382 hP hD hS => ?_) (fun ux ce9 q9 H9 locs9 hux hP9 hD9 hS9 hce hcv hcl => pb_out ux (ThQ.up (Thx.same (Thx.same (Thx.f Thx.rfl (by omega)) rfl) rfl) RhX.rfl hux) hnt hlocks hce hcv hcl hP9 hD9 hS9 (by show 5 + 1 ≤ 6; omega) (by show 25 + 6 ≤ 31; omega))
              obtain ⟨w, _⟩ := u381
              obtain ⟨hw382, h386, h387, hO⟩ := hw382
              have h386 : (((((at9 + 1) + 1) + r171) + 1) + r375) + 1 ≤ sz := h386
              have h387 : tkN ((B 7)) sz 67 (nI (((((at9 + 1) + 1) + r171) + 1) + r375)) = 32 := h387
              obtain rfl : v383 = some (.int (nI (((((at9 + 1) + 1) + r171) + 1) + r375))) := hw382
              have hO : OKP G h0 a (upd (upd F 2 (nI sz)) 9 (nI ((((((at9 + 1) + 1) + r171) + 1) + r375) + 1))) (updR R 1 (.ref pq)) Z B J K302 w := hO.to rfl
              refine W.widen (k := 5) (n := 25) (by show 5 + 0 ≤ 5; omega) (by show 25 + 0 ≤ 25; omega) ?_
              refine W.eq (g2 := F0 m 122 ls [.int (nI (((((at9 + 1) + 1) + r171) + 1) + r375))]) rfl ?_
              refine lv_pop hx hb dX8_declaration_122 rfl ?_
              refine lv_aload_n hx hb dX8_declaration_123 rfl (lv_at hl 0 rfl) ?_
              refine W_size (fun hz1 hz2 => ?_)
              refine vx_ret ?_
              have hz388 : WPr G K302 g38 := hwp307
              have hz389 : PgS G K302 g38 (a 1) pq dr ml (nd + 1) nm cp it s9 := hps308
              have hz390 : K302.1 r36 = 4 := hf304
              have hz391 : at9 + 3 ≤ ((((((at9 + 1) + 1) + r171) + 1) + r375) + 1) ∧ ((((((at9 + 1) + 1) + r171) + 1) + r375) + 1) ≤ sz := (by omega)
              have hz392 : PzK G K302 g38 nm it none := hpz309
              have hz393 : g38 5 r36 = 0 := h42
              have hz394 : NwT (B 7) sz (B 10) (B 10) K K302 at9 ((((((at9 + 1) + 1) + r171) + 1) + r375) + 1) := (NwT.le htk306 (by omega))
              have hO : OKP G h0 a (upd (upd F 2 (nI sz)) 9 (nI ((((((at9 + 1) + 1) + r171) + 1) + r375) + 1))) (updR R 1 (.ref pq)) Z B J K302 w := hO.to rfl
              refine W.widen (k := 6) (n := 31) (by omega) (by omega) ?_
              have hzz1 : H.size ≤ s.heap.size + (5) := (by have z : 5 ≤ 5 := (by omega); omega)
              have hzz2 : hSl H ≤ hSl s.heap + (25) := (by have z : 25 ≤ 25 := (by omega); omega)
              exact W.aret (v := .ref r36) hx hb hr (Or.inl ⟨_, rfl⟩) (Or.inr ⟨_, rfl⟩) (fun t99 ht99 hW99 => ⟨⟨_, (w, (K302, g38, r36, ((((((at9 + 1) + 1) + r171) + 1) + r375) + 1), (nd + 1))), rfl, ⟨rfl, hz388, hz389, hz390, hz391, hz392, hz393, hz394, hO⟩, by rw [ht99]; exact hP, hD, by rw [ht99]; exact hzz1, by rw [ht99]; exact hzz2⟩, hS.F ht99⟩) hS.2.2 dX8_declaration_124
            · have n395 : ¬ (r375 = 0) := fun h9 => c379 ((nI_eq (a := r375) (b := 0) (by omega) (by omega)).mpr h9)
              refine lv_aload_n hx hb dX8_declaration_111 rfl (lv_at hl 2 rfl) ?_
              refine lv_aload_n hx hb dX8_declaration_112 rfl (lv_at hl 0 rfl) ?_
              have hO : OKP G h0 a (upd (upd (upd (upd (upd F 2 (nI sz)) 9 (nI at9)) 9 (nI (((((at9 + 1) + 1) + r171) + 1) + r375))) 2 (nI sz)) 9 (nI (((((at9 + 1) + 1) + r171) + 1) + r375))) (updR (updR R 1 (.ref pq)) 1 (.ref pq)) Z B J K302 w := hO.to rfl
              obtain ⟨_, qr399, hqr400⟩ := hO.2.1 23 _ (sg_23 G h0 a _ _ _ _ _)
              refine pn_V0 (G := G) (As := [.ref r36]) (rest := []) hx hb hml hown hq hE hX pX0_al hP hD hS hA hl.1 (P_listI l G h0 a (upd (upd (upd F 2 (nI sz)) 9 (nI at9)) 9 (nI (((((at9 + 1) + 1) + r171) + 1) + r375))) (updR R 1 (.ref pq)) Z B J K302 w pq dr ml (nd + 1) nm cp it s9 r36 (((((at9 + 1) + 1) + r171) + 1) + r375) sz g38 (by omega) (by omega) hwp307 hps308 hpz309 hf304 h42 hO hl0) (gV pw_815 pw_816 pw_817 pw_796 pw_800) hV_X8_listInterfaces qr399 5 hqr400 rfl rfl rfl (Nat.le_of_ble_eq_true rfl) dX8_declaration_113 ⟨(by show 5 + 1 ≤ 6; omega), (by show 25 + 6 ≤ 31; omega)⟩ ⟨Nat.le_of_ble_eq_true rfl, Nat.le_of_ble_eq_true rfl⟩ (fun v398 u396 H locs hw397 hP hD hS => ?_) (fun ux ce9 q9 H9 locs9 hux hP9 hD9 hS9 hce hcv hcl => pb_out ux (ThQ.up (Thx.same (Thx.same (Thx.f Thx.rfl (by omega)) rfl) rfl) (show RhX (updR R 1 (.ref pq)) (updR (updR R 1 (.ref pq)) 1 (.ref pq)) from fun k9 hk9 => by unfold updR; simp only [show ¬ k9 = 1 by omega, show ¬ k9 = 2 by omega, show ¬ k9 = 3 by omega, show ¬ k9 = 4 by omega, if_false]) hux) hnt hlocks hce hcv hcl hP9 hD9 hS9 (by show 5 + 1 ≤ 6; omega) (by show 25 + 6 ≤ 31; omega))
              obtain ⟨w, K401, g402, at403⟩ := u396
              obtain ⟨hw397, h404, h405, h406, h407, h408, h409, h410, h411, hO⟩ := hw397
              have h404 : WPr G K401 g402 := h404
              have h405 : PgS G K401 g402 (a 1) pq dr ml (nd + 1) nm cp it s9 := h405
              have h406 : K401.1 r36 = 4 := h406
              have h407 : (((((at9 + 1) + 1) + r171) + 1) + r375) + 1 ≤ at403 ∧ at403 ≤ sz := h407
              have h408 : PzK G K401 g402 nm it none := h408
              have h409 : K401.2.1 18 r36 = K302.2.1 18 r36 := h409
              have h410 : g402 5 r36 = g38 5 r36 := h410
              have h411 : VaT K302 K401 := h411
              obtain rfl : v398 = none := hw397
              have hO : OKP G h0 a (upd (upd F 2 (nI sz)) 9 (nI at403)) (updR R 1 (.ref pq)) Z B J K401 w := hO.to rfl
              refine W.widen (k := 5) (n := 25) (by show 5 + 0 ≤ 5; omega) (by show 25 + 0 ≤ 25; omega) ?_
              refine W.eq (g2 := F0 m 116 ls []) rfl ?_
              have htk412 : NwT (B 7) sz (B 10) (B 10) K K401 at9 (((((at9 + 1) + 1) + r171) + 1) + r375) := (NwT.call (NwT.le htk306 (show _ ≤ (((((at9 + 1) + 1) + r171) + 1) + r375) by omega)) (h411 (B 7) (B 10) sz (((((at9 + 1) + 1) + r171) + 1) + r375)) (Nat.le_refl _))
              refine lv_aload_n hx hb dX8_declaration_116 rfl (lv_at hl 2 rfl) ?_
              refine lv_bipush (v := 32) hx hb dX8_declaration_117 (by decide) ?_
              have hO : OKW G h0 a (upd (upd (upd (upd (upd F 2 (nI sz)) 9 (nI at9)) 9 (nI at403)) 2 (nI sz)) 9 (nI at403)) (updR R 1 (.ref pq)) Z B J K401.1 (fun q99 x99 => x99 = rep G a K401 q99) w := hO.to rfl
              obtain ⟨_, qr416, hqr417⟩ := hO.2.1 23 _ (sg_23 G h0 a _ _ _ _ _)
              refine pn_V0 (G := G) (As := [.int 32]) (rest := []) hx hb hml hown hq hE hX pX0_al hP hD hS hA hl.1 (P_take l G h0 a (upd (upd (upd F 2 (nI sz)) 9 (nI at9)) 9 (nI at403)) (updR R 1 (.ref pq)) Z B J K401.1 (fun q99 x99 => x99 = rep G a K401 q99) w 32 at403 sz (by omega) (by omega) (by decide) hO hl0) (gV pw_793 pw_794 pw_795 pw_796 pw_781) hV_X8_take qr416 5 hqr417 rfl rfl rfl (Nat.le_of_ble_eq_true rfl) dX8_declaration_119 ⟨(by show 5 + 1 ≤ 6; omega), (by show 25 + 6 ≤ 31; omega)⟩ ⟨Nat.le_of_ble_eq_true rfl, Nat.le_of_ble_eq_true rfl⟩ (fun v415 u413 H locs hw414 hP hD hS => ?_) (fun ux ce9 q9 H9 locs9 hux hP9 hD9 hS9 hce hcv hcl => pb_out ux (ThQ.up (Thx.same (Thx.same (Thx.f Thx.rfl (by omega)) rfl) rfl) RhX.rfl hux) hnt hlocks hce hcv hcl hP9 hD9 hS9 (by show 5 + 1 ≤ 6; omega) (by show 25 + 6 ≤ 31; omega))
              obtain ⟨w, _⟩ := u413
              obtain ⟨hw414, h418, h419, hO⟩ := hw414
              have h418 : at403 + 1 ≤ sz := h418
              have h419 : tkN ((B 7)) sz 67 (nI at403) = 32 := h419
              obtain rfl : v415 = some (.int (nI at403)) := hw414
              have hO : OKP G h0 a (upd (upd F 2 (nI sz)) 9 (nI (at403 + 1))) (updR R 1 (.ref pq)) Z B J K401 w := hO.to rfl
              refine W.widen (k := 5) (n := 25) (by show 5 + 0 ≤ 5; omega) (by show 25 + 0 ≤ 25; omega) ?_
              refine W.eq (g2 := F0 m 122 ls [.int (nI at403)]) rfl ?_
              refine lv_pop hx hb dX8_declaration_122 rfl ?_
              refine lv_aload_n hx hb dX8_declaration_123 rfl (lv_at hl 0 rfl) ?_
              refine W_size (fun hz1 hz2 => ?_)
              refine vx_ret ?_
              have hz420 : WPr G K401 g402 := h404
              have hz421 : PgS G K401 g402 (a 1) pq dr ml (nd + 1) nm cp it s9 := h405
              have hz422 : K401.1 r36 = 4 := h406
              have hz423 : at9 + 3 ≤ (at403 + 1) ∧ (at403 + 1) ≤ sz := (by omega)
              have hz424 : PzK G K401 g402 nm it none := h408
              have hz425 : g402 5 r36 = 0 := (h410.trans h42)
              have hz426 : NwT (B 7) sz (B 10) (B 10) K K401 at9 (at403 + 1) := (NwT.le htk412 (by omega))
              have hO : OKP G h0 a (upd (upd F 2 (nI sz)) 9 (nI (at403 + 1))) (updR R 1 (.ref pq)) Z B J K401 w := hO.to rfl
              refine W.widen (k := 6) (n := 31) (by omega) (by omega) ?_
              have hzz1 : H.size ≤ s.heap.size + (5) := (by have z : 5 ≤ 5 := (by omega); omega)
              have hzz2 : hSl H ≤ hSl s.heap + (25) := (by have z : 25 ≤ 25 := (by omega); omega)
              exact W.aret (v := .ref r36) hx hb hr (Or.inl ⟨_, rfl⟩) (Or.inr ⟨_, rfl⟩) (fun t99 ht99 hW99 => ⟨⟨_, (w, (K401, g402, r36, (at403 + 1), (nd + 1))), rfl, ⟨rfl, hz420, hz421, hz422, hz423, hz424, hz425, hz426, hO⟩, by rw [ht99]; exact hP, hD, by rw [ht99]; exact hzz1, by rw [ht99]; exact hzz2⟩, hS.F ht99⟩) hS.2.2 dX8_declaration_124
    · have n427 : ¬ (r17 = 0) := fun h9 => c20 ((nI_eq (a := r17) (b := 0) (by omega) (by omega)).mpr h9)
      refine lv_aload_n hx hb dX8_declaration_33 rfl (lv_at hl 1 rfl) ?_
      refine c_get (v := .ref (a 1)) (C := RX8) (Tc := TX8) (N := 5) (ci := 5) hx hb hq pin_wsX80 hown hE hP hO 23 (sg_23 G h0 a _ _ _ _ _) rfl 0 (by decide) (hq _ pw_774) (fun _ h9 => h9) rfl dX8_declaration_34 ?_
      refine lv_iconst (v := 2) hx hb dX8_declaration_37 (by decide) ?_
      refine lv_aload_n hx hb dX8_declaration_38 rfl (lv_at hl 1 rfl) ?_
      refine c_get (v := .int (nI at9)) (C := RX8) (Tc := TX8) (N := 5) (ci := 5) hx hb hq pin_wsX80 hown hE hP hO 23 (sg_23 G h0 a _ _ _ _ _) rfl 2 (by decide) (hq _ pw_776) (fun _ h9 => h9) rfl dX8_declaration_39 ?_
      have hO : OKW G h0 a (upd (upd (upd F 2 (nI sz)) 9 (nI at9)) 2 (nI sz)) (updR R 1 (.ref pq)) Z B J K.1 (fun q99 x99 => x99 = rep G a K q99) w := hO.to rfl
      obtain ⟨_, qr431, hqr432⟩ := hO.2.1 2 _ (sg_2 G h0 a _ _ _ _ _)
      refine pn_V0 (G := G) (As := [.int 2, .int (nI at9)]) (rest := []) hx hb hml hown hq hE hX pX0_al hP hD hS hA hl.1 (K_fail l G h0 a (upd (upd F 2 (nI sz)) 9 (nI at9)) (updR R 1 (.ref pq)) Z B J K.1 (fun q99 x99 => x99 = rep G a K q99) w 2 (nI at9) sz (by omega) hO hl0) (gV pw_779 pw_65 pw_66 pw_59 pw_43) hV_X10_fail qr431 7 hqr432 rfl rfl rfl (Nat.le_of_ble_eq_true rfl) dX8_declaration_42 ⟨(by show 0 + 1 ≤ 6; omega), (by show 0 + 6 ≤ 31; omega)⟩ ⟨Nat.le_of_ble_eq_true rfl, Nat.le_of_ble_eq_true rfl⟩ (fun v430 u428 H locs hw429 hP hD hS => hw429.elim) (fun ux ce9 q9 H9 locs9 hux hP9 hD9 hS9 hce hcv hcl => pb_out ux (ThQ.up (Thx.same Thx.rfl rfl) RhX.rfl hux) hnt hlocks hce hcv hcl hP9 hD9 hS9 (by show 0 + 1 ≤ 6; omega) (by show 0 + 6 ≤ 31; omega))
  · have n433 : r6 = 0 := (nI_eq (a := r6) (b := 0) (by omega) (by omega)).mp c10
    refine lv_aload_n hx hb dX8_declaration_11 rfl (lv_at hl 1 rfl) ?_
    refine lv_iconst (v := 4) hx hb dX8_declaration_12 (by decide) ?_
    have hO : OKW G h0 a (upd (upd (upd (upd F 2 (nI sz)) 9 (nI at9)) 2 (nI sz)) 9 (nI at9)) (updR R 1 (.ref pq)) Z B J K.1 (fun q99 x99 => x99 = rep G a K q99) w := hO.to rfl
    obtain ⟨_, qr437, hqr438⟩ := hO.2.1 23 _ (sg_23 G h0 a _ _ _ _ _)
    refine pc_V0 (G := G) (As := [.int 4]) (rest := []) hx hb hml hown hq hE hX pX0_al hP hD hS hA hl.1 (P_seesT l G h0 a (upd (upd F 2 (nI sz)) 9 (nI at9)) (updR R 1 (.ref pq)) Z B J K.1 (fun q99 x99 => x99 = rep G a K q99) w 4 at9 sz (by omega) (by omega) (by decide) hO) (gV pw_803 pw_804 pw_805 pw_796 pw_775) hV_X8_sees qr437 5 hqr438 rfl rfl rfl (Nat.le_of_ble_eq_true rfl) dX8_declaration_13 ⟨(by show 0 + 0 ≤ 6; omega), (by show 0 + 0 ≤ 31; omega)⟩ ⟨Nat.le_of_ble_eq_true rfl, Nat.le_of_ble_eq_true rfl⟩ (fun v436 u434 H locs hw435 hP hD hS => ?_)
    obtain ⟨w, r439⟩ := u434
    obtain ⟨hw435, h440, h441, h442, hO⟩ := hw435
    have h440 : r439 ≤ 1 := h440
    have h441 : at9 + r439 ≤ sz := h441
    have h442 : SeQ ((B 7)) sz at9 4 r439 := h442
    obtain rfl : v436 = some (.int (nI r439)) := hw435
    have hO : OKP G h0 a (upd (upd F 2 (nI sz)) 9 (nI at9)) (updR R 1 (.ref pq)) Z B J K w := hO.to rfl
    refine W.widen (k := 0) (n := 0) (Nat.le_of_ble_eq_true rfl) (Nat.le_of_ble_eq_true rfl) ?_
    refine W.eq (g2 := F0 m 16 ls [.int (nI r439)]) rfl ?_
    refine lv_if_ne (tgt := 23) hx hb dX8_declaration_16 (by decide) (fun c443 => ?_) (fun c443 => ?_)
    · have n444 : ¬ (r439 = 0) := fun h9 => c443 ((nI_eq (a := r439) (b := 0) (by omega) (by omega)).mpr h9)
      refine lv_aload_n hx hb dX8_declaration_23 rfl (lv_at hl 1 rfl) ?_
      refine c_get (v := .ref pq) (C := RX8) (Tc := TX8) (N := 5) (ci := 5) hx hb hq pin_wsX80 hown hE hP hO 23 (sg_23 G h0 a _ _ _ _ _) rfl 1 (by decide) (hq _ pw_801) (fun _ h9 => h9) rfl dX8_declaration_24 ?_
      have hO : OKP G h0 a (upd (upd F 2 (nI sz)) 9 (nI at9)) (updR R 1 (.ref pq)) Z B J K w := hO.to rfl
      obtain ⟨qr448, hqr449⟩ := p_recv hO (by rw [hp1]; decide) (rep_7 hp1)
      refine pc_V0 (G := G) (As := []) (rest := []) hx hb hml hown hq hE hX pX0_al hP hD hS hA hl.1 (G_isFull l G h0 a (upd (upd F 2 (nI sz)) 9 (nI at9)) (updR R 1 (.ref pq)) Z B J K w pq dr ml nd g hps.1 hO) (gV pw_809 pw_810 pw_811 pw_106 pw_780) hV_X9_isFull qr448 6 hqr449 rfl rfl rfl (Nat.le_of_ble_eq_true rfl) dX8_declaration_27 ⟨(by show 0 + 0 ≤ 6; omega), (by show 0 + 0 ≤ 31; omega)⟩ ⟨Nat.le_of_ble_eq_true rfl, Nat.le_of_ble_eq_true rfl⟩ (fun v447 u445 H locs hw446 hP hD hS => ?_)
      obtain ⟨w, r450⟩ := u445
      obtain ⟨hw446, h451, h452, hO⟩ := hw446
      have h451 : r450 ≤ 1 := h451
      have h452 : nd + 1 ≤ 37 + r450 := h452
      obtain rfl : v447 = some (.int (nI r450)) := hw446
      have hO : OKP G h0 a (upd (upd F 2 (nI sz)) 9 (nI at9)) (updR R 1 (.ref pq)) Z B J K w := hO.to rfl
      refine W.widen (k := 0) (n := 0) (Nat.le_of_ble_eq_true rfl) (Nat.le_of_ble_eq_true rfl) ?_
      refine W.eq (g2 := F0 m 30 ls [.int (nI r450)]) rfl ?_
      refine lv_if_eq (tgt := 45) hx hb dX8_declaration_30 (by decide) (fun c453 => ?_) (fun c453 => ?_)
      · have n454 : r450 = 0 := (nI_eq (a := r450) (b := 0) (by omega) (by omega)).mp c453
        refine lv_aload_n hx hb dX8_declaration_45 rfl (lv_at hl 1 rfl) ?_
        refine lv_dup hx hb dX8_declaration_46 rfl ?_
        refine c_get (v := .int (nI at9)) (C := RX8) (Tc := TX8) (N := 5) (ci := 5) hx hb hq pin_wsX80 hown hE hP hO 23 (sg_23 G h0 a _ _ _ _ _) rfl 2 (by decide) (hq _ pw_776) (fun _ h9 => h9) rfl dX8_declaration_47 ?_
        refine lv_iconst (v := 1) hx hb dX8_declaration_50 (by decide) ?_
        refine lv_iadd hx hb dX8_declaration_51 ?_
        refine lv_topi (fun x455 e456 => ?_)
        obtain rfl : x455 = nI (at9 + 1) := e456.trans (nI_add (at9) (1))
        refine c_put (v := .int (nI (at9 + 1))) (ty := .int) (C := RX8) (Tc := TX8) (N := 5) (ci := 5) hx hb hq pin_wsX80 tyX8 tyX8_ok nmX8 hown hE hP hD hS hO 23 (sg_23 G h0 a _ _ _ _ _) rfl 2 (by decide) (hq _ pw_776) (fun _ h9 => h9) rfl (by decide +kernel) rfl rfl (Nat.le_of_ble_eq_true rfl) (sf_9 G h0 a _ _ _ _ _ (nI (at9 + 1))) dX8_declaration_52 (fun H locs w hP hD hS hO => ?_)
        refine lv_aload_n hx hb dX8_declaration_55 rfl (lv_at hl 1 rfl) ?_
        refine c_get (v := .ref pq) (C := RX8) (Tc := TX8) (N := 5) (ci := 5) hx hb hq pin_wsX80 hown hE hP hO 23 (sg_23 G h0 a _ _ _ _ _) rfl 1 (by decide) (hq _ pw_801) (fun _ h9 => h9) rfl dX8_declaration_56 ?_
        refine lv_aload_n hx hb dX8_declaration_59 rfl (lv_at hl 1 rfl) ?_
        refine lv_bipush (v := 65) hx hb dX8_declaration_60 (by decide) ?_
        have hO : OKW G h0 a (upd (upd (upd (upd (upd F 2 (nI sz)) 9 (nI at9)) 9 (nI (at9 + 1))) 2 (nI sz)) 9 (nI (at9 + 1))) (updR R 1 (.ref pq)) Z B J K.1 (fun q99 x99 => x99 = rep G a K q99) w := hO.to rfl
        obtain ⟨_, qr460, hqr461⟩ := hO.2.1 23 _ (sg_23 G h0 a _ _ _ _ _)
        refine pn_V0 (G := G) (As := [.int 65]) (rest := [.ref pq]) hx hb hml hown hq hE hX pX0_al hP hD hS hA hl.1 (P_take l G h0 a (upd (upd (upd F 2 (nI sz)) 9 (nI at9)) 9 (nI (at9 + 1))) (updR R 1 (.ref pq)) Z B J K.1 (fun q99 x99 => x99 = rep G a K q99) w 65 (at9 + 1) sz (by omega) (by omega) (by decide) hO hl0) (gV pw_793 pw_794 pw_795 pw_796 pw_781) hV_X8_take qr460 5 hqr461 rfl rfl rfl (Nat.le_of_ble_eq_true rfl) dX8_declaration_62 ⟨(by show 0 + 1 ≤ 6; omega), (by show 0 + 6 ≤ 31; omega)⟩ ⟨Nat.le_of_ble_eq_true rfl, Nat.le_of_ble_eq_true rfl⟩ (fun v459 u457 H locs hw458 hP hD hS => ?_) (fun ux ce9 q9 H9 locs9 hux hP9 hD9 hS9 hce hcv hcl => pb_out ux (ThQ.up (Thx.same (Thx.same (Thx.f Thx.rfl (by omega)) rfl) rfl) RhX.rfl hux) hnt hlocks hce hcv hcl hP9 hD9 hS9 (by show 0 + 1 ≤ 6; omega) (by show 0 + 6 ≤ 31; omega))
        obtain ⟨w, _⟩ := u457
        obtain ⟨hw458, h462, h463, hO⟩ := hw458
        have h462 : (at9 + 1) + 1 ≤ sz := h462
        have h463 : tkN ((B 7)) sz 67 (nI (at9 + 1)) = 65 := h463
        obtain rfl : v459 = some (.int (nI (at9 + 1))) := hw458
        have hO : OKP G h0 a (upd (upd F 2 (nI sz)) 9 (nI ((at9 + 1) + 1))) (updR R 1 (.ref pq)) Z B J K w := hO.to rfl
        refine W.widen (k := 0) (n := 0) (by show 0 + 0 ≤ 0; omega) (by show 0 + 0 ≤ 0; omega) ?_
        refine W.eq (g2 := F0 m 65 ls [.int (nI (at9 + 1)), .ref pq]) rfl ?_
        refine lv_iload_n hx hb dX8_declaration_65 rfl (lv_at hl 0 rfl) ?_
        have hO : OKP G h0 a (upd (upd (upd F 2 (nI sz)) 9 (nI ((at9 + 1) + 1))) 2 (nI sz)) (updR R 1 (.ref pq)) Z B J K w := hO.to rfl
        obtain ⟨qr467, hqr468⟩ := p_recv hO (by rw [hp1]; decide) (rep_7 hp1)
        refine pc_V0 (G := G) (As := [.int (nI (at9 + 1)), .int (nI r6)]) (rest := []) hx hb hml hown hq hE hX pX0_al hP hD hS hA hl.1 (G_addDecl l G h0 a (upd (upd F 2 (nI sz)) 9 (nI ((at9 + 1) + 1))) (updR R 1 (.ref pq)) Z B J K w pq dr ml nd nm cp it s9 (nI (at9 + 1)) r6 sz g (by omega) hwp hps hpz (by omega) (by omega) hO) (gV pw_812 pw_813 pw_814 pw_106 pw_788) hV_X9_addDecl qr467 6 hqr468 rfl rfl rfl (Nat.le_of_ble_eq_true rfl) dX8_declaration_66 ⟨(by show 0 + 5 ≤ 6; omega), (by show 0 + 25 ≤ 31; omega)⟩ ⟨Nat.le_of_ble_eq_true rfl, Nat.le_of_ble_eq_true rfl⟩ (fun v466 u464 H locs hw465 hP hD hS => ?_)
        obtain ⟨w, r469, K470, g471⟩ := u464
        obtain ⟨hw465, h472, h473, h474, h475, h476, h477, hO⟩ := hw465
        have h472 : WPr G K470 g471 := h472
        have h473 : PgS G K470 g471 (a 1) pq dr ml (nd + 1) nm cp it s9 := h473
        have h474 : K470.1 r469 = 4 := h474
        have h475 : g471 5 r469 = 0 := h475
        have h476 : PzK G K470 g471 nm it none := h476
        have h477 : VaT K K470 := h477
        obtain rfl : v466 = some (.ref r469) := hw465
        have hO : OKP G h0 a (upd (upd F 2 (nI sz)) 9 (nI ((at9 + 1) + 1))) (updR R 1 (.ref pq)) Z B J K470 w := hO.to rfl
        refine W.widen (k := 5) (n := 25) (by show 0 + 5 ≤ 5; omega) (by show 0 + 25 ≤ 25; omega) ?_
        refine W.eq (g2 := F0 m 69 ls [.ref r469]) rfl ?_
        have htk478 : NwT (B 7) sz (B 10) (B 10) K K470 at9 ((at9 + 1) + 1) := (NwT.call (NwT.le htk0 (show _ ≤ ((at9 + 1) + 1) by omega)) (h477 (B 7) (B 10) sz ((at9 + 1) + 1)) (Nat.le_refl _))
        refine lv_astore_n (lv' := [(2, .ref r469), (1, .int (nI r6)), (0, .ref (a 3))]) hx hb dX8_declaration_69 rfl hl (by decide) rfl (fun ls hl => ?_)
        refine lv_iload_n hx hb dX8_declaration_70 rfl (lv_at hl 1 rfl) ?_
        refine lv_if_ne (tgt := 93) hx hb dX8_declaration_71 (by decide) (fun c479 => ?_) (fun c479 => ?_)
        · have n480 : ¬ (r6 = 0) := fun h9 => c479 ((nI_eq (a := r6) (b := 0) (by omega) (by omega)).mpr h9)
          refine lv_aload_n hx hb dX8_declaration_93 rfl (lv_at hl 2 rfl) ?_
          refine lv_iload_n hx hb dX8_declaration_94 rfl (lv_at hl 1 rfl) ?_
          refine lv_if_eq (tgt := 103) hx hb dX8_declaration_95 (by decide) (fun c481 => ?_) (fun c481 => ?_)
          · have n482 : r6 = 0 := (nI_eq (a := r6) (b := 0) (by omega) (by omega)).mp c481
            refine lv_bipush (v := 12) hx hb dX8_declaration_103 (by decide) ?_
            have hO : OKW G h0 a (upd (upd (upd (upd F 2 (nI sz)) 9 (nI ((at9 + 1) + 1))) 2 (nI sz)) 9 (nI ((at9 + 1) + 1))) (updR R 1 (.ref pq)) Z B J K470.1 (fun q99 x99 => x99 = rep G a K470 q99) w := hO.to rfl
            obtain ⟨_, qr486, hqr487⟩ := hO.2.1 23 _ (sg_23 G h0 a _ _ _ _ _)
            refine pc_V0 (G := G) (As := [.int 12]) (rest := []) hx hb hml hown hq hE hX pX0_al hP hD hS hA hl.1 (P_takeIf l G h0 a (upd (upd F 2 (nI sz)) 9 (nI ((at9 + 1) + 1))) (updR R 1 (.ref pq)) Z B J K470.1 (fun q99 x99 => x99 = rep G a K470 q99) w 12 ((at9 + 1) + 1) sz (by omega) (by omega) (by decide) hO) (gV pw_797 pw_798 pw_799 pw_796 pw_789) hV_X8_takeIf qr486 5 hqr487 rfl rfl rfl (Nat.le_of_ble_eq_true rfl) dX8_declaration_105 ⟨(by show 5 + 0 ≤ 6; omega), (by show 25 + 0 ≤ 31; omega)⟩ ⟨Nat.le_of_ble_eq_true rfl, Nat.le_of_ble_eq_true rfl⟩ (fun v485 u483 H locs hw484 hP hD hS => ?_)
            obtain ⟨w, r488⟩ := u483
            obtain ⟨hw484, h489, h490, h491, hO⟩ := hw484
            have h489 : r488 ≤ 1 := h489
            have h490 : ((at9 + 1) + 1) + r488 ≤ sz := h490
            have h491 : SeQ ((B 7)) sz ((at9 + 1) + 1) 12 r488 := h491
            obtain rfl : v485 = some (.int (nI r488)) := hw484
            have hO : OKP G h0 a (upd (upd F 2 (nI sz)) 9 (nI (((at9 + 1) + 1) + r488))) (updR R 1 (.ref pq)) Z B J K470 w := hO.to rfl
            refine W.widen (k := 5) (n := 25) (by show 5 + 0 ≤ 5; omega) (by show 25 + 0 ≤ 25; omega) ?_
            refine W.eq (g2 := F0 m 108 ls [.int (nI r488)]) rfl ?_
            refine lv_if_eq (tgt := 116) hx hb dX8_declaration_108 (by decide) (fun c492 => ?_) (fun c492 => ?_)
            · have n493 : r488 = 0 := (nI_eq (a := r488) (b := 0) (by omega) (by omega)).mp c492
              refine lv_aload_n hx hb dX8_declaration_116 rfl (lv_at hl 2 rfl) ?_
              refine lv_bipush (v := 32) hx hb dX8_declaration_117 (by decide) ?_
              have hO : OKW G h0 a (upd (upd (upd (upd (upd F 2 (nI sz)) 9 (nI at9)) 9 (nI (((at9 + 1) + 1) + r488))) 2 (nI sz)) 9 (nI (((at9 + 1) + 1) + r488))) (updR R 1 (.ref pq)) Z B J K470.1 (fun q99 x99 => x99 = rep G a K470 q99) w := hO.to rfl
              obtain ⟨_, qr497, hqr498⟩ := hO.2.1 23 _ (sg_23 G h0 a _ _ _ _ _)
              refine pn_V0 (G := G) (As := [.int 32]) (rest := []) hx hb hml hown hq hE hX pX0_al hP hD hS hA hl.1 (P_take l G h0 a (upd (upd (upd F 2 (nI sz)) 9 (nI at9)) 9 (nI (((at9 + 1) + 1) + r488))) (updR R 1 (.ref pq)) Z B J K470.1 (fun q99 x99 => x99 = rep G a K470 q99) w 32 (((at9 + 1) + 1) + r488) sz (by omega) (by omega) (by decide) hO hl0) (gV pw_793 pw_794 pw_795 pw_796 pw_781) hV_X8_take qr497 5 hqr498 rfl rfl rfl (Nat.le_of_ble_eq_true rfl) dX8_declaration_119 ⟨(by show 5 + 1 ≤ 6; omega), (by show 25 + 6 ≤ 31; omega)⟩ ⟨Nat.le_of_ble_eq_true rfl, Nat.le_of_ble_eq_true rfl⟩ (fun v496 u494 H locs hw495 hP hD hS => ?_) (fun ux ce9 q9 H9 locs9 hux hP9 hD9 hS9 hce hcv hcl => pb_out ux (ThQ.up (Thx.same (Thx.same (Thx.f Thx.rfl (by omega)) rfl) rfl) RhX.rfl hux) hnt hlocks hce hcv hcl hP9 hD9 hS9 (by show 5 + 1 ≤ 6; omega) (by show 25 + 6 ≤ 31; omega))
              obtain ⟨w, _⟩ := u494
              obtain ⟨hw495, h499, h500, hO⟩ := hw495
              have h499 : (((at9 + 1) + 1) + r488) + 1 ≤ sz := h499
              have h500 : tkN ((B 7)) sz 67 (nI (((at9 + 1) + 1) + r488)) = 32 := h500
              obtain rfl : v496 = some (.int (nI (((at9 + 1) + 1) + r488))) := hw495
              have hO : OKP G h0 a (upd (upd F 2 (nI sz)) 9 (nI ((((at9 + 1) + 1) + r488) + 1))) (updR R 1 (.ref pq)) Z B J K470 w := hO.to rfl
              refine W.widen (k := 5) (n := 25) (by show 5 + 0 ≤ 5; omega) (by show 25 + 0 ≤ 25; omega) ?_
              refine W.eq (g2 := F0 m 122 ls [.int (nI (((at9 + 1) + 1) + r488))]) rfl ?_
              refine lv_pop hx hb dX8_declaration_122 rfl ?_
              refine lv_aload_n hx hb dX8_declaration_123 rfl (lv_at hl 0 rfl) ?_
              refine W_size (fun hz1 hz2 => ?_)
              refine vx_ret ?_
              have hz501 : WPr G K470 g471 := h472
              have hz502 : PgS G K470 g471 (a 1) pq dr ml (nd + 1) nm cp it s9 := h473
              have hz503 : K470.1 r469 = 4 := h474
              have hz504 : at9 + 3 ≤ ((((at9 + 1) + 1) + r488) + 1) ∧ ((((at9 + 1) + 1) + r488) + 1) ≤ sz := (by omega)
              have hz505 : PzK G K470 g471 nm it none := h476
              have hz506 : g471 5 r469 = 0 := h475
              have hz507 : NwT (B 7) sz (B 10) (B 10) K K470 at9 ((((at9 + 1) + 1) + r488) + 1) := (NwT.le htk478 (by omega))
              have hO : OKP G h0 a (upd (upd F 2 (nI sz)) 9 (nI ((((at9 + 1) + 1) + r488) + 1))) (updR R 1 (.ref pq)) Z B J K470 w := hO.to rfl
              refine W.widen (k := 6) (n := 31) (by omega) (by omega) ?_
              have hzz1 : H.size ≤ s.heap.size + (5) := (by have z : 5 ≤ 5 := (by omega); omega)
              have hzz2 : hSl H ≤ hSl s.heap + (25) := (by have z : 25 ≤ 25 := (by omega); omega)
              exact W.aret (v := .ref r469) hx hb hr (Or.inl ⟨_, rfl⟩) (Or.inr ⟨_, rfl⟩) (fun t99 ht99 hW99 => ⟨⟨_, (w, (K470, g471, r469, ((((at9 + 1) + 1) + r488) + 1), (nd + 1))), rfl, ⟨rfl, hz501, hz502, hz503, hz504, hz505, hz506, hz507, hO⟩, by rw [ht99]; exact hP, hD, by rw [ht99]; exact hzz1, by rw [ht99]; exact hzz2⟩, hS.F ht99⟩) hS.2.2 dX8_declaration_124
            · have n508 : ¬ (r488 = 0) := fun h9 => c492 ((nI_eq (a := r488) (b := 0) (by omega) (by omega)).mpr h9)
              refine lv_aload_n hx hb dX8_declaration_111 rfl (lv_at hl 2 rfl) ?_
              refine lv_aload_n hx hb dX8_declaration_112 rfl (lv_at hl 0 rfl) ?_
              have hO : OKP G h0 a (upd (upd (upd (upd (upd F 2 (nI sz)) 9 (nI at9)) 9 (nI (((at9 + 1) + 1) + r488))) 2 (nI sz)) 9 (nI (((at9 + 1) + 1) + r488))) (updR (updR R 1 (.ref pq)) 1 (.ref pq)) Z B J K470 w := hO.to rfl
              obtain ⟨_, qr512, hqr513⟩ := hO.2.1 23 _ (sg_23 G h0 a _ _ _ _ _)
              refine pn_V0 (G := G) (As := [.ref r469]) (rest := []) hx hb hml hown hq hE hX pX0_al hP hD hS hA hl.1 (P_listI l G h0 a (upd (upd (upd F 2 (nI sz)) 9 (nI at9)) 9 (nI (((at9 + 1) + 1) + r488))) (updR R 1 (.ref pq)) Z B J K470 w pq dr ml (nd + 1) nm cp it s9 r469 (((at9 + 1) + 1) + r488) sz g471 (by omega) (by omega) h472 h473 h476 h474 h475 hO hl0) (gV pw_815 pw_816 pw_817 pw_796 pw_800) hV_X8_listInterfaces qr512 5 hqr513 rfl rfl rfl (Nat.le_of_ble_eq_true rfl) dX8_declaration_113 ⟨(by show 5 + 1 ≤ 6; omega), (by show 25 + 6 ≤ 31; omega)⟩ ⟨Nat.le_of_ble_eq_true rfl, Nat.le_of_ble_eq_true rfl⟩ (fun v511 u509 H locs hw510 hP hD hS => ?_) (fun ux ce9 q9 H9 locs9 hux hP9 hD9 hS9 hce hcv hcl => pb_out ux (ThQ.up (Thx.same (Thx.same (Thx.f Thx.rfl (by omega)) rfl) rfl) (show RhX (updR R 1 (.ref pq)) (updR (updR R 1 (.ref pq)) 1 (.ref pq)) from fun k9 hk9 => by unfold updR; simp only [show ¬ k9 = 1 by omega, show ¬ k9 = 2 by omega, show ¬ k9 = 3 by omega, show ¬ k9 = 4 by omega, if_false]) hux) hnt hlocks hce hcv hcl hP9 hD9 hS9 (by show 5 + 1 ≤ 6; omega) (by show 25 + 6 ≤ 31; omega))
              obtain ⟨w, K514, g515, at516⟩ := u509
              obtain ⟨hw510, h517, h518, h519, h520, h521, h522, h523, h524, hO⟩ := hw510
              have h517 : WPr G K514 g515 := h517
              have h518 : PgS G K514 g515 (a 1) pq dr ml (nd + 1) nm cp it s9 := h518
              have h519 : K514.1 r469 = 4 := h519
              have h520 : (((at9 + 1) + 1) + r488) + 1 ≤ at516 ∧ at516 ≤ sz := h520
              have h521 : PzK G K514 g515 nm it none := h521
              have h522 : K514.2.1 18 r469 = K470.2.1 18 r469 := h522
              have h523 : g515 5 r469 = g471 5 r469 := h523
              have h524 : VaT K470 K514 := h524
              obtain rfl : v511 = none := hw510
              have hO : OKP G h0 a (upd (upd F 2 (nI sz)) 9 (nI at516)) (updR R 1 (.ref pq)) Z B J K514 w := hO.to rfl
              refine W.widen (k := 5) (n := 25) (by show 5 + 0 ≤ 5; omega) (by show 25 + 0 ≤ 25; omega) ?_
              refine W.eq (g2 := F0 m 116 ls []) rfl ?_
              have htk525 : NwT (B 7) sz (B 10) (B 10) K K514 at9 (((at9 + 1) + 1) + r488) := (NwT.call (NwT.le htk478 (show _ ≤ (((at9 + 1) + 1) + r488) by omega)) (h524 (B 7) (B 10) sz (((at9 + 1) + 1) + r488)) (Nat.le_refl _))
              refine lv_aload_n hx hb dX8_declaration_116 rfl (lv_at hl 2 rfl) ?_
              refine lv_bipush (v := 32) hx hb dX8_declaration_117 (by decide) ?_
              have hO : OKW G h0 a (upd (upd (upd (upd (upd F 2 (nI sz)) 9 (nI at9)) 9 (nI at516)) 2 (nI sz)) 9 (nI at516)) (updR R 1 (.ref pq)) Z B J K514.1 (fun q99 x99 => x99 = rep G a K514 q99) w := hO.to rfl
              obtain ⟨_, qr529, hqr530⟩ := hO.2.1 23 _ (sg_23 G h0 a _ _ _ _ _)
              refine pn_V0 (G := G) (As := [.int 32]) (rest := []) hx hb hml hown hq hE hX pX0_al hP hD hS hA hl.1 (P_take l G h0 a (upd (upd (upd F 2 (nI sz)) 9 (nI at9)) 9 (nI at516)) (updR R 1 (.ref pq)) Z B J K514.1 (fun q99 x99 => x99 = rep G a K514 q99) w 32 at516 sz (by omega) (by omega) (by decide) hO hl0) (gV pw_793 pw_794 pw_795 pw_796 pw_781) hV_X8_take qr529 5 hqr530 rfl rfl rfl (Nat.le_of_ble_eq_true rfl) dX8_declaration_119 ⟨(by show 5 + 1 ≤ 6; omega), (by show 25 + 6 ≤ 31; omega)⟩ ⟨Nat.le_of_ble_eq_true rfl, Nat.le_of_ble_eq_true rfl⟩ (fun v528 u526 H locs hw527 hP hD hS => ?_) (fun ux ce9 q9 H9 locs9 hux hP9 hD9 hS9 hce hcv hcl => pb_out ux (ThQ.up (Thx.same (Thx.same (Thx.f Thx.rfl (by omega)) rfl) rfl) RhX.rfl hux) hnt hlocks hce hcv hcl hP9 hD9 hS9 (by show 5 + 1 ≤ 6; omega) (by show 25 + 6 ≤ 31; omega))
              obtain ⟨w, _⟩ := u526
              obtain ⟨hw527, h531, h532, hO⟩ := hw527
              have h531 : at516 + 1 ≤ sz := h531
              have h532 : tkN ((B 7)) sz 67 (nI at516) = 32 := h532
              obtain rfl : v528 = some (.int (nI at516)) := hw527
              have hO : OKP G h0 a (upd (upd F 2 (nI sz)) 9 (nI (at516 + 1))) (updR R 1 (.ref pq)) Z B J K514 w := hO.to rfl
              refine W.widen (k := 5) (n := 25) (by show 5 + 0 ≤ 5; omega) (by show 25 + 0 ≤ 25; omega) ?_
              refine W.eq (g2 := F0 m 122 ls [.int (nI at516)]) rfl ?_
              refine lv_pop hx hb dX8_declaration_122 rfl ?_
              refine lv_aload_n hx hb dX8_declaration_123 rfl (lv_at hl 0 rfl) ?_
              refine W_size (fun hz1 hz2 => ?_)
              refine vx_ret ?_
              have hz533 : WPr G K514 g515 := h517
              have hz534 : PgS G K514 g515 (a 1) pq dr ml (nd + 1) nm cp it s9 := h518
              have hz535 : K514.1 r469 = 4 := h519
              have hz536 : at9 + 3 ≤ (at516 + 1) ∧ (at516 + 1) ≤ sz := (by omega)
              have hz537 : PzK G K514 g515 nm it none := h521
              have hz538 : g515 5 r469 = 0 := (h523.trans h475)
              have hz539 : NwT (B 7) sz (B 10) (B 10) K K514 at9 (at516 + 1) := (NwT.le htk525 (by omega))
              have hO : OKP G h0 a (upd (upd F 2 (nI sz)) 9 (nI (at516 + 1))) (updR R 1 (.ref pq)) Z B J K514 w := hO.to rfl
              refine W.widen (k := 6) (n := 31) (by omega) (by omega) ?_
              have hzz1 : H.size ≤ s.heap.size + (5) := (by have z : 5 ≤ 5 := (by omega); omega)
              have hzz2 : hSl H ≤ hSl s.heap + (25) := (by have z : 25 ≤ 25 := (by omega); omega)
              exact W.aret (v := .ref r469) hx hb hr (Or.inl ⟨_, rfl⟩) (Or.inr ⟨_, rfl⟩) (fun t99 ht99 hW99 => ⟨⟨_, (w, (K514, g515, r469, (at516 + 1), (nd + 1))), rfl, ⟨rfl, hz533, hz534, hz535, hz536, hz537, hz538, hz539, hO⟩, by rw [ht99]; exact hP, hD, by rw [ht99]; exact hzz1, by rw [ht99]; exact hzz2⟩, hS.F ht99⟩) hS.2.2 dX8_declaration_124
          · have n540 : ¬ (r6 = 0) := fun h9 => c481 ((nI_eq (a := r6) (b := 0) (by omega) (by omega)).mpr h9)
            refine lv_bipush (v := 7) hx hb dX8_declaration_98 (by decide) ?_
            refine lv_goto (tgt := 105) hx hb dX8_declaration_100 (by decide) ?_
            have hO : OKW G h0 a (upd (upd (upd (upd F 2 (nI sz)) 9 (nI ((at9 + 1) + 1))) 2 (nI sz)) 9 (nI ((at9 + 1) + 1))) (updR R 1 (.ref pq)) Z B J K470.1 (fun q99 x99 => x99 = rep G a K470 q99) w := hO.to rfl
            obtain ⟨_, qr544, hqr545⟩ := hO.2.1 23 _ (sg_23 G h0 a _ _ _ _ _)
            refine pc_V0 (G := G) (As := [.int 7]) (rest := []) hx hb hml hown hq hE hX pX0_al hP hD hS hA hl.1 (P_takeIf l G h0 a (upd (upd F 2 (nI sz)) 9 (nI ((at9 + 1) + 1))) (updR R 1 (.ref pq)) Z B J K470.1 (fun q99 x99 => x99 = rep G a K470 q99) w 7 ((at9 + 1) + 1) sz (by omega) (by omega) (by decide) hO) (gV pw_797 pw_798 pw_799 pw_796 pw_789) hV_X8_takeIf qr544 5 hqr545 rfl rfl rfl (Nat.le_of_ble_eq_true rfl) dX8_declaration_105 ⟨(by show 5 + 0 ≤ 6; omega), (by show 25 + 0 ≤ 31; omega)⟩ ⟨Nat.le_of_ble_eq_true rfl, Nat.le_of_ble_eq_true rfl⟩ (fun v543 u541 H locs hw542 hP hD hS => ?_)
            obtain ⟨w, r546⟩ := u541
            obtain ⟨hw542, h547, h548, h549, hO⟩ := hw542
            have h547 : r546 ≤ 1 := h547
            have h548 : ((at9 + 1) + 1) + r546 ≤ sz := h548
            have h549 : SeQ ((B 7)) sz ((at9 + 1) + 1) 7 r546 := h549
            obtain rfl : v543 = some (.int (nI r546)) := hw542
            have hO : OKP G h0 a (upd (upd F 2 (nI sz)) 9 (nI (((at9 + 1) + 1) + r546))) (updR R 1 (.ref pq)) Z B J K470 w := hO.to rfl
            refine W.widen (k := 5) (n := 25) (by show 5 + 0 ≤ 5; omega) (by show 25 + 0 ≤ 25; omega) ?_
            refine W.eq (g2 := F0 m 108 ls [.int (nI r546)]) rfl ?_
            refine lv_if_eq (tgt := 116) hx hb dX8_declaration_108 (by decide) (fun c550 => ?_) (fun c550 => ?_)
            · have n551 : r546 = 0 := (nI_eq (a := r546) (b := 0) (by omega) (by omega)).mp c550
              refine lv_aload_n hx hb dX8_declaration_116 rfl (lv_at hl 2 rfl) ?_
              refine lv_bipush (v := 32) hx hb dX8_declaration_117 (by decide) ?_
              have hO : OKW G h0 a (upd (upd (upd (upd (upd F 2 (nI sz)) 9 (nI at9)) 9 (nI (((at9 + 1) + 1) + r546))) 2 (nI sz)) 9 (nI (((at9 + 1) + 1) + r546))) (updR R 1 (.ref pq)) Z B J K470.1 (fun q99 x99 => x99 = rep G a K470 q99) w := hO.to rfl
              obtain ⟨_, qr555, hqr556⟩ := hO.2.1 23 _ (sg_23 G h0 a _ _ _ _ _)
              refine pn_V0 (G := G) (As := [.int 32]) (rest := []) hx hb hml hown hq hE hX pX0_al hP hD hS hA hl.1 (P_take l G h0 a (upd (upd (upd F 2 (nI sz)) 9 (nI at9)) 9 (nI (((at9 + 1) + 1) + r546))) (updR R 1 (.ref pq)) Z B J K470.1 (fun q99 x99 => x99 = rep G a K470 q99) w 32 (((at9 + 1) + 1) + r546) sz (by omega) (by omega) (by decide) hO hl0) (gV pw_793 pw_794 pw_795 pw_796 pw_781) hV_X8_take qr555 5 hqr556 rfl rfl rfl (Nat.le_of_ble_eq_true rfl) dX8_declaration_119 ⟨(by show 5 + 1 ≤ 6; omega), (by show 25 + 6 ≤ 31; omega)⟩ ⟨Nat.le_of_ble_eq_true rfl, Nat.le_of_ble_eq_true rfl⟩ (fun v554 u552 H locs hw553 hP hD hS => ?_) (fun ux ce9 q9 H9 locs9 hux hP9 hD9 hS9 hce hcv hcl => pb_out ux (ThQ.up (Thx.same (Thx.same (Thx.f Thx.rfl (by omega)) rfl) rfl) RhX.rfl hux) hnt hlocks hce hcv hcl hP9 hD9 hS9 (by show 5 + 1 ≤ 6; omega) (by show 25 + 6 ≤ 31; omega))
              obtain ⟨w, _⟩ := u552
              obtain ⟨hw553, h557, h558, hO⟩ := hw553
              have h557 : (((at9 + 1) + 1) + r546) + 1 ≤ sz := h557
              have h558 : tkN ((B 7)) sz 67 (nI (((at9 + 1) + 1) + r546)) = 32 := h558
              obtain rfl : v554 = some (.int (nI (((at9 + 1) + 1) + r546))) := hw553
              have hO : OKP G h0 a (upd (upd F 2 (nI sz)) 9 (nI ((((at9 + 1) + 1) + r546) + 1))) (updR R 1 (.ref pq)) Z B J K470 w := hO.to rfl
              refine W.widen (k := 5) (n := 25) (by show 5 + 0 ≤ 5; omega) (by show 25 + 0 ≤ 25; omega) ?_
              refine W.eq (g2 := F0 m 122 ls [.int (nI (((at9 + 1) + 1) + r546))]) rfl ?_
              refine lv_pop hx hb dX8_declaration_122 rfl ?_
              refine lv_aload_n hx hb dX8_declaration_123 rfl (lv_at hl 0 rfl) ?_
              refine W_size (fun hz1 hz2 => ?_)
              refine vx_ret ?_
              have hz559 : WPr G K470 g471 := h472
              have hz560 : PgS G K470 g471 (a 1) pq dr ml (nd + 1) nm cp it s9 := h473
              have hz561 : K470.1 r469 = 4 := h474
              have hz562 : at9 + 3 ≤ ((((at9 + 1) + 1) + r546) + 1) ∧ ((((at9 + 1) + 1) + r546) + 1) ≤ sz := (by omega)
              have hz563 : PzK G K470 g471 nm it none := h476
              have hz564 : g471 5 r469 = 0 := h475
              have hz565 : NwT (B 7) sz (B 10) (B 10) K K470 at9 ((((at9 + 1) + 1) + r546) + 1) := (NwT.le htk478 (by omega))
              have hO : OKP G h0 a (upd (upd F 2 (nI sz)) 9 (nI ((((at9 + 1) + 1) + r546) + 1))) (updR R 1 (.ref pq)) Z B J K470 w := hO.to rfl
              refine W.widen (k := 6) (n := 31) (by omega) (by omega) ?_
              have hzz1 : H.size ≤ s.heap.size + (5) := (by have z : 5 ≤ 5 := (by omega); omega)
              have hzz2 : hSl H ≤ hSl s.heap + (25) := (by have z : 25 ≤ 25 := (by omega); omega)
              exact W.aret (v := .ref r469) hx hb hr (Or.inl ⟨_, rfl⟩) (Or.inr ⟨_, rfl⟩) (fun t99 ht99 hW99 => ⟨⟨_, (w, (K470, g471, r469, ((((at9 + 1) + 1) + r546) + 1), (nd + 1))), rfl, ⟨rfl, hz559, hz560, hz561, hz562, hz563, hz564, hz565, hO⟩, by rw [ht99]; exact hP, hD, by rw [ht99]; exact hzz1, by rw [ht99]; exact hzz2⟩, hS.F ht99⟩) hS.2.2 dX8_declaration_124
            · have n566 : ¬ (r546 = 0) := fun h9 => c550 ((nI_eq (a := r546) (b := 0) (by omega) (by omega)).mpr h9)
              refine lv_aload_n hx hb dX8_declaration_111 rfl (lv_at hl 2 rfl) ?_
              refine lv_aload_n hx hb dX8_declaration_112 rfl (lv_at hl 0 rfl) ?_
              have hO : OKP G h0 a (upd (upd (upd (upd (upd F 2 (nI sz)) 9 (nI at9)) 9 (nI (((at9 + 1) + 1) + r546))) 2 (nI sz)) 9 (nI (((at9 + 1) + 1) + r546))) (updR (updR R 1 (.ref pq)) 1 (.ref pq)) Z B J K470 w := hO.to rfl
              obtain ⟨_, qr570, hqr571⟩ := hO.2.1 23 _ (sg_23 G h0 a _ _ _ _ _)
              refine pn_V0 (G := G) (As := [.ref r469]) (rest := []) hx hb hml hown hq hE hX pX0_al hP hD hS hA hl.1 (P_listI l G h0 a (upd (upd (upd F 2 (nI sz)) 9 (nI at9)) 9 (nI (((at9 + 1) + 1) + r546))) (updR R 1 (.ref pq)) Z B J K470 w pq dr ml (nd + 1) nm cp it s9 r469 (((at9 + 1) + 1) + r546) sz g471 (by omega) (by omega) h472 h473 h476 h474 h475 hO hl0) (gV pw_815 pw_816 pw_817 pw_796 pw_800) hV_X8_listInterfaces qr570 5 hqr571 rfl rfl rfl (Nat.le_of_ble_eq_true rfl) dX8_declaration_113 ⟨(by show 5 + 1 ≤ 6; omega), (by show 25 + 6 ≤ 31; omega)⟩ ⟨Nat.le_of_ble_eq_true rfl, Nat.le_of_ble_eq_true rfl⟩ (fun v569 u567 H locs hw568 hP hD hS => ?_) (fun ux ce9 q9 H9 locs9 hux hP9 hD9 hS9 hce hcv hcl => pb_out ux (ThQ.up (Thx.same (Thx.same (Thx.f Thx.rfl (by omega)) rfl) rfl) (show RhX (updR R 1 (.ref pq)) (updR (updR R 1 (.ref pq)) 1 (.ref pq)) from fun k9 hk9 => by unfold updR; simp only [show ¬ k9 = 1 by omega, show ¬ k9 = 2 by omega, show ¬ k9 = 3 by omega, show ¬ k9 = 4 by omega, if_false]) hux) hnt hlocks hce hcv hcl hP9 hD9 hS9 (by show 5 + 1 ≤ 6; omega) (by show 25 + 6 ≤ 31; omega))
              obtain ⟨w, K572, g573, at574⟩ := u567
              obtain ⟨hw568, h575, h576, h577, h578, h579, h580, h581, h582, hO⟩ := hw568
              have h575 : WPr G K572 g573 := h575
              have h576 : PgS G K572 g573 (a 1) pq dr ml (nd + 1) nm cp it s9 := h576
              have h577 : K572.1 r469 = 4 := h577
              have h578 : (((at9 + 1) + 1) + r546) + 1 ≤ at574 ∧ at574 ≤ sz := h578
              have h579 : PzK G K572 g573 nm it none := h579
              have h580 : K572.2.1 18 r469 = K470.2.1 18 r469 := h580
              have h581 : g573 5 r469 = g471 5 r469 := h581
              have h582 : VaT K470 K572 := h582
              obtain rfl : v569 = none := hw568
              have hO : OKP G h0 a (upd (upd F 2 (nI sz)) 9 (nI at574)) (updR R 1 (.ref pq)) Z B J K572 w := hO.to rfl
              refine W.widen (k := 5) (n := 25) (by show 5 + 0 ≤ 5; omega) (by show 25 + 0 ≤ 25; omega) ?_
              refine W.eq (g2 := F0 m 116 ls []) rfl ?_
              have htk583 : NwT (B 7) sz (B 10) (B 10) K K572 at9 (((at9 + 1) + 1) + r546) := (NwT.call (NwT.le htk478 (show _ ≤ (((at9 + 1) + 1) + r546) by omega)) (h582 (B 7) (B 10) sz (((at9 + 1) + 1) + r546)) (Nat.le_refl _))
              refine lv_aload_n hx hb dX8_declaration_116 rfl (lv_at hl 2 rfl) ?_
              refine lv_bipush (v := 32) hx hb dX8_declaration_117 (by decide) ?_
              have hO : OKW G h0 a (upd (upd (upd (upd (upd F 2 (nI sz)) 9 (nI at9)) 9 (nI at574)) 2 (nI sz)) 9 (nI at574)) (updR R 1 (.ref pq)) Z B J K572.1 (fun q99 x99 => x99 = rep G a K572 q99) w := hO.to rfl
              obtain ⟨_, qr587, hqr588⟩ := hO.2.1 23 _ (sg_23 G h0 a _ _ _ _ _)
              refine pn_V0 (G := G) (As := [.int 32]) (rest := []) hx hb hml hown hq hE hX pX0_al hP hD hS hA hl.1 (P_take l G h0 a (upd (upd (upd F 2 (nI sz)) 9 (nI at9)) 9 (nI at574)) (updR R 1 (.ref pq)) Z B J K572.1 (fun q99 x99 => x99 = rep G a K572 q99) w 32 at574 sz (by omega) (by omega) (by decide) hO hl0) (gV pw_793 pw_794 pw_795 pw_796 pw_781) hV_X8_take qr587 5 hqr588 rfl rfl rfl (Nat.le_of_ble_eq_true rfl) dX8_declaration_119 ⟨(by show 5 + 1 ≤ 6; omega), (by show 25 + 6 ≤ 31; omega)⟩ ⟨Nat.le_of_ble_eq_true rfl, Nat.le_of_ble_eq_true rfl⟩ (fun v586 u584 H locs hw585 hP hD hS => ?_) (fun ux ce9 q9 H9 locs9 hux hP9 hD9 hS9 hce hcv hcl => pb_out ux (ThQ.up (Thx.same (Thx.same (Thx.f Thx.rfl (by omega)) rfl) rfl) RhX.rfl hux) hnt hlocks hce hcv hcl hP9 hD9 hS9 (by show 5 + 1 ≤ 6; omega) (by show 25 + 6 ≤ 31; omega))
              obtain ⟨w, _⟩ := u584
              obtain ⟨hw585, h589, h590, hO⟩ := hw585
              have h589 : at574 + 1 ≤ sz := h589
              have h590 : tkN ((B 7)) sz 67 (nI at574) = 32 := h590
              obtain rfl : v586 = some (.int (nI at574)) := hw585
              have hO : OKP G h0 a (upd (upd F 2 (nI sz)) 9 (nI (at574 + 1))) (updR R 1 (.ref pq)) Z B J K572 w := hO.to rfl
              refine W.widen (k := 5) (n := 25) (by show 5 + 0 ≤ 5; omega) (by show 25 + 0 ≤ 25; omega) ?_
              refine W.eq (g2 := F0 m 122 ls [.int (nI at574)]) rfl ?_
              refine lv_pop hx hb dX8_declaration_122 rfl ?_
              refine lv_aload_n hx hb dX8_declaration_123 rfl (lv_at hl 0 rfl) ?_
              refine W_size (fun hz1 hz2 => ?_)
              refine vx_ret ?_
              have hz591 : WPr G K572 g573 := h575
              have hz592 : PgS G K572 g573 (a 1) pq dr ml (nd + 1) nm cp it s9 := h576
              have hz593 : K572.1 r469 = 4 := h577
              have hz594 : at9 + 3 ≤ (at574 + 1) ∧ (at574 + 1) ≤ sz := (by omega)
              have hz595 : PzK G K572 g573 nm it none := h579
              have hz596 : g573 5 r469 = 0 := (h581.trans h475)
              have hz597 : NwT (B 7) sz (B 10) (B 10) K K572 at9 (at574 + 1) := (NwT.le htk583 (by omega))
              have hO : OKP G h0 a (upd (upd F 2 (nI sz)) 9 (nI (at574 + 1))) (updR R 1 (.ref pq)) Z B J K572 w := hO.to rfl
              refine W.widen (k := 6) (n := 31) (by omega) (by omega) ?_
              have hzz1 : H.size ≤ s.heap.size + (5) := (by have z : 5 ≤ 5 := (by omega); omega)
              have hzz2 : hSl H ≤ hSl s.heap + (25) := (by have z : 25 ≤ 25 := (by omega); omega)
              exact W.aret (v := .ref r469) hx hb hr (Or.inl ⟨_, rfl⟩) (Or.inr ⟨_, rfl⟩) (fun t99 ht99 hW99 => ⟨⟨_, (w, (K572, g573, r469, (at574 + 1), (nd + 1))), rfl, ⟨rfl, hz591, hz592, hz593, hz594, hz595, hz596, hz597, hO⟩, by rw [ht99]; exact hP, hD, by rw [ht99]; exact hzz1, by rw [ht99]; exact hzz2⟩, hS.F ht99⟩) hS.2.2 dX8_declaration_124
        · have n598 : r6 = 0 := (nI_eq (a := r6) (b := 0) (by omega) (by omega)).mp c479
          refine lv_aload_n hx hb dX8_declaration_74 rfl (lv_at hl 2 rfl) ?_
          refine lv_bipush (v := 7) hx hb dX8_declaration_75 (by decide) ?_
          have hO : OKW G h0 a (upd (upd (upd (upd F 2 (nI sz)) 9 (nI ((at9 + 1) + 1))) 2 (nI sz)) 9 (nI ((at9 + 1) + 1))) (updR R 1 (.ref pq)) Z B J K470.1 (fun q99 x99 => x99 = rep G a K470 q99) w := hO.to rfl
          obtain ⟨_, qr602, hqr603⟩ := hO.2.1 23 _ (sg_23 G h0 a _ _ _ _ _)
          refine pc_V0 (G := G) (As := [.int 7]) (rest := []) hx hb hml hown hq hE hX pX0_al hP hD hS hA hl.1 (P_takeIf l G h0 a (upd (upd F 2 (nI sz)) 9 (nI ((at9 + 1) + 1))) (updR R 1 (.ref pq)) Z B J K470.1 (fun q99 x99 => x99 = rep G a K470 q99) w 7 ((at9 + 1) + 1) sz (by omega) (by omega) (by decide) hO) (gV pw_797 pw_798 pw_799 pw_796 pw_789) hV_X8_takeIf qr602 5 hqr603 rfl rfl rfl (Nat.le_of_ble_eq_true rfl) dX8_declaration_77 ⟨(by show 5 + 0 ≤ 6; omega), (by show 25 + 0 ≤ 31; omega)⟩ ⟨Nat.le_of_ble_eq_true rfl, Nat.le_of_ble_eq_true rfl⟩ (fun v601 u599 H locs hw600 hP hD hS => ?_)
          obtain ⟨w, r604⟩ := u599
          obtain ⟨hw600, h605, h606, h607, hO⟩ := hw600
          have h605 : r604 ≤ 1 := h605
          have h606 : ((at9 + 1) + 1) + r604 ≤ sz := h606
          have h607 : SeQ ((B 7)) sz ((at9 + 1) + 1) 7 r604 := h607
          obtain rfl : v601 = some (.int (nI r604)) := hw600
          have hO : OKP G h0 a (upd (upd F 2 (nI sz)) 9 (nI (((at9 + 1) + 1) + r604))) (updR R 1 (.ref pq)) Z B J K470 w := hO.to rfl
          refine W.widen (k := 5) (n := 25) (by show 5 + 0 ≤ 5; omega) (by show 25 + 0 ≤ 25; omega) ?_
          refine W.eq (g2 := F0 m 80 ls [.int (nI r604)]) rfl ?_
          refine lv_if_eq (tgt := 93) hx hb dX8_declaration_80 (by decide) (fun c608 => ?_) (fun c608 => ?_)
          · have n609 : r604 = 0 := (nI_eq (a := r604) (b := 0) (by omega) (by omega)).mp c608
            refine lv_aload_n hx hb dX8_declaration_93 rfl (lv_at hl 2 rfl) ?_
            refine lv_iload_n hx hb dX8_declaration_94 rfl (lv_at hl 1 rfl) ?_
            refine lv_if_eq (tgt := 103) hx hb dX8_declaration_95 (by decide) (fun c610 => ?_) (fun c610 => ?_)
            · have n611 : r6 = 0 := (nI_eq (a := r6) (b := 0) (by omega) (by omega)).mp c610
              refine lv_bipush (v := 12) hx hb dX8_declaration_103 (by decide) ?_
              have hO : OKW G h0 a (upd (upd (upd (upd F 2 (nI sz)) 9 (nI (((at9 + 1) + 1) + r604))) 2 (nI sz)) 9 (nI (((at9 + 1) + 1) + r604))) (updR R 1 (.ref pq)) Z B J K470.1 (fun q99 x99 => x99 = rep G a K470 q99) w := hO.to rfl
              obtain ⟨_, qr615, hqr616⟩ := hO.2.1 23 _ (sg_23 G h0 a _ _ _ _ _)
              refine pc_V0 (G := G) (As := [.int 12]) (rest := []) hx hb hml hown hq hE hX pX0_al hP hD hS hA hl.1 (P_takeIf l G h0 a (upd (upd F 2 (nI sz)) 9 (nI (((at9 + 1) + 1) + r604))) (updR R 1 (.ref pq)) Z B J K470.1 (fun q99 x99 => x99 = rep G a K470 q99) w 12 (((at9 + 1) + 1) + r604) sz (by omega) (by omega) (by decide) hO) (gV pw_797 pw_798 pw_799 pw_796 pw_789) hV_X8_takeIf qr615 5 hqr616 rfl rfl rfl (Nat.le_of_ble_eq_true rfl) dX8_declaration_105 ⟨(by show 5 + 0 ≤ 6; omega), (by show 25 + 0 ≤ 31; omega)⟩ ⟨Nat.le_of_ble_eq_true rfl, Nat.le_of_ble_eq_true rfl⟩ (fun v614 u612 H locs hw613 hP hD hS => ?_)
              obtain ⟨w, r617⟩ := u612
              obtain ⟨hw613, h618, h619, h620, hO⟩ := hw613
              have h618 : r617 ≤ 1 := h618
              have h619 : (((at9 + 1) + 1) + r604) + r617 ≤ sz := h619
              have h620 : SeQ ((B 7)) sz (((at9 + 1) + 1) + r604) 12 r617 := h620
              obtain rfl : v614 = some (.int (nI r617)) := hw613
              have hO : OKP G h0 a (upd (upd F 2 (nI sz)) 9 (nI ((((at9 + 1) + 1) + r604) + r617))) (updR R 1 (.ref pq)) Z B J K470 w := hO.to rfl
              refine W.widen (k := 5) (n := 25) (by show 5 + 0 ≤ 5; omega) (by show 25 + 0 ≤ 25; omega) ?_
              refine W.eq (g2 := F0 m 108 ls [.int (nI r617)]) rfl ?_
              refine lv_if_eq (tgt := 116) hx hb dX8_declaration_108 (by decide) (fun c621 => ?_) (fun c621 => ?_)
              · have n622 : r617 = 0 := (nI_eq (a := r617) (b := 0) (by omega) (by omega)).mp c621
                refine lv_aload_n hx hb dX8_declaration_116 rfl (lv_at hl 2 rfl) ?_
                refine lv_bipush (v := 32) hx hb dX8_declaration_117 (by decide) ?_
                have hO : OKW G h0 a (upd (upd (upd (upd (upd F 2 (nI sz)) 9 (nI at9)) 9 (nI ((((at9 + 1) + 1) + r604) + r617))) 2 (nI sz)) 9 (nI ((((at9 + 1) + 1) + r604) + r617))) (updR R 1 (.ref pq)) Z B J K470.1 (fun q99 x99 => x99 = rep G a K470 q99) w := hO.to rfl
                obtain ⟨_, qr626, hqr627⟩ := hO.2.1 23 _ (sg_23 G h0 a _ _ _ _ _)
                refine pn_V0 (G := G) (As := [.int 32]) (rest := []) hx hb hml hown hq hE hX pX0_al hP hD hS hA hl.1 (P_take l G h0 a (upd (upd (upd F 2 (nI sz)) 9 (nI at9)) 9 (nI ((((at9 + 1) + 1) + r604) + r617))) (updR R 1 (.ref pq)) Z B J K470.1 (fun q99 x99 => x99 = rep G a K470 q99) w 32 ((((at9 + 1) + 1) + r604) + r617) sz (by omega) (by omega) (by decide) hO hl0) (gV pw_793 pw_794 pw_795 pw_796 pw_781) hV_X8_take qr626 5 hqr627 rfl rfl rfl (Nat.le_of_ble_eq_true rfl) dX8_declaration_119 ⟨(by show 5 + 1 ≤ 6; omega), (by show 25 + 6 ≤ 31; omega)⟩ ⟨Nat.le_of_ble_eq_true rfl, Nat.le_of_ble_eq_true rfl⟩ (fun v625 u623 H locs hw624 hP hD hS => ?_) (fun ux ce9 q9 H9 locs9 hux hP9 hD9 hS9 hce hcv hcl => pb_out ux (ThQ.up (Thx.same (Thx.same (Thx.f Thx.rfl (by omega)) rfl) rfl) RhX.rfl hux) hnt hlocks hce hcv hcl hP9 hD9 hS9 (by show 5 + 1 ≤ 6; omega) (by show 25 + 6 ≤ 31; omega))
                obtain ⟨w, _⟩ := u623
                obtain ⟨hw624, h628, h629, hO⟩ := hw624
                have h628 : ((((at9 + 1) + 1) + r604) + r617) + 1 ≤ sz := h628
                have h629 : tkN ((B 7)) sz 67 (nI ((((at9 + 1) + 1) + r604) + r617)) = 32 := h629
                obtain rfl : v625 = some (.int (nI ((((at9 + 1) + 1) + r604) + r617))) := hw624
                have hO : OKP G h0 a (upd (upd F 2 (nI sz)) 9 (nI (((((at9 + 1) + 1) + r604) + r617) + 1))) (updR R 1 (.ref pq)) Z B J K470 w := hO.to rfl
                refine W.widen (k := 5) (n := 25) (by show 5 + 0 ≤ 5; omega) (by show 25 + 0 ≤ 25; omega) ?_
                refine W.eq (g2 := F0 m 122 ls [.int (nI ((((at9 + 1) + 1) + r604) + r617))]) rfl ?_
                refine lv_pop hx hb dX8_declaration_122 rfl ?_
                refine lv_aload_n hx hb dX8_declaration_123 rfl (lv_at hl 0 rfl) ?_
                refine W_size (fun hz1 hz2 => ?_)
                refine vx_ret ?_
                have hz630 : WPr G K470 g471 := h472
                have hz631 : PgS G K470 g471 (a 1) pq dr ml (nd + 1) nm cp it s9 := h473
                have hz632 : K470.1 r469 = 4 := h474
                have hz633 : at9 + 3 ≤ (((((at9 + 1) + 1) + r604) + r617) + 1) ∧ (((((at9 + 1) + 1) + r604) + r617) + 1) ≤ sz := (by omega)
                have hz634 : PzK G K470 g471 nm it none := h476
                have hz635 : g471 5 r469 = 0 := h475
                have hz636 : NwT (B 7) sz (B 10) (B 10) K K470 at9 (((((at9 + 1) + 1) + r604) + r617) + 1) := (NwT.le htk478 (by omega))
                have hO : OKP G h0 a (upd (upd F 2 (nI sz)) 9 (nI (((((at9 + 1) + 1) + r604) + r617) + 1))) (updR R 1 (.ref pq)) Z B J K470 w := hO.to rfl
                refine W.widen (k := 6) (n := 31) (by omega) (by omega) ?_
                have hzz1 : H.size ≤ s.heap.size + (5) := (by have z : 5 ≤ 5 := (by omega); omega)
                have hzz2 : hSl H ≤ hSl s.heap + (25) := (by have z : 25 ≤ 25 := (by omega); omega)
                exact W.aret (v := .ref r469) hx hb hr (Or.inl ⟨_, rfl⟩) (Or.inr ⟨_, rfl⟩) (fun t99 ht99 hW99 => ⟨⟨_, (w, (K470, g471, r469, (((((at9 + 1) + 1) + r604) + r617) + 1), (nd + 1))), rfl, ⟨rfl, hz630, hz631, hz632, hz633, hz634, hz635, hz636, hO⟩, by rw [ht99]; exact hP, hD, by rw [ht99]; exact hzz1, by rw [ht99]; exact hzz2⟩, hS.F ht99⟩) hS.2.2 dX8_declaration_124
              · have n637 : ¬ (r617 = 0) := fun h9 => c621 ((nI_eq (a := r617) (b := 0) (by omega) (by omega)).mpr h9)
                refine lv_aload_n hx hb dX8_declaration_111 rfl (lv_at hl 2 rfl) ?_
                refine lv_aload_n hx hb dX8_declaration_112 rfl (lv_at hl 0 rfl) ?_
                have hO : OKP G h0 a (upd (upd (upd (upd (upd F 2 (nI sz)) 9 (nI at9)) 9 (nI ((((at9 + 1) + 1) + r604) + r617))) 2 (nI sz)) 9 (nI ((((at9 + 1) + 1) + r604) + r617))) (updR (updR R 1 (.ref pq)) 1 (.ref pq)) Z B J K470 w := hO.to rfl
                obtain ⟨_, qr641, hqr642⟩ := hO.2.1 23 _ (sg_23 G h0 a _ _ _ _ _)
                refine pn_V0 (G := G) (As := [.ref r469]) (rest := []) hx hb hml hown hq hE hX pX0_al hP hD hS hA hl.1 (P_listI l G h0 a (upd (upd (upd F 2 (nI sz)) 9 (nI at9)) 9 (nI ((((at9 + 1) + 1) + r604) + r617))) (updR R 1 (.ref pq)) Z B J K470 w pq dr ml (nd + 1) nm cp it s9 r469 ((((at9 + 1) + 1) + r604) + r617) sz g471 (by omega) (by omega) h472 h473 h476 h474 h475 hO hl0) (gV pw_815 pw_816 pw_817 pw_796 pw_800) hV_X8_listInterfaces qr641 5 hqr642 rfl rfl rfl (Nat.le_of_ble_eq_true rfl) dX8_declaration_113 ⟨(by show 5 + 1 ≤ 6; omega), (by show 25 + 6 ≤ 31; omega)⟩ ⟨Nat.le_of_ble_eq_true rfl, Nat.le_of_ble_eq_true rfl⟩ (fun v640 u638 H locs hw639 hP hD hS => ?_) (fun ux ce9 q9 H9 locs9 hux hP9 hD9 hS9 hce hcv hcl => pb_out ux (ThQ.up (Thx.same (Thx.same (Thx.f Thx.rfl (by omega)) rfl) rfl) (show RhX (updR R 1 (.ref pq)) (updR (updR R 1 (.ref pq)) 1 (.ref pq)) from fun k9 hk9 => by unfold updR; simp only [show ¬ k9 = 1 by omega, show ¬ k9 = 2 by omega, show ¬ k9 = 3 by omega, show ¬ k9 = 4 by omega, if_false]) hux) hnt hlocks hce hcv hcl hP9 hD9 hS9 (by show 5 + 1 ≤ 6; omega) (by show 25 + 6 ≤ 31; omega))
                obtain ⟨w, K643, g644, at645⟩ := u638
                obtain ⟨hw639, h646, h647, h648, h649, h650, h651, h652, h653, hO⟩ := hw639
                have h646 : WPr G K643 g644 := h646
                have h647 : PgS G K643 g644 (a 1) pq dr ml (nd + 1) nm cp it s9 := h647
                have h648 : K643.1 r469 = 4 := h648
                have h649 : ((((at9 + 1) + 1) + r604) + r617) + 1 ≤ at645 ∧ at645 ≤ sz := h649
                have h650 : PzK G K643 g644 nm it none := h650
                have h651 : K643.2.1 18 r469 = K470.2.1 18 r469 := h651
                have h652 : g644 5 r469 = g471 5 r469 := h652
                have h653 : VaT K470 K643 := h653
                obtain rfl : v640 = none := hw639
                have hO : OKP G h0 a (upd (upd F 2 (nI sz)) 9 (nI at645)) (updR R 1 (.ref pq)) Z B J K643 w := hO.to rfl
                refine W.widen (k := 5) (n := 25) (by show 5 + 0 ≤ 5; omega) (by show 25 + 0 ≤ 25; omega) ?_
                refine W.eq (g2 := F0 m 116 ls []) rfl ?_
                have htk654 : NwT (B 7) sz (B 10) (B 10) K K643 at9 ((((at9 + 1) + 1) + r604) + r617) := (NwT.call (NwT.le htk478 (show _ ≤ ((((at9 + 1) + 1) + r604) + r617) by omega)) (h653 (B 7) (B 10) sz ((((at9 + 1) + 1) + r604) + r617)) (Nat.le_refl _))
                refine lv_aload_n hx hb dX8_declaration_116 rfl (lv_at hl 2 rfl) ?_
                refine lv_bipush (v := 32) hx hb dX8_declaration_117 (by decide) ?_
                have hO : OKW G h0 a (upd (upd (upd (upd (upd F 2 (nI sz)) 9 (nI at9)) 9 (nI at645)) 2 (nI sz)) 9 (nI at645)) (updR R 1 (.ref pq)) Z B J K643.1 (fun q99 x99 => x99 = rep G a K643 q99) w := hO.to rfl
                obtain ⟨_, qr658, hqr659⟩ := hO.2.1 23 _ (sg_23 G h0 a _ _ _ _ _)
                refine pn_V0 (G := G) (As := [.int 32]) (rest := []) hx hb hml hown hq hE hX pX0_al hP hD hS hA hl.1 (P_take l G h0 a (upd (upd (upd F 2 (nI sz)) 9 (nI at9)) 9 (nI at645)) (updR R 1 (.ref pq)) Z B J K643.1 (fun q99 x99 => x99 = rep G a K643 q99) w 32 at645 sz (by omega) (by omega) (by decide) hO hl0) (gV pw_793 pw_794 pw_795 pw_796 pw_781) hV_X8_take qr658 5 hqr659 rfl rfl rfl (Nat.le_of_ble_eq_true rfl) dX8_declaration_119 ⟨(by show 5 + 1 ≤ 6; omega), (by show 25 + 6 ≤ 31; omega)⟩ ⟨Nat.le_of_ble_eq_true rfl, Nat.le_of_ble_eq_true rfl⟩ (fun v657 u655 H locs hw656 hP hD hS => ?_) (fun ux ce9 q9 H9 locs9 hux hP9 hD9 hS9 hce hcv hcl => pb_out ux (ThQ.up (Thx.same (Thx.same (Thx.f Thx.rfl (by omega)) rfl) rfl) RhX.rfl hux) hnt hlocks hce hcv hcl hP9 hD9 hS9 (by show 5 + 1 ≤ 6; omega) (by show 25 + 6 ≤ 31; omega))
                obtain ⟨w, _⟩ := u655
                obtain ⟨hw656, h660, h661, hO⟩ := hw656
                have h660 : at645 + 1 ≤ sz := h660
                have h661 : tkN ((B 7)) sz 67 (nI at645) = 32 := h661
                obtain rfl : v657 = some (.int (nI at645)) := hw656
                have hO : OKP G h0 a (upd (upd F 2 (nI sz)) 9 (nI (at645 + 1))) (updR R 1 (.ref pq)) Z B J K643 w := hO.to rfl
                refine W.widen (k := 5) (n := 25) (by show 5 + 0 ≤ 5; omega) (by show 25 + 0 ≤ 25; omega) ?_
                refine W.eq (g2 := F0 m 122 ls [.int (nI at645)]) rfl ?_
                refine lv_pop hx hb dX8_declaration_122 rfl ?_
                refine lv_aload_n hx hb dX8_declaration_123 rfl (lv_at hl 0 rfl) ?_
                refine W_size (fun hz1 hz2 => ?_)
                refine vx_ret ?_
                have hz662 : WPr G K643 g644 := h646
                have hz663 : PgS G K643 g644 (a 1) pq dr ml (nd + 1) nm cp it s9 := h647
                have hz664 : K643.1 r469 = 4 := h648
                have hz665 : at9 + 3 ≤ (at645 + 1) ∧ (at645 + 1) ≤ sz := (by omega)
                have hz666 : PzK G K643 g644 nm it none := h650
                have hz667 : g644 5 r469 = 0 := (h652.trans h475)
                have hz668 : NwT (B 7) sz (B 10) (B 10) K K643 at9 (at645 + 1) := (NwT.le htk654 (by omega))
                have hO : OKP G h0 a (upd (upd F 2 (nI sz)) 9 (nI (at645 + 1))) (updR R 1 (.ref pq)) Z B J K643 w := hO.to rfl
                refine W.widen (k := 6) (n := 31) (by omega) (by omega) ?_
                have hzz1 : H.size ≤ s.heap.size + (5) := (by have z : 5 ≤ 5 := (by omega); omega)
                have hzz2 : hSl H ≤ hSl s.heap + (25) := (by have z : 25 ≤ 25 := (by omega); omega)
                exact W.aret (v := .ref r469) hx hb hr (Or.inl ⟨_, rfl⟩) (Or.inr ⟨_, rfl⟩) (fun t99 ht99 hW99 => ⟨⟨_, (w, (K643, g644, r469, (at645 + 1), (nd + 1))), rfl, ⟨rfl, hz662, hz663, hz664, hz665, hz666, hz667, hz668, hO⟩, by rw [ht99]; exact hP, hD, by rw [ht99]; exact hzz1, by rw [ht99]; exact hzz2⟩, hS.F ht99⟩) hS.2.2 dX8_declaration_124
            · have n669 : ¬ (r6 = 0) := fun h9 => c610 ((nI_eq (a := r6) (b := 0) (by omega) (by omega)).mpr h9)
              refine lv_bipush (v := 7) hx hb dX8_declaration_98 (by decide) ?_
              refine lv_goto (tgt := 105) hx hb dX8_declaration_100 (by decide) ?_
              have hO : OKW G h0 a (upd (upd (upd (upd F 2 (nI sz)) 9 (nI (((at9 + 1) + 1) + r604))) 2 (nI sz)) 9 (nI (((at9 + 1) + 1) + r604))) (updR R 1 (.ref pq)) Z B J K470.1 (fun q99 x99 => x99 = rep G a K470 q99) w := hO.to rfl
              obtain ⟨_, qr673, hqr674⟩ := hO.2.1 23 _ (sg_23 G h0 a _ _ _ _ _)
              refine pc_V0 (G := G) (As := [.int 7]) (rest := []) hx hb hml hown hq hE hX pX0_al hP hD hS hA hl.1 (P_takeIf l G h0 a (upd (upd F 2 (nI sz)) 9 (nI (((at9 + 1) + 1) + r604))) (updR R 1 (.ref pq)) Z B J K470.1 (fun q99 x99 => x99 = rep G a K470 q99) w 7 (((at9 + 1) + 1) + r604) sz (by omega) (by omega) (by decide) hO) (gV pw_797 pw_798 pw_799 pw_796 pw_789) hV_X8_takeIf qr673 5 hqr674 rfl rfl rfl (Nat.le_of_ble_eq_true rfl) dX8_declaration_105 ⟨(by show 5 + 0 ≤ 6; omega), (by show 25 + 0 ≤ 31; omega)⟩ ⟨Nat.le_of_ble_eq_true rfl, Nat.le_of_ble_eq_true rfl⟩ (fun v672 u670 H locs hw671 hP hD hS => ?_)
              obtain ⟨w, r675⟩ := u670
              obtain ⟨hw671, h676, h677, h678, hO⟩ := hw671
              have h676 : r675 ≤ 1 := h676
              have h677 : (((at9 + 1) + 1) + r604) + r675 ≤ sz := h677
              have h678 : SeQ ((B 7)) sz (((at9 + 1) + 1) + r604) 7 r675 := h678
              obtain rfl : v672 = some (.int (nI r675)) := hw671
              have hO : OKP G h0 a (upd (upd F 2 (nI sz)) 9 (nI ((((at9 + 1) + 1) + r604) + r675))) (updR R 1 (.ref pq)) Z B J K470 w := hO.to rfl
              refine W.widen (k := 5) (n := 25) (by show 5 + 0 ≤ 5; omega) (by show 25 + 0 ≤ 25; omega) ?_
              refine W.eq (g2 := F0 m 108 ls [.int (nI r675)]) rfl ?_
              refine lv_if_eq (tgt := 116) hx hb dX8_declaration_108 (by decide) (fun c679 => ?_) (fun c679 => ?_)
              · have n680 : r675 = 0 := (nI_eq (a := r675) (b := 0) (by omega) (by omega)).mp c679
                refine lv_aload_n hx hb dX8_declaration_116 rfl (lv_at hl 2 rfl) ?_
                refine lv_bipush (v := 32) hx hb dX8_declaration_117 (by decide) ?_
                have hO : OKW G h0 a (upd (upd (upd (upd (upd F 2 (nI sz)) 9 (nI at9)) 9 (nI ((((at9 + 1) + 1) + r604) + r675))) 2 (nI sz)) 9 (nI ((((at9 + 1) + 1) + r604) + r675))) (updR R 1 (.ref pq)) Z B J K470.1 (fun q99 x99 => x99 = rep G a K470 q99) w := hO.to rfl
                obtain ⟨_, qr684, hqr685⟩ := hO.2.1 23 _ (sg_23 G h0 a _ _ _ _ _)
                refine pn_V0 (G := G) (As := [.int 32]) (rest := []) hx hb hml hown hq hE hX pX0_al hP hD hS hA hl.1 (P_take l G h0 a (upd (upd (upd F 2 (nI sz)) 9 (nI at9)) 9 (nI ((((at9 + 1) + 1) + r604) + r675))) (updR R 1 (.ref pq)) Z B J K470.1 (fun q99 x99 => x99 = rep G a K470 q99) w 32 ((((at9 + 1) + 1) + r604) + r675) sz (by omega) (by omega) (by decide) hO hl0) (gV pw_793 pw_794 pw_795 pw_796 pw_781) hV_X8_take qr684 5 hqr685 rfl rfl rfl (Nat.le_of_ble_eq_true rfl) dX8_declaration_119 ⟨(by show 5 + 1 ≤ 6; omega), (by show 25 + 6 ≤ 31; omega)⟩ ⟨Nat.le_of_ble_eq_true rfl, Nat.le_of_ble_eq_true rfl⟩ (fun v683 u681 H locs hw682 hP hD hS => ?_) (fun ux ce9 q9 H9 locs9 hux hP9 hD9 hS9 hce hcv hcl => pb_out ux (ThQ.up (Thx.same (Thx.same (Thx.f Thx.rfl (by omega)) rfl) rfl) RhX.rfl hux) hnt hlocks hce hcv hcl hP9 hD9 hS9 (by show 5 + 1 ≤ 6; omega) (by show 25 + 6 ≤ 31; omega))
                obtain ⟨w, _⟩ := u681
                obtain ⟨hw682, h686, h687, hO⟩ := hw682
                have h686 : ((((at9 + 1) + 1) + r604) + r675) + 1 ≤ sz := h686
                have h687 : tkN ((B 7)) sz 67 (nI ((((at9 + 1) + 1) + r604) + r675)) = 32 := h687
                obtain rfl : v683 = some (.int (nI ((((at9 + 1) + 1) + r604) + r675))) := hw682
                have hO : OKP G h0 a (upd (upd F 2 (nI sz)) 9 (nI (((((at9 + 1) + 1) + r604) + r675) + 1))) (updR R 1 (.ref pq)) Z B J K470 w := hO.to rfl
                refine W.widen (k := 5) (n := 25) (by show 5 + 0 ≤ 5; omega) (by show 25 + 0 ≤ 25; omega) ?_
                refine W.eq (g2 := F0 m 122 ls [.int (nI ((((at9 + 1) + 1) + r604) + r675))]) rfl ?_
                refine lv_pop hx hb dX8_declaration_122 rfl ?_
                refine lv_aload_n hx hb dX8_declaration_123 rfl (lv_at hl 0 rfl) ?_
                refine W_size (fun hz1 hz2 => ?_)
                refine vx_ret ?_
                have hz688 : WPr G K470 g471 := h472
                have hz689 : PgS G K470 g471 (a 1) pq dr ml (nd + 1) nm cp it s9 := h473
                have hz690 : K470.1 r469 = 4 := h474
                have hz691 : at9 + 3 ≤ (((((at9 + 1) + 1) + r604) + r675) + 1) ∧ (((((at9 + 1) + 1) + r604) + r675) + 1) ≤ sz := (by omega)
                have hz692 : PzK G K470 g471 nm it none := h476
                have hz693 : g471 5 r469 = 0 := h475
                have hz694 : NwT (B 7) sz (B 10) (B 10) K K470 at9 (((((at9 + 1) + 1) + r604) + r675) + 1) := (NwT.le htk478 (by omega))
                have hO : OKP G h0 a (upd (upd F 2 (nI sz)) 9 (nI (((((at9 + 1) + 1) + r604) + r675) + 1))) (updR R 1 (.ref pq)) Z B J K470 w := hO.to rfl
                refine W.widen (k := 6) (n := 31) (by omega) (by omega) ?_
                have hzz1 : H.size ≤ s.heap.size + (5) := (by have z : 5 ≤ 5 := (by omega); omega)
                have hzz2 : hSl H ≤ hSl s.heap + (25) := (by have z : 25 ≤ 25 := (by omega); omega)
                exact W.aret (v := .ref r469) hx hb hr (Or.inl ⟨_, rfl⟩) (Or.inr ⟨_, rfl⟩) (fun t99 ht99 hW99 => ⟨⟨_, (w, (K470, g471, r469, (((((at9 + 1) + 1) + r604) + r675) + 1), (nd + 1))), rfl, ⟨rfl, hz688, hz689, hz690, hz691, hz692, hz693, hz694, hO⟩, by rw [ht99]; exact hP, hD, by rw [ht99]; exact hzz1, by rw [ht99]; exact hzz2⟩, hS.F ht99⟩) hS.2.2 dX8_declaration_124
              · have n695 : ¬ (r675 = 0) := fun h9 => c679 ((nI_eq (a := r675) (b := 0) (by omega) (by omega)).mpr h9)
                refine lv_aload_n hx hb dX8_declaration_111 rfl (lv_at hl 2 rfl) ?_
                refine lv_aload_n hx hb dX8_declaration_112 rfl (lv_at hl 0 rfl) ?_
                have hO : OKP G h0 a (upd (upd (upd (upd (upd F 2 (nI sz)) 9 (nI at9)) 9 (nI ((((at9 + 1) + 1) + r604) + r675))) 2 (nI sz)) 9 (nI ((((at9 + 1) + 1) + r604) + r675))) (updR (updR R 1 (.ref pq)) 1 (.ref pq)) Z B J K470 w := hO.to rfl
                obtain ⟨_, qr699, hqr700⟩ := hO.2.1 23 _ (sg_23 G h0 a _ _ _ _ _)
                refine pn_V0 (G := G) (As := [.ref r469]) (rest := []) hx hb hml hown hq hE hX pX0_al hP hD hS hA hl.1 (P_listI l G h0 a (upd (upd (upd F 2 (nI sz)) 9 (nI at9)) 9 (nI ((((at9 + 1) + 1) + r604) + r675))) (updR R 1 (.ref pq)) Z B J K470 w pq dr ml (nd + 1) nm cp it s9 r469 ((((at9 + 1) + 1) + r604) + r675) sz g471 (by omega) (by omega) h472 h473 h476 h474 h475 hO hl0) (gV pw_815 pw_816 pw_817 pw_796 pw_800) hV_X8_listInterfaces qr699 5 hqr700 rfl rfl rfl (Nat.le_of_ble_eq_true rfl) dX8_declaration_113 ⟨(by show 5 + 1 ≤ 6; omega), (by show 25 + 6 ≤ 31; omega)⟩ ⟨Nat.le_of_ble_eq_true rfl, Nat.le_of_ble_eq_true rfl⟩ (fun v698 u696 H locs hw697 hP hD hS => ?_) (fun ux ce9 q9 H9 locs9 hux hP9 hD9 hS9 hce hcv hcl => pb_out ux (ThQ.up (Thx.same (Thx.same (Thx.f Thx.rfl (by omega)) rfl) rfl) (show RhX (updR R 1 (.ref pq)) (updR (updR R 1 (.ref pq)) 1 (.ref pq)) from fun k9 hk9 => by unfold updR; simp only [show ¬ k9 = 1 by omega, show ¬ k9 = 2 by omega, show ¬ k9 = 3 by omega, show ¬ k9 = 4 by omega, if_false]) hux) hnt hlocks hce hcv hcl hP9 hD9 hS9 (by show 5 + 1 ≤ 6; omega) (by show 25 + 6 ≤ 31; omega))
                obtain ⟨w, K701, g702, at703⟩ := u696
                obtain ⟨hw697, h704, h705, h706, h707, h708, h709, h710, h711, hO⟩ := hw697
                have h704 : WPr G K701 g702 := h704
                have h705 : PgS G K701 g702 (a 1) pq dr ml (nd + 1) nm cp it s9 := h705
                have h706 : K701.1 r469 = 4 := h706
                have h707 : ((((at9 + 1) + 1) + r604) + r675) + 1 ≤ at703 ∧ at703 ≤ sz := h707
                have h708 : PzK G K701 g702 nm it none := h708
                have h709 : K701.2.1 18 r469 = K470.2.1 18 r469 := h709
                have h710 : g702 5 r469 = g471 5 r469 := h710
                have h711 : VaT K470 K701 := h711
                obtain rfl : v698 = none := hw697
                have hO : OKP G h0 a (upd (upd F 2 (nI sz)) 9 (nI at703)) (updR R 1 (.ref pq)) Z B J K701 w := hO.to rfl
                refine W.widen (k := 5) (n := 25) (by show 5 + 0 ≤ 5; omega) (by show 25 + 0 ≤ 25; omega) ?_
                refine W.eq (g2 := F0 m 116 ls []) rfl ?_
                have htk712 : NwT (B 7) sz (B 10) (B 10) K K701 at9 ((((at9 + 1) + 1) + r604) + r675) := (NwT.call (NwT.le htk478 (show _ ≤ ((((at9 + 1) + 1) + r604) + r675) by omega)) (h711 (B 7) (B 10) sz ((((at9 + 1) + 1) + r604) + r675)) (Nat.le_refl _))
                refine lv_aload_n hx hb dX8_declaration_116 rfl (lv_at hl 2 rfl) ?_
                refine lv_bipush (v := 32) hx hb dX8_declaration_117 (by decide) ?_
                have hO : OKW G h0 a (upd (upd (upd (upd (upd F 2 (nI sz)) 9 (nI at9)) 9 (nI at703)) 2 (nI sz)) 9 (nI at703)) (updR R 1 (.ref pq)) Z B J K701.1 (fun q99 x99 => x99 = rep G a K701 q99) w := hO.to rfl
                obtain ⟨_, qr716, hqr717⟩ := hO.2.1 23 _ (sg_23 G h0 a _ _ _ _ _)
                refine pn_V0 (G := G) (As := [.int 32]) (rest := []) hx hb hml hown hq hE hX pX0_al hP hD hS hA hl.1 (P_take l G h0 a (upd (upd (upd F 2 (nI sz)) 9 (nI at9)) 9 (nI at703)) (updR R 1 (.ref pq)) Z B J K701.1 (fun q99 x99 => x99 = rep G a K701 q99) w 32 at703 sz (by omega) (by omega) (by decide) hO hl0) (gV pw_793 pw_794 pw_795 pw_796 pw_781) hV_X8_take qr716 5 hqr717 rfl rfl rfl (Nat.le_of_ble_eq_true rfl) dX8_declaration_119 ⟨(by show 5 + 1 ≤ 6; omega), (by show 25 + 6 ≤ 31; omega)⟩ ⟨Nat.le_of_ble_eq_true rfl, Nat.le_of_ble_eq_true rfl⟩ (fun v715 u713 H locs hw714 hP hD hS => ?_) (fun ux ce9 q9 H9 locs9 hux hP9 hD9 hS9 hce hcv hcl => pb_out ux (ThQ.up (Thx.same (Thx.same (Thx.f Thx.rfl (by omega)) rfl) rfl) RhX.rfl hux) hnt hlocks hce hcv hcl hP9 hD9 hS9 (by show 5 + 1 ≤ 6; omega) (by show 25 + 6 ≤ 31; omega))
                obtain ⟨w, _⟩ := u713
                obtain ⟨hw714, h718, h719, hO⟩ := hw714
                have h718 : at703 + 1 ≤ sz := h718
                have h719 : tkN ((B 7)) sz 67 (nI at703) = 32 := h719
                obtain rfl : v715 = some (.int (nI at703)) := hw714
                have hO : OKP G h0 a (upd (upd F 2 (nI sz)) 9 (nI (at703 + 1))) (updR R 1 (.ref pq)) Z B J K701 w := hO.to rfl
                refine W.widen (k := 5) (n := 25) (by show 5 + 0 ≤ 5; omega) (by show 25 + 0 ≤ 25; omega) ?_
                refine W.eq (g2 := F0 m 122 ls [.int (nI at703)]) rfl ?_
                refine lv_pop hx hb dX8_declaration_122 rfl ?_
                refine lv_aload_n hx hb dX8_declaration_123 rfl (lv_at hl 0 rfl) ?_
                refine W_size (fun hz1 hz2 => ?_)
                refine vx_ret ?_
                have hz720 : WPr G K701 g702 := h704
                have hz721 : PgS G K701 g702 (a 1) pq dr ml (nd + 1) nm cp it s9 := h705
                have hz722 : K701.1 r469 = 4 := h706
                have hz723 : at9 + 3 ≤ (at703 + 1) ∧ (at703 + 1) ≤ sz := (by omega)
                have hz724 : PzK G K701 g702 nm it none := h708
                have hz725 : g702 5 r469 = 0 := (h710.trans h475)
                have hz726 : NwT (B 7) sz (B 10) (B 10) K K701 at9 (at703 + 1) := (NwT.le htk712 (by omega))
                have hO : OKP G h0 a (upd (upd F 2 (nI sz)) 9 (nI (at703 + 1))) (updR R 1 (.ref pq)) Z B J K701 w := hO.to rfl
                refine W.widen (k := 6) (n := 31) (by omega) (by omega) ?_
                have hzz1 : H.size ≤ s.heap.size + (5) := (by have z : 5 ≤ 5 := (by omega); omega)
                have hzz2 : hSl H ≤ hSl s.heap + (25) := (by have z : 25 ≤ 25 := (by omega); omega)
                exact W.aret (v := .ref r469) hx hb hr (Or.inl ⟨_, rfl⟩) (Or.inr ⟨_, rfl⟩) (fun t99 ht99 hW99 => ⟨⟨_, (w, (K701, g702, r469, (at703 + 1), (nd + 1))), rfl, ⟨rfl, hz720, hz721, hz722, hz723, hz724, hz725, hz726, hO⟩, by rw [ht99]; exact hP, hD, by rw [ht99]; exact hzz1, by rw [ht99]; exact hzz2⟩, hS.F ht99⟩) hS.2.2 dX8_declaration_124
          · have n727 : ¬ (r604 = 0) := fun h9 => c608 ((nI_eq (a := r604) (b := 0) (by omega) (by omega)).mpr h9)
            refine lv_aload_n hx hb dX8_declaration_83 rfl (lv_at hl 0 rfl) ?_
            refine lv_aload_n hx hb dX8_declaration_84 rfl (lv_at hl 2 rfl) ?_
            refine lv_bipush (v := 65) hx hb dX8_declaration_85 (by decide) ?_
            have hO : OKW G h0 a (upd (upd (upd (upd (upd F 2 (nI sz)) 9 (nI at9)) 9 (nI (((at9 + 1) + 1) + r604))) 2 (nI sz)) 9 (nI (((at9 + 1) + 1) + r604))) (updR R 1 (.ref pq)) Z B J K470.1 (fun q99 x99 => x99 = rep G a K470 q99) w := hO.to rfl
            obtain ⟨_, qr731, hqr732⟩ := hO.2.1 23 _ (sg_23 G h0 a _ _ _ _ _)
            refine pn_V0 (G := G) (As := [.int 65]) (rest := [.ref r469]) hx hb hml hown hq hE hX pX0_al hP hD hS hA hl.1 (P_take l G h0 a (upd (upd (upd F 2 (nI sz)) 9 (nI at9)) 9 (nI (((at9 + 1) + 1) + r604))) (updR R 1 (.ref pq)) Z B J K470.1 (fun q99 x99 => x99 = rep G a K470 q99) w 65 (((at9 + 1) + 1) + r604) sz (by omega) (by omega) (by decide) hO hl0) (gV pw_793 pw_794 pw_795 pw_796 pw_781) hV_X8_take qr731 5 hqr732 rfl rfl rfl (Nat.le_of_ble_eq_true rfl) dX8_declaration_87 ⟨(by show 5 + 1 ≤ 6; omega), (by show 25 + 6 ≤ 31; omega)⟩ ⟨Nat.le_of_ble_eq_true rfl, Nat.le_of_ble_eq_true rfl⟩ (fun v730 u728 H locs hw729 hP hD hS => ?_) (fun ux ce9 q9 H9 locs9 hux hP9 hD9 hS9 hce hcv hcl => pb_out ux (ThQ.up (Thx.same (Thx.same (Thx.f Thx.rfl (by omega)) rfl) rfl) RhX.rfl hux) hnt hlocks hce hcv hcl hP9 hD9 hS9 (by show 5 + 1 ≤ 6; omega) (by show 25 + 6 ≤ 31; omega))
            obtain ⟨w, _⟩ := u728
            obtain ⟨hw729, h733, h734, hO⟩ := hw729
            have h733 : (((at9 + 1) + 1) + r604) + 1 ≤ sz := h733
            have h734 : tkN ((B 7)) sz 67 (nI (((at9 + 1) + 1) + r604)) = 65 := h734
            obtain rfl : v730 = some (.int (nI (((at9 + 1) + 1) + r604))) := hw729
            have hO : OKP G h0 a (upd (upd F 2 (nI sz)) 9 (nI ((((at9 + 1) + 1) + r604) + 1))) (updR R 1 (.ref pq)) Z B J K470 w := hO.to rfl
            refine W.widen (k := 5) (n := 25) (by show 5 + 0 ≤ 5; omega) (by show 25 + 0 ≤ 25; omega) ?_
            refine W.eq (g2 := F0 m 90 ls [.int (nI (((at9 + 1) + 1) + r604)), .ref r469]) rfl ?_
            refine p_put (v := .int (nI (((at9 + 1) + 1) + r604))) (ty := .int) (C := RX2) (Tc := TX2) (N := 13) (ci := 2) (K' := (kI K470 19 r469 (nI (((at9 + 1) + 1) + r604)))) hx hb hq pin_wsX20 tyX2 tyX2_ok nmX2 hown hE hP hD hS hO (by rw [h474]; decide) (rep_4 h474) rfl 4 (by decide) (hq _ pw_802) (fun _ h9 => h9) rfl (by decide +kernel) rfl rfl (Nat.le_of_ble_eq_true rfl) rfl (by rw [rep_4 (show (kI K470 19 r469 (nI (((at9 + 1) + 1) + r604))).1 r469 = 4 from h474), pi_19] <;> rfl) (fun p9 hp9 => rep_kI hp9) dX8_declaration_90 (fun H locs w hP hD hS hO => ?_)
            obtain ⟨K735, hK736⟩ : ∃ z : PK, z = (kI K470 19 r469 (nI (((at9 + 1) + 1) + r604))) := ⟨_, rfl⟩
            rw [← hK736] at hO
            have hf737 : K735.1 r469 = 4 := (by rw [hK736]; exact h474)
            have hf738 : K735.2.1 19 r469 = (nI (((at9 + 1) + 1) + r604)) := by rw [hK736]; exact kI_eq
            have htk739 : NwT (B 7) sz (B 10) (B 10) K K735 at9 ((at9 + 1) + 1) := by rw [hK736]; exact NwT.puti htk478 (by decide)
            have hwp740 : WPr G K735 g471 := by rw [hK736]; exact WPr.kI h472 (by decide) (Or.inr h475)
            have hps741 : PgS G K735 g471 (a 1) pq dr ml (nd + 1) nm cp it s9 := by rw [hK736]; exact PgS.kI h473 (by decide)
            have hpz742 : PzK G K735 g471 nm it none := by rw [hK736]; exact PzK.kI h476 (by decide)
            refine lv_aload_n hx hb dX8_declaration_93 rfl (lv_at hl 2 rfl) ?_
            refine lv_iload_n hx hb dX8_declaration_94 rfl (lv_at hl 1 rfl) ?_
            refine lv_if_eq (tgt := 103) hx hb dX8_declaration_95 (by decide) (fun c743 => ?_) (fun c743 => ?_)
            · have n744 : r6 = 0 := (nI_eq (a := r6) (b := 0) (by omega) (by omega)).mp c743
              refine lv_bipush (v := 12) hx hb dX8_declaration_103 (by decide) ?_
              have hO : OKW G h0 a (upd (upd (upd (upd F 2 (nI sz)) 9 (nI ((((at9 + 1) + 1) + r604) + 1))) 2 (nI sz)) 9 (nI ((((at9 + 1) + 1) + r604) + 1))) (updR R 1 (.ref pq)) Z B J K735.1 (fun q99 x99 => x99 = rep G a K735 q99) w := hO.to rfl
              obtain ⟨_, qr748, hqr749⟩ := hO.2.1 23 _ (sg_23 G h0 a _ _ _ _ _)
              refine pc_V0 (G := G) (As := [.int 12]) (rest := []) hx hb hml hown hq hE hX pX0_al hP hD hS hA hl.1 (P_takeIf l G h0 a (upd (upd F 2 (nI sz)) 9 (nI ((((at9 + 1) + 1) + r604) + 1))) (updR R 1 (.ref pq)) Z B J K735.1 (fun q99 x99 => x99 = rep G a K735 q99) w 12 ((((at9 + 1) + 1) + r604) + 1) sz (by omega) (by omega) (by decide) hO) (gV pw_797 pw_798 pw_799 pw_796 pw_789) hV_X8_takeIf qr748 5 hqr749 rfl rfl rfl (Nat.le_of_ble_eq_true rfl) dX8_declaration_105 ⟨(by show 5 + 0 ≤ 6; omega), (by show 25 + 0 ≤ 31; omega)⟩ ⟨Nat.le_of_ble_eq_true rfl, Nat.le_of_ble_eq_true rfl⟩ (fun v747 u745 H locs hw746 hP hD hS => ?_)
              obtain ⟨w, r750⟩ := u745
              obtain ⟨hw746, h751, h752, h753, hO⟩ := hw746
              have h751 : r750 ≤ 1 := h751
              have h752 : ((((at9 + 1) + 1) + r604) + 1) + r750 ≤ sz := h752
              have h753 : SeQ ((B 7)) sz ((((at9 + 1) + 1) + r604) + 1) 12 r750 := h753
              obtain rfl : v747 = some (.int (nI r750)) := hw746
              have hO : OKP G h0 a (upd (upd F 2 (nI sz)) 9 (nI (((((at9 + 1) + 1) + r604) + 1) + r750))) (updR R 1 (.ref pq)) Z B J K735 w := hO.to rfl
              refine W.widen (k := 5) (n := 25) (by show 5 + 0 ≤ 5; omega) (by show 25 + 0 ≤ 25; omega) ?_
              refine W.eq (g2 := F0 m 108 ls [.int (nI r750)]) rfl ?_
              refine lv_if_eq (tgt := 116) hx hb dX8_declaration_108 (by decide) (fun c754 => ?_) (fun c754 => ?_)
              · have n755 : r750 = 0 := (nI_eq (a := r750) (b := 0) (by omega) (by omega)).mp c754
                refine lv_aload_n hx hb dX8_declaration_116 rfl (lv_at hl 2 rfl) ?_
                refine lv_bipush (v := 32) hx hb dX8_declaration_117 (by decide) ?_
                have hO : OKW G h0 a (upd (upd (upd (upd (upd F 2 (nI sz)) 9 (nI at9)) 9 (nI (((((at9 + 1) + 1) + r604) + 1) + r750))) 2 (nI sz)) 9 (nI (((((at9 + 1) + 1) + r604) + 1) + r750))) (updR R 1 (.ref pq)) Z B J K735.1 (fun q99 x99 => x99 = rep G a K735 q99) w := hO.to rfl
                obtain ⟨_, qr759, hqr760⟩ := hO.2.1 23 _ (sg_23 G h0 a _ _ _ _ _)
                refine pn_V0 (G := G) (As := [.int 32]) (rest := []) hx hb hml hown hq hE hX pX0_al hP hD hS hA hl.1 (P_take l G h0 a (upd (upd (upd F 2 (nI sz)) 9 (nI at9)) 9 (nI (((((at9 + 1) + 1) + r604) + 1) + r750))) (updR R 1 (.ref pq)) Z B J K735.1 (fun q99 x99 => x99 = rep G a K735 q99) w 32 (((((at9 + 1) + 1) + r604) + 1) + r750) sz (by omega) (by omega) (by decide) hO hl0) (gV pw_793 pw_794 pw_795 pw_796 pw_781) hV_X8_take qr759 5 hqr760 rfl rfl rfl (Nat.le_of_ble_eq_true rfl) dX8_declaration_119 ⟨(by show 5 + 1 ≤ 6; omega), (by show 25 + 6 ≤ 31; omega)⟩ ⟨Nat.le_of_ble_eq_true rfl, Nat.le_of_ble_eq_true rfl⟩ (fun v758 u756 H locs hw757 hP hD hS => ?_) (fun ux ce9 q9 H9 locs9 hux hP9 hD9 hS9 hce hcv hcl => pb_out ux (ThQ.up (Thx.same (Thx.same (Thx.f Thx.rfl (by omega)) rfl) rfl) RhX.rfl hux) hnt hlocks hce hcv hcl hP9 hD9 hS9 (by show 5 + 1 ≤ 6; omega) (by show 25 + 6 ≤ 31; omega))
                obtain ⟨w, _⟩ := u756
                obtain ⟨hw757, h761, h762, hO⟩ := hw757
                have h761 : (((((at9 + 1) + 1) + r604) + 1) + r750) + 1 ≤ sz := h761
                have h762 : tkN ((B 7)) sz 67 (nI (((((at9 + 1) + 1) + r604) + 1) + r750)) = 32 := h762
                obtain rfl : v758 = some (.int (nI (((((at9 + 1) + 1) + r604) + 1) + r750))) := hw757
                have hO : OKP G h0 a (upd (upd F 2 (nI sz)) 9 (nI ((((((at9 + 1) + 1) + r604) + 1) + r750) + 1))) (updR R 1 (.ref pq)) Z B J K735 w := hO.to rfl
                refine W.widen (k := 5) (n := 25) (by show 5 + 0 ≤ 5; omega) (by show 25 + 0 ≤ 25; omega) ?_
                refine W.eq (g2 := F0 m 122 ls [.int (nI (((((at9 + 1) + 1) + r604) + 1) + r750))]) rfl ?_
                refine lv_pop hx hb dX8_declaration_122 rfl ?_
                refine lv_aload_n hx hb dX8_declaration_123 rfl (lv_at hl 0 rfl) ?_
                refine W_size (fun hz1 hz2 => ?_)
                refine vx_ret ?_
                have hz763 : WPr G K735 g471 := hwp740
                have hz764 : PgS G K735 g471 (a 1) pq dr ml (nd + 1) nm cp it s9 := hps741
                have hz765 : K735.1 r469 = 4 := hf737
                have hz766 : at9 + 3 ≤ ((((((at9 + 1) + 1) + r604) + 1) + r750) + 1) ∧ ((((((at9 + 1) + 1) + r604) + 1) + r750) + 1) ≤ sz := (by omega)
                have hz767 : PzK G K735 g471 nm it none := hpz742
                have hz768 : g471 5 r469 = 0 := h475
                have hz769 : NwT (B 7) sz (B 10) (B 10) K K735 at9 ((((((at9 + 1) + 1) + r604) + 1) + r750) + 1) := (NwT.le htk739 (by omega))
                have hO : OKP G h0 a (upd (upd F 2 (nI sz)) 9 (nI ((((((at9 + 1) + 1) + r604) + 1) + r750) + 1))) (updR R 1 (.ref pq)) Z B J K735 w := hO.to rfl
                refine W.widen (k := 6) (n := 31) (by omega) (by omega) ?_
                have hzz1 : H.size ≤ s.heap.size + (5) := (by have z : 5 ≤ 5 := (by omega); omega)
                have hzz2 : hSl H ≤ hSl s.heap + (25) := (by have z : 25 ≤ 25 := (by omega); omega)
                exact W.aret (v := .ref r469) hx hb hr (Or.inl ⟨_, rfl⟩) (Or.inr ⟨_, rfl⟩) (fun t99 ht99 hW99 => ⟨⟨_, (w, (K735, g471, r469, ((((((at9 + 1) + 1) + r604) + 1) + r750) + 1), (nd + 1))), rfl, ⟨rfl, hz763, hz764, hz765, hz766, hz767, hz768, hz769, hO⟩, by rw [ht99]; exact hP, hD, by rw [ht99]; exact hzz1, by rw [ht99]; exact hzz2⟩, hS.F ht99⟩) hS.2.2 dX8_declaration_124
              · have n770 : ¬ (r750 = 0) := fun h9 => c754 ((nI_eq (a := r750) (b := 0) (by omega) (by omega)).mpr h9)
                refine lv_aload_n hx hb dX8_declaration_111 rfl (lv_at hl 2 rfl) ?_
                refine lv_aload_n hx hb dX8_declaration_112 rfl (lv_at hl 0 rfl) ?_
                have hO : OKP G h0 a (upd (upd (upd (upd (upd F 2 (nI sz)) 9 (nI at9)) 9 (nI (((((at9 + 1) + 1) + r604) + 1) + r750))) 2 (nI sz)) 9 (nI (((((at9 + 1) + 1) + r604) + 1) + r750))) (updR (updR R 1 (.ref pq)) 1 (.ref pq)) Z B J K735 w := hO.to rfl
                obtain ⟨_, qr774, hqr775⟩ := hO.2.1 23 _ (sg_23 G h0 a _ _ _ _ _)
                refine pn_V0 (G := G) (As := [.ref r469]) (rest := []) hx hb hml hown hq hE hX pX0_al hP hD hS hA hl.1 (P_listI l G h0 a (upd (upd (upd F 2 (nI sz)) 9 (nI at9)) 9 (nI (((((at9 + 1) + 1) + r604) + 1) + r750))) (updR R 1 (.ref pq)) Z B J K735 w pq dr ml (nd + 1) nm cp it s9 r469 (((((at9 + 1) + 1) + r604) + 1) + r750) sz g471 (by omega) (by omega) hwp740 hps741 hpz742 hf737 h475 hO hl0) (gV pw_815 pw_816 pw_817 pw_796 pw_800) hV_X8_listInterfaces qr774 5 hqr775 rfl rfl rfl (Nat.le_of_ble_eq_true rfl) dX8_declaration_113 ⟨(by show 5 + 1 ≤ 6; omega), (by show 25 + 6 ≤ 31; omega)⟩ ⟨Nat.le_of_ble_eq_true rfl, Nat.le_of_ble_eq_true rfl⟩ (fun v773 u771 H locs hw772 hP hD hS => ?_) (fun ux ce9 q9 H9 locs9 hux hP9 hD9 hS9 hce hcv hcl => pb_out ux (ThQ.up (Thx.same (Thx.same (Thx.f Thx.rfl (by omega)) rfl) rfl) (show RhX (updR R 1 (.ref pq)) (updR (updR R 1 (.ref pq)) 1 (.ref pq)) from fun k9 hk9 => by unfold updR; simp only [show ¬ k9 = 1 by omega, show ¬ k9 = 2 by omega, show ¬ k9 = 3 by omega, show ¬ k9 = 4 by omega, if_false]) hux) hnt hlocks hce hcv hcl hP9 hD9 hS9 (by show 5 + 1 ≤ 6; omega) (by show 25 + 6 ≤ 31; omega))
                obtain ⟨w, K776, g777, at778⟩ := u771
                obtain ⟨hw772, h779, h780, h781, h782, h783, h784, h785, h786, hO⟩ := hw772
                have h779 : WPr G K776 g777 := h779
                have h780 : PgS G K776 g777 (a 1) pq dr ml (nd + 1) nm cp it s9 := h780
                have h781 : K776.1 r469 = 4 := h781
                have h782 : (((((at9 + 1) + 1) + r604) + 1) + r750) + 1 ≤ at778 ∧ at778 ≤ sz := h782
                have h783 : PzK G K776 g777 nm it none := h783
                have h784 : K776.2.1 18 r469 = K735.2.1 18 r469 := h784
                have h785 : g777 5 r469 = g471 5 r469 := h785
                have h786 : VaT K735 K776 := h786
                obtain rfl : v773 = none := hw772
                have hO : OKP G h0 a (upd (upd F 2 (nI sz)) 9 (nI at778)) (updR R 1 (.ref pq)) Z B J K776 w := hO.to rfl
                refine W.widen (k := 5) (n := 25) (by show 5 + 0 ≤ 5; omega) (by show 25 + 0 ≤ 25; omega) ?_
                refine W.eq (g2 := F0 m 116 ls []) rfl ?_
                have htk787 : NwT (B 7) sz (B 10) (B 10) K K776 at9 (((((at9 + 1) + 1) + r604) + 1) + r750) := (NwT.call (NwT.le htk739 (show _ ≤ (((((at9 + 1) + 1) + r604) + 1) + r750) by omega)) (h786 (B 7) (B 10) sz (((((at9 + 1) + 1) + r604) + 1) + r750)) (Nat.le_refl _))
                refine lv_aload_n hx hb dX8_declaration_116 rfl (lv_at hl 2 rfl) ?_
                refine lv_bipush (v := 32) hx hb dX8_declaration_117 (by decide) ?_
                have hO : OKW G h0 a (upd (upd (upd (upd (upd F 2 (nI sz)) 9 (nI at9)) 9 (nI at778)) 2 (nI sz)) 9 (nI at778)) (updR R 1 (.ref pq)) Z B J K776.1 (fun q99 x99 => x99 = rep G a K776 q99) w := hO.to rfl
                obtain ⟨_, qr791, hqr792⟩ := hO.2.1 23 _ (sg_23 G h0 a _ _ _ _ _)
                refine pn_V0 (G := G) (As := [.int 32]) (rest := []) hx hb hml hown hq hE hX pX0_al hP hD hS hA hl.1 (P_take l G h0 a (upd (upd (upd F 2 (nI sz)) 9 (nI at9)) 9 (nI at778)) (updR R 1 (.ref pq)) Z B J K776.1 (fun q99 x99 => x99 = rep G a K776 q99) w 32 at778 sz (by omega) (by omega) (by decide) hO hl0) (gV pw_793 pw_794 pw_795 pw_796 pw_781) hV_X8_take qr791 5 hqr792 rfl rfl rfl (Nat.le_of_ble_eq_true rfl) dX8_declaration_119 ⟨(by show 5 + 1 ≤ 6; omega), (by show 25 + 6 ≤ 31; omega)⟩ ⟨Nat.le_of_ble_eq_true rfl, Nat.le_of_ble_eq_true rfl⟩ (fun v790 u788 H locs hw789 hP hD hS => ?_) (fun ux ce9 q9 H9 locs9 hux hP9 hD9 hS9 hce hcv hcl => pb_out ux (ThQ.up (Thx.same (Thx.same (Thx.f Thx.rfl (by omega)) rfl) rfl) RhX.rfl hux) hnt hlocks hce hcv hcl hP9 hD9 hS9 (by show 5 + 1 ≤ 6; omega) (by show 25 + 6 ≤ 31; omega))
                obtain ⟨w, _⟩ := u788
                obtain ⟨hw789, h793, h794, hO⟩ := hw789
                have h793 : at778 + 1 ≤ sz := h793
                have h794 : tkN ((B 7)) sz 67 (nI at778) = 32 := h794
                obtain rfl : v790 = some (.int (nI at778)) := hw789
                have hO : OKP G h0 a (upd (upd F 2 (nI sz)) 9 (nI (at778 + 1))) (updR R 1 (.ref pq)) Z B J K776 w := hO.to rfl
                refine W.widen (k := 5) (n := 25) (by show 5 + 0 ≤ 5; omega) (by show 25 + 0 ≤ 25; omega) ?_
                refine W.eq (g2 := F0 m 122 ls [.int (nI at778)]) rfl ?_
                refine lv_pop hx hb dX8_declaration_122 rfl ?_
                refine lv_aload_n hx hb dX8_declaration_123 rfl (lv_at hl 0 rfl) ?_
                refine W_size (fun hz1 hz2 => ?_)
                refine vx_ret ?_
                have hz795 : WPr G K776 g777 := h779
                have hz796 : PgS G K776 g777 (a 1) pq dr ml (nd + 1) nm cp it s9 := h780
                have hz797 : K776.1 r469 = 4 := h781
                have hz798 : at9 + 3 ≤ (at778 + 1) ∧ (at778 + 1) ≤ sz := (by omega)
                have hz799 : PzK G K776 g777 nm it none := h783
                have hz800 : g777 5 r469 = 0 := (h785.trans h475)
                have hz801 : NwT (B 7) sz (B 10) (B 10) K K776 at9 (at778 + 1) := (NwT.le htk787 (by omega))
                have hO : OKP G h0 a (upd (upd F 2 (nI sz)) 9 (nI (at778 + 1))) (updR R 1 (.ref pq)) Z B J K776 w := hO.to rfl
                refine W.widen (k := 6) (n := 31) (by omega) (by omega) ?_
                have hzz1 : H.size ≤ s.heap.size + (5) := (by have z : 5 ≤ 5 := (by omega); omega)
                have hzz2 : hSl H ≤ hSl s.heap + (25) := (by have z : 25 ≤ 25 := (by omega); omega)
                exact W.aret (v := .ref r469) hx hb hr (Or.inl ⟨_, rfl⟩) (Or.inr ⟨_, rfl⟩) (fun t99 ht99 hW99 => ⟨⟨_, (w, (K776, g777, r469, (at778 + 1), (nd + 1))), rfl, ⟨rfl, hz795, hz796, hz797, hz798, hz799, hz800, hz801, hO⟩, by rw [ht99]; exact hP, hD, by rw [ht99]; exact hzz1, by rw [ht99]; exact hzz2⟩, hS.F ht99⟩) hS.2.2 dX8_declaration_124
            · have n802 : ¬ (r6 = 0) := fun h9 => c743 ((nI_eq (a := r6) (b := 0) (by omega) (by omega)).mpr h9)
              refine lv_bipush (v := 7) hx hb dX8_declaration_98 (by decide) ?_
              refine lv_goto (tgt := 105) hx hb dX8_declaration_100 (by decide) ?_
              have hO : OKW G h0 a (upd (upd (upd (upd F 2 (nI sz)) 9 (nI ((((at9 + 1) + 1) + r604) + 1))) 2 (nI sz)) 9 (nI ((((at9 + 1) + 1) + r604) + 1))) (updR R 1 (.ref pq)) Z B J K735.1 (fun q99 x99 => x99 = rep G a K735 q99) w := hO.to rfl
              obtain ⟨_, qr806, hqr807⟩ := hO.2.1 23 _ (sg_23 G h0 a _ _ _ _ _)
              refine pc_V0 (G := G) (As := [.int 7]) (rest := []) hx hb hml hown hq hE hX pX0_al hP hD hS hA hl.1 (P_takeIf l G h0 a (upd (upd F 2 (nI sz)) 9 (nI ((((at9 + 1) + 1) + r604) + 1))) (updR R 1 (.ref pq)) Z B J K735.1 (fun q99 x99 => x99 = rep G a K735 q99) w 7 ((((at9 + 1) + 1) + r604) + 1) sz (by omega) (by omega) (by decide) hO) (gV pw_797 pw_798 pw_799 pw_796 pw_789) hV_X8_takeIf qr806 5 hqr807 rfl rfl rfl (Nat.le_of_ble_eq_true rfl) dX8_declaration_105 ⟨(by show 5 + 0 ≤ 6; omega), (by show 25 + 0 ≤ 31; omega)⟩ ⟨Nat.le_of_ble_eq_true rfl, Nat.le_of_ble_eq_true rfl⟩ (fun v805 u803 H locs hw804 hP hD hS => ?_)
              obtain ⟨w, r808⟩ := u803
              obtain ⟨hw804, h809, h810, h811, hO⟩ := hw804
              have h809 : r808 ≤ 1 := h809
              have h810 : ((((at9 + 1) + 1) + r604) + 1) + r808 ≤ sz := h810
              have h811 : SeQ ((B 7)) sz ((((at9 + 1) + 1) + r604) + 1) 7 r808 := h811
              obtain rfl : v805 = some (.int (nI r808)) := hw804
              have hO : OKP G h0 a (upd (upd F 2 (nI sz)) 9 (nI (((((at9 + 1) + 1) + r604) + 1) + r808))) (updR R 1 (.ref pq)) Z B J K735 w := hO.to rfl
              refine W.widen (k := 5) (n := 25) (by show 5 + 0 ≤ 5; omega) (by show 25 + 0 ≤ 25; omega) ?_
              refine W.eq (g2 := F0 m 108 ls [.int (nI r808)]) rfl ?_
              refine lv_if_eq (tgt := 116) hx hb dX8_declaration_108 (by decide) (fun c812 => ?_) (fun c812 => ?_)
              · have n813 : r808 = 0 := (nI_eq (a := r808) (b := 0) (by omega) (by omega)).mp c812
                refine lv_aload_n hx hb dX8_declaration_116 rfl (lv_at hl 2 rfl) ?_
                refine lv_bipush (v := 32) hx hb dX8_declaration_117 (by decide) ?_
                have hO : OKW G h0 a (upd (upd (upd (upd (upd F 2 (nI sz)) 9 (nI at9)) 9 (nI (((((at9 + 1) + 1) + r604) + 1) + r808))) 2 (nI sz)) 9 (nI (((((at9 + 1) + 1) + r604) + 1) + r808))) (updR R 1 (.ref pq)) Z B J K735.1 (fun q99 x99 => x99 = rep G a K735 q99) w := hO.to rfl
                obtain ⟨_, qr817, hqr818⟩ := hO.2.1 23 _ (sg_23 G h0 a _ _ _ _ _)
                refine pn_V0 (G := G) (As := [.int 32]) (rest := []) hx hb hml hown hq hE hX pX0_al hP hD hS hA hl.1 (P_take l G h0 a (upd (upd (upd F 2 (nI sz)) 9 (nI at9)) 9 (nI (((((at9 + 1) + 1) + r604) + 1) + r808))) (updR R 1 (.ref pq)) Z B J K735.1 (fun q99 x99 => x99 = rep G a K735 q99) w 32 (((((at9 + 1) + 1) + r604) + 1) + r808) sz (by omega) (by omega) (by decide) hO hl0) (gV pw_793 pw_794 pw_795 pw_796 pw_781) hV_X8_take qr817 5 hqr818 rfl rfl rfl (Nat.le_of_ble_eq_true rfl) dX8_declaration_119 ⟨(by show 5 + 1 ≤ 6; omega), (by show 25 + 6 ≤ 31; omega)⟩ ⟨Nat.le_of_ble_eq_true rfl, Nat.le_of_ble_eq_true rfl⟩ (fun v816 u814 H locs hw815 hP hD hS => ?_) (fun ux ce9 q9 H9 locs9 hux hP9 hD9 hS9 hce hcv hcl => pb_out ux (ThQ.up (Thx.same (Thx.same (Thx.f Thx.rfl (by omega)) rfl) rfl) RhX.rfl hux) hnt hlocks hce hcv hcl hP9 hD9 hS9 (by show 5 + 1 ≤ 6; omega) (by show 25 + 6 ≤ 31; omega))
                obtain ⟨w, _⟩ := u814
                obtain ⟨hw815, h819, h820, hO⟩ := hw815
                have h819 : (((((at9 + 1) + 1) + r604) + 1) + r808) + 1 ≤ sz := h819
                have h820 : tkN ((B 7)) sz 67 (nI (((((at9 + 1) + 1) + r604) + 1) + r808)) = 32 := h820
                obtain rfl : v816 = some (.int (nI (((((at9 + 1) + 1) + r604) + 1) + r808))) := hw815
                have hO : OKP G h0 a (upd (upd F 2 (nI sz)) 9 (nI ((((((at9 + 1) + 1) + r604) + 1) + r808) + 1))) (updR R 1 (.ref pq)) Z B J K735 w := hO.to rfl
                refine W.widen (k := 5) (n := 25) (by show 5 + 0 ≤ 5; omega) (by show 25 + 0 ≤ 25; omega) ?_
                refine W.eq (g2 := F0 m 122 ls [.int (nI (((((at9 + 1) + 1) + r604) + 1) + r808))]) rfl ?_
                refine lv_pop hx hb dX8_declaration_122 rfl ?_
                refine lv_aload_n hx hb dX8_declaration_123 rfl (lv_at hl 0 rfl) ?_
                refine W_size (fun hz1 hz2 => ?_)
                refine vx_ret ?_
                have hz821 : WPr G K735 g471 := hwp740
                have hz822 : PgS G K735 g471 (a 1) pq dr ml (nd + 1) nm cp it s9 := hps741
                have hz823 : K735.1 r469 = 4 := hf737
                have hz824 : at9 + 3 ≤ ((((((at9 + 1) + 1) + r604) + 1) + r808) + 1) ∧ ((((((at9 + 1) + 1) + r604) + 1) + r808) + 1) ≤ sz := (by omega)
                have hz825 : PzK G K735 g471 nm it none := hpz742
                have hz826 : g471 5 r469 = 0 := h475
                have hz827 : NwT (B 7) sz (B 10) (B 10) K K735 at9 ((((((at9 + 1) + 1) + r604) + 1) + r808) + 1) := (NwT.le htk739 (by omega))
                have hO : OKP G h0 a (upd (upd F 2 (nI sz)) 9 (nI ((((((at9 + 1) + 1) + r604) + 1) + r808) + 1))) (updR R 1 (.ref pq)) Z B J K735 w := hO.to rfl
                refine W.widen (k := 6) (n := 31) (by omega) (by omega) ?_
                have hzz1 : H.size ≤ s.heap.size + (5) := (by have z : 5 ≤ 5 := (by omega); omega)
                have hzz2 : hSl H ≤ hSl s.heap + (25) := (by have z : 25 ≤ 25 := (by omega); omega)
                exact W.aret (v := .ref r469) hx hb hr (Or.inl ⟨_, rfl⟩) (Or.inr ⟨_, rfl⟩) (fun t99 ht99 hW99 => ⟨⟨_, (w, (K735, g471, r469, ((((((at9 + 1) + 1) + r604) + 1) + r808) + 1), (nd + 1))), rfl, ⟨rfl, hz821, hz822, hz823, hz824, hz825, hz826, hz827, hO⟩, by rw [ht99]; exact hP, hD, by rw [ht99]; exact hzz1, by rw [ht99]; exact hzz2⟩, hS.F ht99⟩) hS.2.2 dX8_declaration_124
              · have n828 : ¬ (r808 = 0) := fun h9 => c812 ((nI_eq (a := r808) (b := 0) (by omega) (by omega)).mpr h9)
                refine lv_aload_n hx hb dX8_declaration_111 rfl (lv_at hl 2 rfl) ?_
                refine lv_aload_n hx hb dX8_declaration_112 rfl (lv_at hl 0 rfl) ?_
                have hO : OKP G h0 a (upd (upd (upd (upd (upd F 2 (nI sz)) 9 (nI at9)) 9 (nI (((((at9 + 1) + 1) + r604) + 1) + r808))) 2 (nI sz)) 9 (nI (((((at9 + 1) + 1) + r604) + 1) + r808))) (updR (updR R 1 (.ref pq)) 1 (.ref pq)) Z B J K735 w := hO.to rfl
                obtain ⟨_, qr832, hqr833⟩ := hO.2.1 23 _ (sg_23 G h0 a _ _ _ _ _)
                refine pn_V0 (G := G) (As := [.ref r469]) (rest := []) hx hb hml hown hq hE hX pX0_al hP hD hS hA hl.1 (P_listI l G h0 a (upd (upd (upd F 2 (nI sz)) 9 (nI at9)) 9 (nI (((((at9 + 1) + 1) + r604) + 1) + r808))) (updR R 1 (.ref pq)) Z B J K735 w pq dr ml (nd + 1) nm cp it s9 r469 (((((at9 + 1) + 1) + r604) + 1) + r808) sz g471 (by omega) (by omega) hwp740 hps741 hpz742 hf737 h475 hO hl0) (gV pw_815 pw_816 pw_817 pw_796 pw_800) hV_X8_listInterfaces qr832 5 hqr833 rfl rfl rfl (Nat.le_of_ble_eq_true rfl) dX8_declaration_113 ⟨(by show 5 + 1 ≤ 6; omega), (by show 25 + 6 ≤ 31; omega)⟩ ⟨Nat.le_of_ble_eq_true rfl, Nat.le_of_ble_eq_true rfl⟩ (fun v831 u829 H locs hw830 hP hD hS => ?_) (fun ux ce9 q9 H9 locs9 hux hP9 hD9 hS9 hce hcv hcl => pb_out ux (ThQ.up (Thx.same (Thx.same (Thx.f Thx.rfl (by omega)) rfl) rfl) (show RhX (updR R 1 (.ref pq)) (updR (updR R 1 (.ref pq)) 1 (.ref pq)) from fun k9 hk9 => by unfold updR; simp only [show ¬ k9 = 1 by omega, show ¬ k9 = 2 by omega, show ¬ k9 = 3 by omega, show ¬ k9 = 4 by omega, if_false]) hux) hnt hlocks hce hcv hcl hP9 hD9 hS9 (by show 5 + 1 ≤ 6; omega) (by show 25 + 6 ≤ 31; omega))
                obtain ⟨w, K834, g835, at836⟩ := u829
                obtain ⟨hw830, h837, h838, h839, h840, h841, h842, h843, h844, hO⟩ := hw830
                have h837 : WPr G K834 g835 := h837
                have h838 : PgS G K834 g835 (a 1) pq dr ml (nd + 1) nm cp it s9 := h838
                have h839 : K834.1 r469 = 4 := h839
                have h840 : (((((at9 + 1) + 1) + r604) + 1) + r808) + 1 ≤ at836 ∧ at836 ≤ sz := h840
                have h841 : PzK G K834 g835 nm it none := h841
                have h842 : K834.2.1 18 r469 = K735.2.1 18 r469 := h842
                have h843 : g835 5 r469 = g471 5 r469 := h843
                have h844 : VaT K735 K834 := h844
                obtain rfl : v831 = none := hw830
                have hO : OKP G h0 a (upd (upd F 2 (nI sz)) 9 (nI at836)) (updR R 1 (.ref pq)) Z B J K834 w := hO.to rfl
                refine W.widen (k := 5) (n := 25) (by show 5 + 0 ≤ 5; omega) (by show 25 + 0 ≤ 25; omega) ?_
                refine W.eq (g2 := F0 m 116 ls []) rfl ?_
                have htk845 : NwT (B 7) sz (B 10) (B 10) K K834 at9 (((((at9 + 1) + 1) + r604) + 1) + r808) := (NwT.call (NwT.le htk739 (show _ ≤ (((((at9 + 1) + 1) + r604) + 1) + r808) by omega)) (h844 (B 7) (B 10) sz (((((at9 + 1) + 1) + r604) + 1) + r808)) (Nat.le_refl _))
                refine lv_aload_n hx hb dX8_declaration_116 rfl (lv_at hl 2 rfl) ?_
                refine lv_bipush (v := 32) hx hb dX8_declaration_117 (by decide) ?_
                have hO : OKW G h0 a (upd (upd (upd (upd (upd F 2 (nI sz)) 9 (nI at9)) 9 (nI at836)) 2 (nI sz)) 9 (nI at836)) (updR R 1 (.ref pq)) Z B J K834.1 (fun q99 x99 => x99 = rep G a K834 q99) w := hO.to rfl
                obtain ⟨_, qr849, hqr850⟩ := hO.2.1 23 _ (sg_23 G h0 a _ _ _ _ _)
                refine pn_V0 (G := G) (As := [.int 32]) (rest := []) hx hb hml hown hq hE hX pX0_al hP hD hS hA hl.1 (P_take l G h0 a (upd (upd (upd F 2 (nI sz)) 9 (nI at9)) 9 (nI at836)) (updR R 1 (.ref pq)) Z B J K834.1 (fun q99 x99 => x99 = rep G a K834 q99) w 32 at836 sz (by omega) (by omega) (by decide) hO hl0) (gV pw_793 pw_794 pw_795 pw_796 pw_781) hV_X8_take qr849 5 hqr850 rfl rfl rfl (Nat.le_of_ble_eq_true rfl) dX8_declaration_119 ⟨(by show 5 + 1 ≤ 6; omega), (by show 25 + 6 ≤ 31; omega)⟩ ⟨Nat.le_of_ble_eq_true rfl, Nat.le_of_ble_eq_true rfl⟩ (fun v848 u846 H locs hw847 hP hD hS => ?_) (fun ux ce9 q9 H9 locs9 hux hP9 hD9 hS9 hce hcv hcl => pb_out ux (ThQ.up (Thx.same (Thx.same (Thx.f Thx.rfl (by omega)) rfl) rfl) RhX.rfl hux) hnt hlocks hce hcv hcl hP9 hD9 hS9 (by show 5 + 1 ≤ 6; omega) (by show 25 + 6 ≤ 31; omega))
                obtain ⟨w, _⟩ := u846
                obtain ⟨hw847, h851, h852, hO⟩ := hw847
                have h851 : at836 + 1 ≤ sz := h851
                have h852 : tkN ((B 7)) sz 67 (nI at836) = 32 := h852
                obtain rfl : v848 = some (.int (nI at836)) := hw847
                have hO : OKP G h0 a (upd (upd F 2 (nI sz)) 9 (nI (at836 + 1))) (updR R 1 (.ref pq)) Z B J K834 w := hO.to rfl
                refine W.widen (k := 5) (n := 25) (by show 5 + 0 ≤ 5; omega) (by show 25 + 0 ≤ 25; omega) ?_
                refine W.eq (g2 := F0 m 122 ls [.int (nI at836)]) rfl ?_
                refine lv_pop hx hb dX8_declaration_122 rfl ?_
                refine lv_aload_n hx hb dX8_declaration_123 rfl (lv_at hl 0 rfl) ?_
                refine W_size (fun hz1 hz2 => ?_)
                refine vx_ret ?_
                have hz853 : WPr G K834 g835 := h837
                have hz854 : PgS G K834 g835 (a 1) pq dr ml (nd + 1) nm cp it s9 := h838
                have hz855 : K834.1 r469 = 4 := h839
                have hz856 : at9 + 3 ≤ (at836 + 1) ∧ (at836 + 1) ≤ sz := (by omega)
                have hz857 : PzK G K834 g835 nm it none := h841
                have hz858 : g835 5 r469 = 0 := (h843.trans h475)
                have hz859 : NwT (B 7) sz (B 10) (B 10) K K834 at9 (at836 + 1) := (NwT.le htk845 (by omega))
                have hO : OKP G h0 a (upd (upd F 2 (nI sz)) 9 (nI (at836 + 1))) (updR R 1 (.ref pq)) Z B J K834 w := hO.to rfl
                refine W.widen (k := 6) (n := 31) (by omega) (by omega) ?_
                have hzz1 : H.size ≤ s.heap.size + (5) := (by have z : 5 ≤ 5 := (by omega); omega)
                have hzz2 : hSl H ≤ hSl s.heap + (25) := (by have z : 25 ≤ 25 := (by omega); omega)
                exact W.aret (v := .ref r469) hx hb hr (Or.inl ⟨_, rfl⟩) (Or.inr ⟨_, rfl⟩) (fun t99 ht99 hW99 => ⟨⟨_, (w, (K834, g835, r469, (at836 + 1), (nd + 1))), rfl, ⟨rfl, hz853, hz854, hz855, hz856, hz857, hz858, hz859, hO⟩, by rw [ht99]; exact hP, hD, by rw [ht99]; exact hzz1, by rw [ht99]; exact hzz2⟩, hS.F ht99⟩) hS.2.2 dX8_declaration_124
      · have n860 : ¬ (r450 = 0) := fun h9 => c453 ((nI_eq (a := r450) (b := 0) (by omega) (by omega)).mpr h9)
        refine lv_aload_n hx hb dX8_declaration_33 rfl (lv_at hl 1 rfl) ?_
        refine c_get (v := .ref (a 1)) (C := RX8) (Tc := TX8) (N := 5) (ci := 5) hx hb hq pin_wsX80 hown hE hP hO 23 (sg_23 G h0 a _ _ _ _ _) rfl 0 (by decide) (hq _ pw_774) (fun _ h9 => h9) rfl dX8_declaration_34 ?_
        refine lv_iconst (v := 2) hx hb dX8_declaration_37 (by decide) ?_
        refine lv_aload_n hx hb dX8_declaration_38 rfl (lv_at hl 1 rfl) ?_
        refine c_get (v := .int (nI at9)) (C := RX8) (Tc := TX8) (N := 5) (ci := 5) hx hb hq pin_wsX80 hown hE hP hO 23 (sg_23 G h0 a _ _ _ _ _) rfl 2 (by decide) (hq _ pw_776) (fun _ h9 => h9) rfl dX8_declaration_39 ?_
        have hO : OKW G h0 a (upd (upd (upd F 2 (nI sz)) 9 (nI at9)) 2 (nI sz)) (updR R 1 (.ref pq)) Z B J K.1 (fun q99 x99 => x99 = rep G a K q99) w := hO.to rfl
        obtain ⟨_, qr864, hqr865⟩ := hO.2.1 2 _ (sg_2 G h0 a _ _ _ _ _)
        refine pn_V0 (G := G) (As := [.int 2, .int (nI at9)]) (rest := []) hx hb hml hown hq hE hX pX0_al hP hD hS hA hl.1 (K_fail l G h0 a (upd (upd F 2 (nI sz)) 9 (nI at9)) (updR R 1 (.ref pq)) Z B J K.1 (fun q99 x99 => x99 = rep G a K q99) w 2 (nI at9) sz (by omega) hO hl0) (gV pw_779 pw_65 pw_66 pw_59 pw_43) hV_X10_fail qr864 7 hqr865 rfl rfl rfl (Nat.le_of_ble_eq_true rfl) dX8_declaration_42 ⟨(by show 0 + 1 ≤ 6; omega), (by show 0 + 6 ≤ 31; omega)⟩ ⟨Nat.le_of_ble_eq_true rfl, Nat.le_of_ble_eq_true rfl⟩ (fun v863 u861 H locs hw862 hP hD hS => hw862.elim) (fun ux ce9 q9 H9 locs9 hux hP9 hD9 hS9 hce hcv hcl => pb_out ux (ThQ.up (Thx.same Thx.rfl rfl) RhX.rfl hux) hnt hlocks hce hcv hcl hP9 hD9 hS9 (by show 0 + 1 ≤ 6; omega) (by show 0 + 6 ≤ 31; omega))
    · have n866 : r439 = 0 := (nI_eq (a := r439) (b := 0) (by omega) (by omega)).mp c443
      refine lv_aload_n hx hb dX8_declaration_19 rfl (lv_at hl 1 rfl) ?_
      have hO : OKW G h0 a (upd (upd (upd (upd F 2 (nI sz)) 9 (nI at9)) 2 (nI sz)) 9 (nI at9)) (updR R 1 (.ref pq)) Z B J K.1 (fun q99 x99 => x99 = rep G a K q99) w := hO.to rfl
      obtain ⟨_, qr870, hqr871⟩ := hO.2.1 23 _ (sg_23 G h0 a _ _ _ _ _)
      refine pn_V0 (G := G) (As := []) (rest := []) hx hb hml hown hq hE hX pX0_al hP hD hS hA hl.1 (P_refuse l G h0 a (upd (upd F 2 (nI sz)) 9 (nI at9)) (updR R 1 (.ref pq)) Z B J K.1 (fun q99 x99 => x99 = rep G a K q99) w at9 sz (by omega) (by omega) hO hl0) (gV pw_806 pw_807 pw_808 pw_796 pw_778) hV_X8_refuse qr870 5 hqr871 rfl rfl rfl (Nat.le_of_ble_eq_true rfl) dX8_declaration_20 ⟨(by show 0 + 1 ≤ 6; omega), (by show 0 + 6 ≤ 31; omega)⟩ ⟨Nat.le_of_ble_eq_true rfl, Nat.le_of_ble_eq_true rfl⟩ (fun v869 u867 H locs hw868 hP hD hS => hw868.elim) (fun ux ce9 q9 H9 locs9 hux hP9 hD9 hS9 hce hcv hcl => pb_out ux (ThQ.up (Thx.same (Thx.same Thx.rfl rfl) rfl) RhX.rfl hux) hnt hlocks hce hcv hcl hP9 hD9 hS9 (by show 0 + 1 ≤ 6; omega) (by show 0 + 6 ≤ 31; omega))
