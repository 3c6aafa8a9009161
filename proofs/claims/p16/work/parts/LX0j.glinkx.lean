set_option maxHeartbeats 60000000 in
set_option maxRecDepth 100000 in
theorem N_link (l : Launch) (G : pT) (h0 : Nat) (a : Nat → Nat) (F : Nat → Int32) (R : Nat → Value) (Z : Int64) (B : Nat → Nat → Int32) (J : Nat → Nat → Int64) (K : PK) (w : va_W) (pq : Nat) (dr : Nat) (ml : Nat) (nd : Nat) (nm : Nat) (cp : Nat) (it : Nat → Nat) (s9 : Nat) (sz : Nat) (g : Nat → Nat → Nat) (ro9 : Nat → Int32) (hsz : sz ≤ 5000) (hwp : WPr G K g) (hps : PgS G K g (a 1) pq dr ml nd nm cp it s9) (hr1 : Rd1 G K dr nd (B 9) ro9 sz) (hO : OKP G h0 a (upd F 2 (nI sz)) R Z B J K w) : PM l G pX0 yX9_link cX9_link 4 none ({ frames := 3, cells := 0, slots := 0, locals := 82 }) [.ref pq] w (fun (v : Option Value) (u : va_W × (PK × (Nat → Int64))) => v = none ∧ (LkX K u.2.1) ∧ (WPr G u.2.1 g) ∧ (PgT G u.2.1 g (a 1) pq dr ml nd nm cp it s9) ∧ (AbF u.2.1 dr nd u.2.2) ∧ (PaB u.2.1 dr nd u.2.2) ∧ (WCl u.2.2 nd nd) ∧ (Bi0 u.2.2 7) ∧ (CAb u.2.1 dr nd u.2.2 nd) ∧ (PaX u.2.1 dr nd nd) ∧ (OKP G h0 a (upd F 2 (nI sz)) R Z B J u.2.1 u.1)) (fun u => u.1) := by
  intro sz
  refine Met.ofW (cc := cX9_link) (maxL := 4) (ret := none) (by decide) rfl ?_
  intro p e s m args below meth c s₁ B9 hml hv
  obtain ⟨rfl, hsz, hP, hD0, hE, hX⟩ := hv
  have hx := B9.exec
  have hb := B9.bytes
  have hr := B9.returns
  have hts := atoms_spec (ws := Cond.code yX9_link cX9_link 4 none :: pw) B9.pre
  have hq : ∀ w ∈ pw, w.before _ s = true := fun w h => hts w (List.mem_cons_of_mem _ h)
  have hown : s.vm.findClass RX9 = some m.cls := findClass_of_methodNamed B9.named
  have hlocks := B9.notSynchronized
  subst hsz
  have hD := hD0.self (sz := s.heap.size)
  have hA : ∀ q : Nat, s.heap.size ≤ q → va_A w s.heap.size q := fun q h => Or.inr h
  generalize va_A w s.heap.size = A at hD hE hA ⊢
  have hS : va_S A s.heap s.heap [] := va_S.rf
  have hl := lv_entry ([.ref pq]) (n := 4) (Nat.le_of_ble_eq_true rfl)
  rw [lg_entry_eq]
  generalize (lg_sl ([.ref pq]) ++ List.replicate (4 - (lg_sl ([.ref pq])).length) Slot.unset).toArray = ls at hl ⊢
  have hl : lv_has ls 4 [(0, .ref pq)] := hl
  have hp1 := hps.1.1
  have hp2 := hps.1.2.1
  have hp3 := hps.1.2.2.1
  have hp4 := hps.1.2.2.2.1
  have hp5 := hps.1.2.2.2.2.1
  have hp6 := hps.1.2.2.2.2.2.1
  have hp8 := hps.1.2.2.2.2.2.2.2.1
  have hp9 := hps.1.2.2.2.2.2.2.2.2
  refine lv_iconst (v := 1) hx hb dX9_link_0 (by decide) ?_
  refine lv_istore_n (lv' := [(1, .int 1), (0, .ref pq)]) hx hb dX9_link_1 rfl hl (by decide) rfl (fun ls hl => ?_)
  have loop_2 : ∀ (n_2 : Nat) (i2 : Nat) (K2 : PK) (ab2 : Nat → Int64) (H : Heap) (locs : List Loc) (ls : Array Slot) (w : va_W), i2 ≤ nd → nd + 1 ≤ i2 + n_2 → (LkX K K2) → (WPr G K2 g) → (PgT G K2 g (a 1) pq dr ml nd nm cp it s9) → (AbF K2 dr nd ab2) → (PaB K2 dr nd ab2) → (PaU K2 dr nd i2) → (Bi0 ab2 i2) → (1 ≤ i2) → (CAb K2 dr nd ab2 i2) → (PaX K2 dr nd i2) → va_P G.1 pCl w H → va_D A w → va_S A s.heap H locs → OKP G h0 a (upd F 2 (nI sz)) R Z B J K2 w → lv_has ls 4 [(1, .int (nI i2)), (0, .ref pq)] → W p l e (headSpec (Cond.code yX9_link cX9_link 4 none :: pw) ({ frames := 3, cells := 0, slots := 0, locals := 82 } : Room)).room s m ([.ref pq] : List Value).toArray below meth c H locs 0 0 (MQ below (pQ G A (fun (v : Option Value) (u : va_W × (PK × (Nat → Int64))) => v = none ∧ (LkX K u.2.1) ∧ (WPr G u.2.1 g) ∧ (PgT G u.2.1 g (a 1) pq dr ml nd nm cp it s9) ∧ (AbF u.2.1 dr nd u.2.2) ∧ (PaB u.2.1 dr nd u.2.2) ∧ (WCl u.2.2 nd nd) ∧ (Bi0 u.2.2 7) ∧ (CAb u.2.1 dr nd u.2.2 nd) ∧ (PaX u.2.1 dr nd nd) ∧ (OKP G h0 a (upd F 2 (nI sz)) R Z B J u.2.1 u.1)) (fun u => u.1)) ([.ref pq] : List Value).toArray s ({ frames := 3, cells := 0, slots := 0, locals := 82 } : Room).cells ({ frames := 3, cells := 0, slots := 0, locals := 82 } : Room).slots A) (F0 m 2 ls []) := by
    intro n_2
    induction n_2 with
    | zero => intro i2 K2 ab2 H locs ls w hk_2 hn_2; omega
    | succ n_2 ih_2 =>
      intro i2 K2 ab2 H locs ls w hk_2 hn_2 hqx2 hqw2 hqp2 hqa2 hqb2 hpu2 hbi2 hi2 hcb2 hpx2 hP hD hS hO hl
      have hpx := hqp2.1
      have hp1 := hpx.1
      have hp2 := hpx.2.1
      have hp3 := hpx.2.2.1
      have hp4 := hpx.2.2.2.1
      have hp5 := hpx.2.2.2.2.1
      have hp6 := hpx.2.2.2.2.2.1
      have hp8 := hpx.2.2.2.2.2.2.2.1
      have hp9 := hpx.2.2.2.2.2.2.2.2
      refine lv_iload_n hx hb dX9_link_2 rfl (lv_at hl 0 rfl) ?_
      refine lv_aload_n hx hb dX9_link_3 rfl (lv_at hl 1 rfl) ?_
      refine p_get (v := .int (nI nd)) (C := RX9) (Tc := TX9) (N := 5) (ci := 6) hx hb hq pin_wsX90 hown hE hP hO (by rw [hp1]; decide) (rep_7 hp1) rfl 2 (by decide) (hq _ pw_14) (fun _ h9 => h9) (congrArg (fun z => some (Value.int z)) hp8) dX9_link_4 ?_
      refine lv_icmp_ge (tgt := 146) hx hb dX9_link_7 (by decide) (fun c1 => ?_) (fun c1 => ?_)
      · have n2 : nd ≤ i2 := (nI_leI (a := nd) (b := i2) (by omega) (by omega)).mp c1
        refine lv_iconst (v := 0) hx hb dX9_link_146 (by decide) ?_
        refine lv_istore_n (lv' := [(1, .int 0), (0, .ref pq)]) hx hb dX9_link_147 rfl hl (by decide) rfl (fun ls hl => ?_)
        have loop_5 : ∀ (n_5 : Nat) (m5 : Nat) (K5 : PK) (ab5 : Nat → Int64) (H : Heap) (locs : List Loc) (ls : Array Slot) (w : va_W), m5 ≤ nd → nd + 1 ≤ m5 + n_5 → (LkX K K5) → (WPr G K5 g) → (PgT G K5 g (a 1) pq dr ml nd nm cp it s9) → (AbF K5 dr nd ab5) → (PaB K5 dr nd ab5) → (Bi0 ab5 7) → (WCl ab5 nd m5) → (CAb K5 dr nd ab5 nd) → (PaX K5 dr nd nd) → va_P G.1 pCl w H → va_D A w → va_S A s.heap H locs → OKP G h0 a (upd F 2 (nI sz)) R Z B J K5 w → lv_has ls 4 [(1, .int (nI m5)), (0, .ref pq)] → W p l e (headSpec (Cond.code yX9_link cX9_link 4 none :: pw) ({ frames := 3, cells := 0, slots := 0, locals := 82 } : Room)).room s m ([.ref pq] : List Value).toArray below meth c H locs 0 0 (MQ below (pQ G A (fun (v : Option Value) (u : va_W × (PK × (Nat → Int64))) => v = none ∧ (LkX K u.2.1) ∧ (WPr G u.2.1 g) ∧ (PgT G u.2.1 g (a 1) pq dr ml nd nm cp it s9) ∧ (AbF u.2.1 dr nd u.2.2) ∧ (PaB u.2.1 dr nd u.2.2) ∧ (WCl u.2.2 nd nd) ∧ (Bi0 u.2.2 7) ∧ (CAb u.2.1 dr nd u.2.2 nd) ∧ (PaX u.2.1 dr nd nd) ∧ (OKP G h0 a (upd F 2 (nI sz)) R Z B J u.2.1 u.1)) (fun u => u.1)) ([.ref pq] : List Value).toArray s ({ frames := 3, cells := 0, slots := 0, locals := 82 } : Room).cells ({ frames := 3, cells := 0, slots := 0, locals := 82 } : Room).slots A) (F0 m 148 ls []) := by
          intro n_5
          induction n_5 with
          | zero => intro m5 K5 ab5 H locs ls w hk_5 hn_5; omega
          | succ n_5 ih_5 =>
            intro m5 K5 ab5 H locs ls w hk_5 hn_5 hqx5 hqw5 hqp5 hqa5 hqb5 hbi5 hcl5 hcb5 hpx5 hP hD hS hO hl
            have hpx := hqp5.1
            have hp1 := hpx.1
            have hp2 := hpx.2.1
            have hp3 := hpx.2.2.1
            have hp4 := hpx.2.2.2.1
            have hp5 := hpx.2.2.2.2.1
            have hp6 := hpx.2.2.2.2.2.1
            have hp8 := hpx.2.2.2.2.2.2.2.1
            have hp9 := hpx.2.2.2.2.2.2.2.2
            refine lv_iload_n hx hb dX9_link_148 rfl (lv_at hl 0 rfl) ?_
            refine lv_aload_n hx hb dX9_link_149 rfl (lv_at hl 1 rfl) ?_
            refine p_get (v := .int (nI nd)) (C := RX9) (Tc := TX9) (N := 5) (ci := 6) hx hb hq pin_wsX90 hown hE hP hO (by rw [hp1]; decide) (rep_7 hp1) rfl 2 (by decide) (hq _ pw_14) (fun _ h9 => h9) (congrArg (fun z => some (Value.int z)) hp8) dX9_link_150 ?_
            refine lv_icmp_ge (tgt := 210) hx hb dX9_link_153 (by decide) (fun c3 => ?_) (fun c3 => ?_)
            · have n4 : nd ≤ m5 := (nI_leI (a := nd) (b := m5) (by omega) (by omega)).mp c3
              have hz5 : LkX K K5 := hqx5
              have hz6 : WPr G K5 g := hqw5
              have hz7 : PgT G K5 g (a 1) pq dr ml nd nm cp it s9 := hqp5
              have hz8 : AbF K5 dr nd ab5 := hqa5
              have hz9 : PaB K5 dr nd ab5 := hqb5
              have hz10 : WCl ab5 nd nd := (WCl.all hcl5 (by omega))
              have hz11 : Bi0 ab5 7 := hbi5
              have hz12 : CAb K5 dr nd ab5 nd := hcb5
              have hz13 : PaX K5 dr nd nd := hpx5
              have hO : OKP G h0 a (upd F 2 (nI sz)) R Z B J K5 w := hO.to rfl
              exact W.vret hx hb hr (fun t99 ht99 hW99 => ⟨⟨_, (w, (K5, ab5)), rfl, ⟨rfl, hz5, hz6, hz7, hz8, hz9, hz10, hz11, hz12, hz13, hO⟩, by rw [ht99]; exact hP, hD⟩, hS.F ht99⟩) hS.2.2 dX9_link_210
            · have n14 : ¬ (nd ≤ m5) := fun h9 => c3 ((nI_leI (a := nd) (b := m5) (by omega) (by omega)).mpr h9)
              refine lv_iconst (v := 0) hx hb dX9_link_156 (by decide) ?_
              refine lv_istore_n (lv' := [(2, .int 0), (1, .int (nI m5)), (0, .ref pq)]) hx hb dX9_link_157 rfl hl (by decide) rfl (fun ls hl => ?_)
              have loop_6 : ∀ (n_6 : Nat) (k6 : Nat) (K6 : PK) (ab6 : Nat → Int64) (H : Heap) (locs : List Loc) (ls : Array Slot) (w : va_W), k6 ≤ nd → nd + 1 ≤ k6 + n_6 → (LkX K K6) → (WPr G K6 g) → (PgT G K6 g (a 1) pq dr ml nd nm cp it s9) → (AbF K6 dr nd ab6) → (PaB K6 dr nd ab6) → (Bi0 ab6 7) → (WMd ab5 ab6 nd m5 k6) → (CAb K6 dr nd ab6 nd) → (PaX K6 dr nd nd) → va_P G.1 pCl w H → va_D A w → va_S A s.heap H locs → OKP G h0 a (upd F 2 (nI sz)) R Z B J K6 w → lv_has ls 4 [(2, .int (nI k6)), (1, .int (nI m5)), (0, .ref pq)] → W p l e (headSpec (Cond.code yX9_link cX9_link 4 none :: pw) ({ frames := 3, cells := 0, slots := 0, locals := 82 } : Room)).room s m ([.ref pq] : List Value).toArray below meth c H locs 0 0 (MQ below (pQ G A (fun (v : Option Value) (u : va_W × (PK × (Nat → Int64))) => v = none ∧ (LkX K u.2.1) ∧ (WPr G u.2.1 g) ∧ (PgT G u.2.1 g (a 1) pq dr ml nd nm cp it s9) ∧ (AbF u.2.1 dr nd u.2.2) ∧ (PaB u.2.1 dr nd u.2.2) ∧ (WCl u.2.2 nd nd) ∧ (Bi0 u.2.2 7) ∧ (CAb u.2.1 dr nd u.2.2 nd) ∧ (PaX u.2.1 dr nd nd) ∧ (OKP G h0 a (upd F 2 (nI sz)) R Z B J u.2.1 u.1)) (fun u => u.1)) ([.ref pq] : List Value).toArray s ({ frames := 3, cells := 0, slots := 0, locals := 82 } : Room).cells ({ frames := 3, cells := 0, slots := 0, locals := 82 } : Room).slots A) (F0 m 158 ls []) := by
                intro n_6
                induction n_6 with
                | zero => intro k6 K6 ab6 H locs ls w hk_6 hn_6; omega
                | succ n_6 ih_6 =>
                  intro k6 K6 ab6 H locs ls w hk_6 hn_6 hqx6 hqw6 hqp6 hqa6 hqb6 hbi6 hmd6 hcb6 hpx6 hP hD hS hO hl
                  have hpx := hqp6.1
                  have hp1 := hpx.1
                  have hp2 := hpx.2.1
                  have hp3 := hpx.2.2.1
                  have hp4 := hpx.2.2.2.1
                  have hp5 := hpx.2.2.2.2.1
                  have hp6 := hpx.2.2.2.2.2.1
                  have hp8 := hpx.2.2.2.2.2.2.2.1
                  have hp9 := hpx.2.2.2.2.2.2.2.2
                  refine lv_iload_n hx hb dX9_link_158 rfl (lv_at hl 0 rfl) ?_
                  refine lv_aload_n hx hb dX9_link_159 rfl (lv_at hl 2 rfl) ?_
                  refine p_get (v := .int (nI nd)) (C := RX9) (Tc := TX9) (N := 5) (ci := 6) hx hb hq pin_wsX90 hown hE hP hO (by rw [hp1]; decide) (rep_7 hp1) rfl 2 (by decide) (hq _ pw_14) (fun _ h9 => h9) (congrArg (fun z => some (Value.int z)) hp8) dX9_link_160 ?_
                  refine lv_icmp_ge (tgt := 204) hx hb dX9_link_163 (by decide) (fun c15 => ?_) (fun c15 => ?_)
                  · have n16 : nd ≤ k6 := (nI_leI (a := nd) (b := k6) (by omega) (by omega)).mp c15
                    refine lv_iinc (v := (nI (m5 + 1))) (lv' := [(1, .int (nI (m5 + 1))), (2, .int (nI k6)), (0, .ref pq)]) hx hb dX9_link_204 hl (k := 1) rfl (nI_1 m5) (by decide) rfl (fun ls hl => ?_)
                    refine lv_goto (tgt := 148) hx hb dX9_link_207 (by decide) ?_
                    have hO : OKP G h0 a (upd F 2 (nI sz)) R Z B J K6 w := hO.to rfl
                    exact ih_5 (m5 + 1) K6 ab6 _ _ _ _ (by omega) (by omega) hqx6 hqw6 hqp6 hqa6 hqb6 hbi6 (WCl.step hcl5 (WMd.all hmd6 (by omega)) (by omega)) hcb6 hpx6 hP hD hS hO (lv_sub hl [0, 2] rfl)
                  · have n17 : ¬ (nd ≤ k6) := fun h9 => c15 ((nI_leI (a := nd) (b := k6) (by omega) (by omega)).mpr h9)
                    refine lv_aload_n hx hb dX9_link_166 rfl (lv_at hl 2 rfl) ?_
                    refine lv_iload_n hx hb dX9_link_167 rfl (lv_at hl 1 rfl) ?_
                    refine lv_iload_n hx hb dX9_link_168 rfl (lv_at hl 0 rfl) ?_
                    have hO : OKP G h0 a (upd F 2 (nI sz)) R Z B J K6 w := hO.to rfl
                    obtain ⟨qr21, hqr22⟩ := p_recv hO (by rw [hp1]; decide) (rep_7 hp1)
                    refine pc_V0 (G := G) (As := [.int (nI m5), .int (nI k6)]) (rest := []) hx hb hml hown hq hE hX pX0_al hP hD hS hA hl.1 (G_isAbove l G h0 a (upd F 2 (nI sz)) R Z B J K6 w pq dr ml nd (nI m5) (nI k6) g hqp6.1 hqp6.2.1 hO) (gV pw_107 pw_108 pw_109 pw_106 pw_101) hV_X9_isAbove qr21 6 hqr22 rfl rfl rfl (Nat.le_of_ble_eq_true rfl) dX9_link_169 ⟨Nat.le_of_ble_eq_true rfl, Nat.le_of_ble_eq_true rfl⟩ ⟨Nat.le_of_ble_eq_true rfl, Nat.le_of_ble_eq_true rfl⟩ (fun v20 u18 H locs hw19 hP hD hS => ?_)
                    obtain ⟨w, r23⟩ := u18
                    obtain ⟨hw19, h24, h25, hO⟩ := hw19
                    have h24 : r23 ≤ 1 := h24
                    have h25 : AbQ K6 dr nd (nI m5) (nI k6) r23 := h25
                    obtain rfl : v20 = some (.int (nI r23)) := hw19
                    have hO : OKP G h0 a (upd F 2 (nI sz)) R Z B J K6 w := hO.to rfl
                    refine W.widen (k := 0) (n := 0) (Nat.le_of_ble_eq_true rfl) (Nat.le_of_ble_eq_true rfl) ?_
                    refine W.eq (g2 := F0 m 172 ls [.int (nI r23)]) rfl ?_
                    obtain ⟨dk, hk1, hk2, hk3, hk4⟩ := hqp6.2.1 k6 (by omega)
                    have hbq : r23 = 1 ↔ bitL (ab6 k6) m5 := by rw [← hqa6 k6 (by omega) dk hk1]; exact h25 m5 k6 dk (by omega) (by omega) rfl rfl hk1
                    refine lv_if_eq (tgt := 198) hx hb dX9_link_172 (by decide) (fun c26 => ?_) (fun c26 => ?_)
                    · have n27 : r23 = 0 := (nI_eq (a := r23) (b := 0) (by omega) (by omega)).mp c26
                      have hms := WMd.miss hmd6 (by omega) (by omega) (fun z => by have z2 := hbq.mpr z; omega)
                      refine lv_iinc (v := (nI (k6 + 1))) (lv' := [(2, .int (nI (k6 + 1))), (1, .int (nI m5)), (0, .ref pq)]) hx hb dX9_link_198 hl (k := 0) rfl (nI_1 k6) (by decide) rfl (fun ls hl => ?_)
                      refine lv_goto (tgt := 158) hx hb dX9_link_201 (by decide) ?_
                      have hO : OKP G h0 a (upd F 2 (nI sz)) R Z B J K6 w := hO.to rfl
                      exact ih_6 (k6 + 1) K6 ab6 _ _ _ _ (by omega) (by omega) hqx6 hqw6 hqp6 hqa6 hqb6 hbi6 hms hcb6 hpx6 hP hD hS hO (lv_sub hl [0, 1, 2] rfl)
                    · have n28 : ¬ (r23 = 0) := fun h9 => c26 ((nI_eq (a := r23) (b := 0) (by omega) (by omega)).mpr h9)
                      have hbt := hbq.mp (by omega)
                      refine lv_aload_n hx hb dX9_link_175 rfl (lv_at hl 2 rfl) ?_
                      refine p_get (v := .ref dr) (C := RX9) (Tc := TX9) (N := 5) (ci := 6) hx hb hq pin_wsX90 hown hE hP hO (by rw [hp1]; decide) (rep_7 hp1) rfl 1 (by decide) (hq _ pw_15) (fun _ h9 => h9) (congrArg (fun z => some (va_rf z)) hp3) dX9_link_176 ?_
                      refine lv_iload_n hx hb dX9_link_179 rfl (lv_at hl 0 rfl) ?_
                      refine p_ald8 hx hb hE hP hO hp4 (vp_in_nI (by omega) (by omega)) dX9_link_180 ?_
                      rw [nI_clamp (show k6 < 2 ^ 31 by omega)]
                      obtain ⟨dK, heK, htK, hnK, hgK⟩ := hqp6.2.1 k6 (by omega)
                      rw [heK]
                      refine W.eq (g2 := F0 m 181 ls [.ref dK]) rfl ?_
                      refine lv_dup hx hb dX9_link_181 rfl ?_
                      refine p_get (v := .long (K6.2.2.2.1 dK)) (C := RX2) (Tc := TX2) (N := 13) (ci := 2) hx hb hq pin_wsX20 hown hE hP hO (by rw [htK]; decide) (rep_4 htK) rfl 10 (by decide) (hq _ pw_102) (fun _ h9 => h9) rfl dX9_link_182 ?_
                      refine lv_aload_n hx hb dX9_link_185 rfl (lv_at hl 2 rfl) ?_
                      refine p_get (v := .ref dr) (C := RX9) (Tc := TX9) (N := 5) (ci := 6) hx hb hq pin_wsX90 hown hE hP hO (by rw [hp1]; decide) (rep_7 hp1) rfl 1 (by decide) (hq _ pw_15) (fun _ h9 => h9) (congrArg (fun z => some (va_rf z)) hp3) dX9_link_186 ?_
                      refine lv_iload_n hx hb dX9_link_189 rfl (lv_at hl 1 rfl) ?_
                      refine p_ald8 hx hb hE hP hO hp4 (vp_in_nI (by omega) (by omega)) dX9_link_190 ?_
                      rw [nI_clamp (show m5 < 2 ^ 31 by omega)]
                      obtain ⟨dM, heM, htM, hnM, hgM⟩ := hqp6.2.1 m5 (by omega)
                      rw [heM]
                      refine W.eq (g2 := F0 m 191 ls [.ref dM, .long (K6.2.2.2.1 dK), .ref dK]) rfl ?_
                      refine p_get (v := .long (K6.2.2.2.1 dM)) (C := RX2) (Tc := TX2) (N := 13) (ci := 2) hx hb hq pin_wsX20 hown hE hP hO (by rw [htM]; decide) (rep_4 htM) rfl 10 (by decide) (hq _ pw_102) (fun _ h9 => h9) rfl dX9_link_191 ?_
                      refine lv_lor hx hb dX9_link_194 ?_
                      refine lv_topl (fun x29 e30 => ?_)
                      refine p_put (v := .long x29) (ty := .long) (C := RX2) (Tc := TX2) (N := 13) (ci := 2) (K' := (kL K6 dK x29)) hx hb hq pin_wsX20 tyX2 tyX2_ok nmX2 hown hE hP hD hS hO (by rw [htK]; decide) (rep_4 htK) rfl 10 (by decide) (hq _ pw_102) (fun _ h9 => h9) rfl (by decide +kernel) rfl rfl (Nat.le_of_ble_eq_true rfl) rfl (by rw [rep_4 (show (kL K6 dK x29).1 dK = 4 from htK), pl_0] <;> rfl) (fun p9 hp9 => rep_kL hp9) dX9_link_195 (fun H locs w hP hD hS hO => ?_)
                      obtain ⟨K31, hK32⟩ : ∃ z : PK, z = (kL K6 dK x29) := ⟨_, rfl⟩
                      rw [← hK32] at hO
                      have hf33 : K31.1 pq = 7 := (by rw [hK32]; exact hp1)
                      have hf34 : K31.2.2.1 18 pq = some (a 1) := (by rw [hK32]; exact hp2)
                      have hf35 : K31.2.2.1 14 pq = some dr := (by rw [hK32]; exact hp3)
                      have hf36 : K31.1 dr = 8 := (by rw [hK32]; exact hp4)
                      have hf37 : K31.2.2.1 15 pq = some ml := (by rw [hK32]; exact hp5)
                      have hf38 : K31.1 ml = 5 := (by rw [hK32]; exact hp6)
                      have hf39 : K31.2.1 24 pq = (nI nd) := (by rw [hK32]; exact hp8)
                      have hf40 : K31.1 dK = 4 := (by rw [hK32]; exact htK)
                      have hf41 : K31.2.1 15 dK = (nI k6) := (by rw [hK32]; exact hnK)
                      have hf42 : K31.1 dM = 4 := (by rw [hK32]; exact htM)
                      have hf43 : K31.2.1 15 dM = (nI m5) := (by rw [hK32]; exact hnM)
                      have hyk : x29 = ab6 k6 ||| ab6 m5 := by rw [e30, hqa6 k6 (by omega) dK heK, hqa6 m5 (by omega) dM heM]
                      have hgK2 : ¬ g 5 dK = 2 := by rw [hgK]; exact bti_ne (Nat.pos_of_ne_zero (fun z => by rw [z, hbi6.1] at hbt; exact bitL_zero hbt))
                      have hx9 : LkX K K31 := by rw [hK32]; exact LkX.kL hqx6
                      have hw9 : WPr G K31 g := by rw [hK32]; exact WPr.kL hqw6 hgK2
                      have hp9 : PgT G K31 g (a 1) pq dr ml nd nm cp it s9 := by rw [hK32]; exact PgT.kL hqp6
                      have ha9 : AbF K31 dr nd (upL ab6 k6 (ab6 k6 ||| ab6 m5)) := by rw [hK32, ← hyk]; exact AbF.kL hqa6 hqp6.2.1 (by omega) (by omega) heK
                      have hb9 : PaB K31 dr nd (upL ab6 k6 (ab6 k6 ||| ab6 m5)) := by rw [hK32, ← hyk]; exact PaB.or hqb6 (Or.inl (fun b hb => by rw [hyk, bitL_or]; exact Or.inl hb))
                      have hc9 : CAb K31 dr nd (upL ab6 k6 (ab6 k6 ||| ab6 m5)) nd := by rw [hK32]; exact CAb.hit hcb6 hqp6.2.1 hbi6 (by omega) (by omega) hbt
                      have hpx9 : PaX K31 dr nd nd := by rw [hK32]; exact hpx6
                      have hz9 := Bi0.hit hbi6 (by omega) hbt
                      have hm9 := WMd.hit hmd6 (by omega) (by omega) hbt
                      refine lv_iinc (v := (nI (k6 + 1))) (lv' := [(2, .int (nI (k6 + 1))), (1, .int (nI m5)), (0, .ref pq)]) hx hb dX9_link_198 hl (k := 0) rfl (nI_1 k6) (by decide) rfl (fun ls hl => ?_)
                      refine lv_goto (tgt := 158) hx hb dX9_link_201 (by decide) ?_
                      have hO : OKP G h0 a (upd F 2 (nI sz)) R Z B J K31 w := hO.to rfl
                      exact ih_6 (k6 + 1) K31 (upL ab6 k6 (ab6 k6 ||| ab6 m5)) _ _ _ _ (by omega) (by omega) hx9 hw9 hp9 ha9 hb9 hz9 hm9 hc9 hpx9 hP hD hS hO (lv_sub hl [0, 1, 2] rfl)
              have hO : OKP G h0 a (upd F 2 (nI sz)) R Z B J K5 w := hO.to rfl
              exact loop_6 (nd + 1) 0 K5 ab5 _ _ _ _ (by omega) (by omega) hqx5 hqw5 hqp5 hqa5 hqb5 hbi5 WMd.start hcb5 hpx5 hP hD hS hO (lv_sub hl [0, 1, 2] rfl)
        have hO : OKP G h0 a (upd F 2 (nI sz)) R Z B J K2 w := hO.to rfl
        exact loop_5 (nd + 1) 0 K2 ab2 _ _ _ _ (by omega) (by omega) hqx2 hqw2 hqp2 hqa2 hqb2 (Bi0.all hbi2 (by omega)) WCl.start (CAb.all hcb2 (by omega)) (PaX.all hpx2 (by omega)) hP hD hS hO (lv_sub hl [0, 1] rfl)
      · have n44 : ¬ (nd ≤ i2) := fun h9 => c1 ((nI_leI (a := nd) (b := i2) (by omega) (by omega)).mpr h9)
        refine lv_aload_n hx hb dX9_link_10 rfl (lv_at hl 1 rfl) ?_
        refine p_get (v := .ref dr) (C := RX9) (Tc := TX9) (N := 5) (ci := 6) hx hb hq pin_wsX90 hown hE hP hO (by rw [hp1]; decide) (rep_7 hp1) rfl 1 (by decide) (hq _ pw_15) (fun _ h9 => h9) (congrArg (fun z => some (va_rf z)) hp3) dX9_link_11 ?_
        refine lv_iload_n hx hb dX9_link_14 rfl (lv_at hl 0 rfl) ?_
        refine p_ald8 hx hb hE hP hO hp4 (vp_in_nI (by omega) (by omega)) dX9_link_15 ?_
        rw [nI_clamp (show i2 < 2 ^ 31 by omega)]
        obtain ⟨dA, heA, htA, hnA, hgA⟩ := hqp2.2.1 i2 (by omega)
        rw [heA]
        refine W.eq (g2 := F0 m 16 ls [.ref dA]) rfl ?_
        refine lv_astore_n (lv' := [(2, .ref dA), (1, .int (nI i2)), (0, .ref pq)]) hx hb dX9_link_16 rfl hl (by decide) rfl (fun ls hl => ?_)
        refine lv_aload_n hx hb dX9_link_17 rfl (lv_at hl 0 rfl) ?_
        refine lv_lconst (v := 1) hx hb dX9_link_18 (by decide) ?_
        refine p_put (v := .long 1) (ty := .long) (C := RX2) (Tc := TX2) (N := 13) (ci := 2) (K' := (kL K2 dA 1)) hx hb hq pin_wsX20 tyX2 tyX2_ok nmX2 hown hE hP hD hS hO (by rw [htA]; decide) (rep_4 htA) rfl 10 (by decide) (hq _ pw_102) (fun _ h9 => h9) rfl (by decide +kernel) rfl rfl (Nat.le_of_ble_eq_true rfl) rfl (by rw [rep_4 (show (kL K2 dA 1).1 dA = 4 from htA), pl_0] <;> rfl) (fun p9 hp9 => rep_kL hp9) dX9_link_19 (fun H locs w hP hD hS hO => ?_)
        obtain ⟨K45, hK46⟩ : ∃ z : PK, z = (kL K2 dA 1) := ⟨_, rfl⟩
        rw [← hK46] at hO
        have hf47 : K45.1 pq = 7 := (by rw [hK46]; exact hp1)
        have hf48 : K45.2.2.1 18 pq = some (a 1) := (by rw [hK46]; exact hp2)
        have hf49 : K45.2.2.1 14 pq = some dr := (by rw [hK46]; exact hp3)
        have hf50 : K45.1 dr = 8 := (by rw [hK46]; exact hp4)
        have hf51 : K45.2.2.1 15 pq = some ml := (by rw [hK46]; exact hp5)
        have hf52 : K45.1 ml = 5 := (by rw [hK46]; exact hp6)
        have hf53 : K45.2.1 24 pq = (nI nd) := (by rw [hK46]; exact hp8)
        have hf54 : K45.1 dA = 4 := (by rw [hK46]; exact htA)
        have hf55 : K45.2.1 15 dA = (nI i2) := (by rw [hK46]; exact hnA)
        have hgA2 : ¬ g 5 dA = 2 := by rw [hgA]; exact bti_ne hi2
        have hx3 : LkX K K45 := by rw [hK46]; exact LkX.kL hqx2
        have hw3 : WPr G K45 g := by rw [hK46]; exact WPr.kL hqw2 hgA2
        have hp3 : PgT G K45 g (a 1) pq dr ml nd nm cp it s9 := by rw [hK46]; exact PgT.kL hqp2
        have ha3 : AbF K45 dr nd (upL ab2 i2 1) := by rw [hK46]; exact AbF.kL hqa2 hqp2.2.1 (by omega) (by omega) heA
        have hb3 : PaB K45 dr nd (upL ab2 i2 1) := by rw [hK46]; exact PaB.or hqb2 (Or.inr (fun d h => hpu2 i2 (by omega) (Nat.le_refl _) d h))
        have hu3 : PaU K45 dr nd i2 := by rw [hK46]; exact PaU.kL hpu2
        have hz3 := Bi0.at (v := 1) hbi2 hi2
        have hl3 : K45.2.2.2.1 dA = 1 := by rw [hK46]; exact kL_eq
        have heA3 : K45.2.2.2.2.1 dr i2 = some dA := by rw [hK46]; exact heA
        have hc3 : CAb K45 dr nd (upL ab2 i2 1) i2 := by rw [hK46]; exact CAb.kL hcb2
        have hpx3 : PaX K45 dr nd i2 := by rw [hK46]; exact hpx2
        have hcn0 : K45.2.2.1 10 dA = none := hu3 i2 (by omega) (Nat.le_refl _) dA heA3
        by_cases h7 : i2 < 7
        · have hcz := (hw3.2.2.1 dA hf54).2.2.2.2.2.1 (by rw [hgA]; exact bti_1 hi2 h7)
          refine lv_aload_n hx hb dX9_link_22 rfl (lv_at hl 0 rfl) ?_
          refine p_get (v := .int 0) (C := RX2) (Tc := TX2) (N := 13) (ci := 2) hx hb hq pin_wsX20 hown hE hP hO (by rw [hf54]; decide) (rep_4 hf54) rfl 3 (by decide) (hq _ pw_1101) (fun _ h9 => h9) (congrArg (fun z => some (Value.int z)) hcz.2.2) dX9_link_23 ?_
          refine lv_if_ne (tgt := 69) hx hb dX9_link_26 (by decide) (fun c56 => absurd c56 (by decide)) (fun c56 => ?_)
          refine lv_aload_n hx hb dX9_link_29 rfl (lv_at hl 0 rfl) ?_
          refine lv_aload_n hx hb dX9_link_30 rfl (lv_at hl 0 rfl) ?_
          refine p_get (v := .int (-1)) (C := RX2) (Tc := TX2) (N := 13) (ci := 2) hx hb hq pin_wsX20 hown hE hP hO (by rw [hf54]; decide) (rep_4 hf54) rfl 4 (by decide) (hq _ pw_1105) (fun _ h9 => h9) (congrArg (fun z => some (Value.int z)) hcz.1) dX9_link_31 ?_
          refine lv_iconst (v := (-1)) hx hb dX9_link_34 (by decide) ?_
          refine lv_icmp_ne (tgt := 47) hx hb dX9_link_35 (by decide) (fun c57 => absurd c57 (by decide)) (fun c57 => ?_)
          refine lv_aload_n hx hb dX9_link_38 rfl (lv_at hl 2 rfl) ?_
          refine p_get (v := .ref dr) (C := RX9) (Tc := TX9) (N := 5) (ci := 6) hx hb hq pin_wsX90 hown hE hP hO (by rw [hf47]; decide) (rep_7 hf47) rfl 1 (by decide) (hq _ pw_15) (fun _ h9 => h9) (congrArg (fun z => some (va_rf z)) hf49) dX9_link_39 ?_
          refine lv_iconst (v := 0) hx hb dX9_link_42 (by decide) ?_
          refine W.eq (g2 := F0 m 43 ls [.int (nI 0), .ref dr, .ref dA]) rfl ?_
          refine p_ald8 hx hb hE hP hO hf50 (vp_in_nI (by omega) (by omega)) dX9_link_43 ?_
          rw [nI_clamp (show 0 < 2 ^ 31 by omega)]
          obtain ⟨dP, heP, htP, hnP, hgP⟩ := hp3.2.1 0 (by omega)
          rw [heP]
          refine W.eq (g2 := F0 m 44 ls [.ref dP, .ref dA]) rfl ?_
          refine lv_goto (tgt := 66) hx hb dX9_link_44 (by decide) ?_
          refine p_put (v := .ref dP) (ty := (.object "JinjaTongue$Decl")) (C := RX2) (Tc := TX2) (N := 13) (ci := 2) (K' := (kC K45 10 dA (some dP))) hx hb hq pin_wsX20 tyX2 tyX2_ok nmX2 hown hE hP hD hS hO (by rw [hf54]; decide) (rep_4 hf54) rfl 9 (by decide) (hq _ pw_1138) (fun _ h9 => h9) rfl (by decide +kernel) rfl rfl (Nat.le_of_ble_eq_true rfl) rfl (by rw [rep_4 (show (kC K45 10 dA (some dP)).1 dA = 4 from hf54), pc_10] <;> rfl) (fun p9 hp9 => rep_kC hp9) dX9_link_66 (fun H locs w hP hD hS hO => ?_)
          obtain ⟨K58, hK59⟩ : ∃ z : PK, z = (kC K45 10 dA (some dP)) := ⟨_, rfl⟩
          rw [← hK59] at hO
          have hf60 : K58.1 pq = 7 := (by rw [hK59]; exact hf47)
          have hf61 : K58.2.2.1 18 pq = some (a 1) := (by rw [hK59]; exact (kC_of (by decide)).trans hf48)
          have hf62 : K58.2.2.1 14 pq = some dr := (by rw [hK59]; exact (kC_of (by decide)).trans hf49)
          have hf63 : K58.1 dr = 8 := (by rw [hK59]; exact hf50)
          have hf64 : K58.2.2.1 15 pq = some ml := (by rw [hK59]; exact (kC_of (by decide)).trans hf51)
          have hf65 : K58.1 ml = 5 := (by rw [hK59]; exact hf52)
          have hf66 : K58.2.1 24 pq = (nI nd) := (by rw [hK59]; exact hf53)
          have hf67 : K58.1 dA = 4 := (by rw [hK59]; exact hf54)
          have hf68 : K58.2.1 15 dA = (nI i2) := (by rw [hK59]; exact hf55)
          have hf69 : K58.2.1 19 dA = (-1) := (by rw [hK59]; exact hcz.1)
          have hf70 : K58.2.1 21 dA = 0 := (by rw [hK59]; exact hcz.2.1)
          have hf71 : K58.2.1 18 dA = 0 := (by rw [hK59]; exact hcz.2.2)
          have hf72 : K58.1 dP = 4 := (by rw [hK59]; exact htP)
          have hf73 : K58.2.1 15 dP = (nI 0) := (by rw [hK59]; exact hnP)
          have hf74 : K58.2.2.1 10 dA = some dP := by rw [hK59]; exact kC_eq
          have hx4 : LkX K K58 := by rw [hK59]; exact LkX.kC hx3
          have hw4 : WPr G K58 g := by rw [hK59]; exact WPr.par hw3 hgA2 (fun d h => by cases h; exact htP)
          have hp4 : PgT G K58 g (a 1) pq dr ml nd nm cp it s9 := by rw [hK59]; exact PgT.kC hp3
          have ha4 : AbF K58 dr nd (upL ab2 i2 1) := by rw [hK59]; exact AbF.kC ha3
          have hu4 : PaU K58 dr nd (i2 + 1) := by rw [hK59]; exact PaU.kC hu3 hp3.2.1 (by omega) (by omega) heA3
          have hl4 : K58.2.2.2.1 dA = 1 := by rw [hK59]; exact hl3
          have hc4 : CAb K58 dr nd (upL ab2 i2 1) i2 := by rw [hK59]; exact CAb.kC hc3 hcn0
          have hpx4 : PaX K58 dr nd (i2 + 1) := by rw [hK59]; exact PaX.put hpx3 hp3.2.1 (by omega) (by omega) heA3 (by omega) heP ((hw3.2.2.1 dP htP).2.2.2.2.2.1 (by rw [hgP]; decide)).2.2 hi2 hcz.2.2
          refine lv_aload_n hx hb dX9_link_69 rfl (lv_at hl 0 rfl) ?_
          refine p_get (v := .ref dP) (C := RX2) (Tc := TX2) (N := 13) (ci := 2) hx hb hq pin_wsX20 hown hE hP hO (by rw [hf67]; decide) (rep_4 hf67) rfl 9 (by decide) (hq _ pw_1138) (fun _ h9 => h9) (congrArg (fun z => some (va_rf z)) hf74) dX9_link_70 ?_
          refine lv_ifnull hx hb dX9_link_73 ?_
          refine lv_aload_n hx hb dX9_link_76 rfl (lv_at hl 0 rfl) ?_
          refine lv_dup hx hb dX9_link_77 rfl ?_
          refine p_get (v := .long (K58.2.2.2.1 dA)) (C := RX2) (Tc := TX2) (N := 13) (ci := 2) hx hb hq pin_wsX20 hown hE hP hO (by rw [hf67]; decide) (rep_4 hf67) rfl 10 (by decide) (hq _ pw_102) (fun _ h9 => h9) rfl dX9_link_78 ?_
          refine lv_lconst (v := 1) hx hb dX9_link_81 (by decide) ?_
          refine lv_aload_n hx hb dX9_link_82 rfl (lv_at hl 0 rfl) ?_
          refine p_get (v := .ref dP) (C := RX2) (Tc := TX2) (N := 13) (ci := 2) hx hb hq pin_wsX20 hown hE hP hO (by rw [hf67]; decide) (rep_4 hf67) rfl 9 (by decide) (hq _ pw_1138) (fun _ h9 => h9) (congrArg (fun z => some (va_rf z)) hf74) dX9_link_83 ?_
          refine p_get (v := .int (nI 0)) (C := RX2) (Tc := TX2) (N := 13) (ci := 2) hx hb hq pin_wsX20 hown hE hP hO (by rw [hf72]; decide) (rep_4 hf72) rfl 0 (by decide) (hq _ pw_1139) (fun _ h9 => h9) (congrArg (fun z => some (Value.int z)) hf73) dX9_link_86 ?_
          refine lv_lshl hx hb dX9_link_89 rfl ?_
          refine lv_topl (fun x75 e76 => ?_)
          refine lv_lor hx hb dX9_link_90 ?_
          refine lv_topl (fun x77 e78 => ?_)
          refine p_put (v := .long x77) (ty := .long) (C := RX2) (Tc := TX2) (N := 13) (ci := 2) (K' := (kL K58 dA x77)) hx hb hq pin_wsX20 tyX2 tyX2_ok nmX2 hown hE hP hD hS hO (by rw [hf67]; decide) (rep_4 hf67) rfl 10 (by decide) (hq _ pw_102) (fun _ h9 => h9) rfl (by decide +kernel) rfl rfl (Nat.le_of_ble_eq_true rfl) rfl (by rw [rep_4 (show (kL K58 dA x77).1 dA = 4 from hf67), pl_0] <;> rfl) (fun p9 hp9 => rep_kL hp9) dX9_link_91 (fun H locs w hP hD hS hO => ?_)
          obtain ⟨K79, hK80⟩ : ∃ z : PK, z = (kL K58 dA x77) := ⟨_, rfl⟩
          rw [← hK80] at hO
          have hf81 : K79.1 pq = 7 := (by rw [hK80]; exact hf60)
          have hf82 : K79.2.2.1 18 pq = some (a 1) := (by rw [hK80]; exact hf61)
          have hf83 : K79.2.2.1 14 pq = some dr := (by rw [hK80]; exact hf62)
          have hf84 : K79.1 dr = 8 := (by rw [hK80]; exact hf63)
          have hf85 : K79.2.2.1 15 pq = some ml := (by rw [hK80]; exact hf64)
          have hf86 : K79.1 ml = 5 := (by rw [hK80]; exact hf65)
          have hf87 : K79.2.1 24 pq = (nI nd) := (by rw [hK80]; exact hf66)
          have hf88 : K79.1 dA = 4 := (by rw [hK80]; exact hf67)
          have hf89 : K79.2.1 15 dA = (nI i2) := (by rw [hK80]; exact hf68)
          have hf90 : K79.2.1 19 dA = (-1) := (by rw [hK80]; exact hf69)
          have hf91 : K79.2.1 21 dA = 0 := (by rw [hK80]; exact hf70)
          have hf92 : K79.2.1 18 dA = 0 := (by rw [hK80]; exact hf71)
          have hf93 : K79.1 dP = 4 := (by rw [hK80]; exact hf72)
          have hf94 : K79.2.1 15 dP = (nI 0) := (by rw [hK80]; exact hf73)
          have hf95 : K79.2.2.1 10 dA = some dP := (by rw [hK80]; exact hf74)
          have hbp : bitL x77 0 := by rw [e78, bitL_or, e76]; exact Or.inr (bitL_shl 0 (by omega))
          have hx5 : LkX K K79 := by rw [hK80]; exact LkX.kL hx4
          have hw5 : WPr G K79 g := by rw [hK80]; exact WPr.kL hw4 hgA2
          have hp5 : PgT G K79 g (a 1) pq dr ml nd nm cp it s9 := by rw [hK80]; exact PgT.kL hp4
          have heA4 : K58.2.2.2.2.1 dr i2 = some dA := by rw [hK59]; exact heA3
          have ha5 : AbF K79 dr nd (upL (upL ab2 i2 1) i2 x77) := by rw [hK80]; exact AbF.kL ha4 hp4.2.1 (by omega) (by omega) heA4
          have hb5 : PaB K79 dr nd (upL (upL ab2 i2 1) i2 x77) := by rw [hK80, hK59]; exact PaB.par hb3 hp3.2.1 (by omega) (by omega) heA3 (by omega) heP hbp
          have hu5 : PaU K79 dr nd (i2 + 1) := by rw [hK80]; exact PaU.kL hu4
          have hz5 := Bi0.up (v := x77) hz3 hi2 (fun _ b hb => by rw [e78, hl4, bitL_or, e76, shl_0] at hb; rcases hb with w | w <;> exact bitL_one w)
          have hc5 : CAb K79 dr nd (upL (upL ab2 i2 1) i2 x77) (i2 + 1) := by rw [hK80]; exact CAb.par hc4 heA4 (by rw [hK59]; exact kC_eq) (by rw [hK59]; exact heP) (by omega) (by omega) (by omega) hp4.2.1 (fun b hb => by rw [e78, hl4, bitL_or, e76] at hb; exact hb.imp bitL_one (bitL_shu (by omega))) (by rw [hK59]; exact hcz.2.2)
          have hpx5 : PaX K79 dr nd (i2 + 1) := by rw [hK80]; exact hpx4
          obtain ⟨bA, hbA, hbB⟩ := lz_bound 0
          refine lv_iconst (v := 0) hx hb dX9_link_94 (by decide) ?_
          refine lv_istore_n (lv' := [(3, .int 0), (2, .ref dA), (1, .int (nI i2)), (0, .ref pq)]) hx hb dX9_link_95 rfl hl (by decide) rfl (fun ls hl => ?_)
          have loop_4 : ∀ (n_4 : Nat) (i4 : Nat) (K4 : PK) (ab4 : Nat → Int64) (d4 : Nat) (lz4 : Int32) (H : Heap) (locs : List Loc) (ls : Array Slot) (w : va_W), i4 ≤ bA → bA + 1 ≤ i4 + n_4 → (LkX K K4) → (WPr G K4 g) → (PgT G K4 g (a 1) pq dr ml nd nm cp it s9) → (AbF K4 dr nd ab4) → (PaB K4 dr nd ab4) → (PaU K4 dr nd (i2 + 1)) → (Bi0 ab4 (i2 + 1)) → (K4.1 d4 = 4) → (¬ g 5 d4 = 2) → (K4.2.1 21 d4 = lz4) → (K4.2.2.2.2.1 dr i2 = some d4) → (∀ i : Nat, i < 2147483648 → nI i < lz4 → i < bA) → (i2 < 7 → lz4 = 0) → (CAb K4 dr nd ab4 (i2 + 1)) → (PaX K4 dr nd (i2 + 1)) → va_P G.1 pCl w H → va_D A w → va_S A s.heap H locs → OKP G h0 a (upd F 2 (nI sz)) R Z B J K4 w → lv_has ls 4 [(3, .int (nI i4)), (2, .ref d4), (1, .int (nI i2)), (0, .ref pq)] → W p l e (headSpec (Cond.code yX9_link cX9_link 4 none :: pw) ({ frames := 3, cells := 0, slots := 0, locals := 82 } : Room)).room s m ([.ref pq] : List Value).toArray below meth c H locs 0 0 (MQ below (pQ G A (fun (v : Option Value) (u : va_W × (PK × (Nat → Int64))) => v = none ∧ (LkX K u.2.1) ∧ (WPr G u.2.1 g) ∧ (PgT G u.2.1 g (a 1) pq dr ml nd nm cp it s9) ∧ (AbF u.2.1 dr nd u.2.2) ∧ (PaB u.2.1 dr nd u.2.2) ∧ (WCl u.2.2 nd nd) ∧ (Bi0 u.2.2 7) ∧ (CAb u.2.1 dr nd u.2.2 nd) ∧ (PaX u.2.1 dr nd nd) ∧ (OKP G h0 a (upd F 2 (nI sz)) R Z B J u.2.1 u.1)) (fun u => u.1)) ([.ref pq] : List Value).toArray s ({ frames := 3, cells := 0, slots := 0, locals := 82 } : Room).cells ({ frames := 3, cells := 0, slots := 0, locals := 82 } : Room).slots A) (F0 m 96 ls []) := by
            intro n_4
            induction n_4 with
            | zero => intro i4 K4 ab4 d4 lz4 H locs ls w hk_4 hn_4; omega
            | succ n_4 ih_4 =>
              intro i4 K4 ab4 d4 lz4 H locs ls w hk_4 hn_4 hqx4 hqw4 hqp4 hqa4 hqb4 hpu4 hbi4 hT4 hg4 hlz4 he4 hlb4 h74 hcb4 hpx4 hP hD hS hO hl
              have hpx := hqp4.1
              have hp1 := hpx.1
              have hp2 := hpx.2.1
              have hp3 := hpx.2.2.1
              have hp4 := hpx.2.2.2.1
              have hp5 := hpx.2.2.2.2.1
              have hp6 := hpx.2.2.2.2.2.1
              have hp8 := hpx.2.2.2.2.2.2.2.1
              have hp9 := hpx.2.2.2.2.2.2.2.2
              refine lv_iload_n hx hb dX9_link_96 rfl (lv_at hl 0 rfl) ?_
              refine lv_aload_n hx hb dX9_link_97 rfl (lv_at hl 1 rfl) ?_
              refine p_get (v := .int lz4) (C := RX2) (Tc := TX2) (N := 13) (ci := 2) hx hb hq pin_wsX20 hown hE hP hO (by rw [hT4]; decide) (rep_4 hT4) rfl 6 (by decide) (hq _ pw_1106) (fun _ h9 => h9) (congrArg (fun z => some (Value.int z)) hlz4) dX9_link_98 ?_
              refine lv_icmp_ge (tgt := 140) hx hb dX9_link_101 (by decide) (fun c96 => ?_) (fun c96 => ?_)
              · refine lv_iinc (v := (nI (i2 + 1))) (lv' := [(1, .int (nI (i2 + 1))), (3, .int (nI i4)), (2, .ref d4), (0, .ref pq)]) hx hb dX9_link_140 hl (k := 2) rfl (nI_1 i2) (by decide) rfl (fun ls hl => ?_)
                refine lv_goto (tgt := 2) hx hb dX9_link_143 (by decide) ?_
                have hO : OKP G h0 a (upd F 2 (nI sz)) R Z B J K4 w := hO.to rfl
                exact ih_2 (i2 + 1) K4 ab4 _ _ _ _ (by omega) (by omega) hqx4 hqw4 hqp4 hqa4 hqb4 hpu4 hbi4 (by omega) hcb4 hpx4 hP hD hS hO (lv_sub hl [0, 3] rfl)
              · have hi9 := hlb4 i4 (by omega) (Int32.not_le.mp c96)
                have h79 : 7 ≤ i2 := Nat.le_of_not_lt (fun z => by rw [h74 z] at c96; exact c96 (nI_leI (a := 0) (b := i4) (by omega) (by omega) |>.mpr (by omega)))
                refine lv_aload_n hx hb dX9_link_104 rfl (lv_at hl 1 rfl) ?_
                refine lv_dup hx hb dX9_link_105 rfl ?_
                refine p_get (v := .long (K4.2.2.2.1 d4)) (C := RX2) (Tc := TX2) (N := 13) (ci := 2) hx hb hq pin_wsX20 hown hE hP hO (by rw [hT4]; decide) (rep_4 hT4) rfl 10 (by decide) (hq _ pw_102) (fun _ h9 => h9) rfl dX9_link_106 ?_
                refine lv_lconst (v := 1) hx hb dX9_link_109 (by decide) ?_
                refine lv_aload_n hx hb dX9_link_110 rfl (lv_at hl 3 rfl) ?_
                refine lv_aload_n hx hb dX9_link_111 rfl (lv_at hl 3 rfl) ?_
                refine p_get (v := .ref (a 1)) (C := RX9) (Tc := TX9) (N := 5) (ci := 6) hx hb hq pin_wsX90 hown hE hP hO (by rw [hp1]; decide) (rep_7 hp1) rfl 0 (by decide) (hq _ pw_784) (fun _ h9 => h9) (congrArg (fun z => some (va_rf z)) hp2) dX9_link_112 ?_
                refine lv_aload_n hx hb dX9_link_115 rfl (lv_at hl 1 rfl) ?_
                refine p_get (v := .int (K4.2.1 20 d4)) (C := RX2) (Tc := TX2) (N := 13) (ci := 2) hx hb hq pin_wsX20 hown hE hP hO (by rw [hT4]; decide) (rep_4 hT4) rfl 5 (by decide) (hq _ pw_1107) (fun _ h9 => h9) rfl dX9_link_116 ?_
                refine lv_iconst (v := 2) hx hb dX9_link_119 (by decide) ?_
                refine lv_iload_n hx hb dX9_link_120 rfl (lv_at hl 0 rfl) ?_
                refine lv_imul hx hb dX9_link_121 ?_
                refine lv_topi (fun x97 e98 => ?_)
                obtain rfl : x97 = nI (2 * i4) := e98.trans (nI_mulN (2) (i4))
                refine lv_iadd hx hb dX9_link_122 ?_
                refine lv_topi (fun x99 e100 => ?_)
                have hO : OKW G h0 a (upd (upd F 2 (nI sz)) 2 (nI sz)) R Z B J K4.1 (fun q99 x99 => x99 = rep G a K4 q99) w := hO.to rfl
                obtain ⟨_, qr104, hqr105⟩ := hO.2.1 2 _ (sg_2 G h0 a _ _ _ _ _)
                refine pc_V0 (G := G) (As := [.int x99]) (rest := [.ref pq, .long 1, .long (K4.2.2.2.1 d4), .ref d4]) hx hb hml hown hq hE hX pX0_al hP hD hS hA hl.1 (Y_valueAt l G h0 a (upd F 2 (nI sz)) R Z B J K4.1 (fun q99 x99 => x99 = rep G a K4 q99) w x99 sz (by omega) hO) (gV pw_785 pw_57 pw_58 pw_59 pw_39) hV_X10_valueAt qr104 7 hqr105 rfl rfl rfl (Nat.le_of_ble_eq_true rfl) dX9_link_123 ⟨Nat.le_of_ble_eq_true rfl, Nat.le_of_ble_eq_true rfl⟩ ⟨Nat.le_of_ble_eq_true rfl, Nat.le_of_ble_eq_true rfl⟩ (fun v103 u101 H locs hw102 hP hD hS => ?_)
                obtain ⟨w, _⟩ := u101
                obtain ⟨hw102, hO⟩ := hw102
                obtain rfl : v103 = some (.int (tkN ((B 9)) sz (-1) x99)) := hw102
                have hO : OKP G h0 a (upd F 2 (nI sz)) R Z B J K4 w := hO.to rfl
                refine W.widen (k := 0) (n := 0) (Nat.le_of_ble_eq_true rfl) (Nat.le_of_ble_eq_true rfl) ?_
                refine W.eq (g2 := F0 m 126 ls [.int (tkN ((B 9)) sz (-1) x99), .ref pq, .long 1, .long (K4.2.2.2.1 d4), .ref d4]) rfl ?_
                have hO : OKP G h0 a (upd F 2 (nI sz)) R Z B J K4 w := hO.to rfl
                obtain ⟨qr109, hqr110⟩ := p_recv hO (by rw [hp1]; decide) (rep_7 hp1)
                refine pc_V0 (G := G) (As := [.int (tkN ((B 9)) sz (-1) x99)]) (rest := [.long 1, .long (K4.2.2.2.1 d4), .ref d4]) hx hb hml hown hq hE hX pX0_al hP hD hS hA hl.1 (N_find l G h0 a (upd F 2 (nI sz)) R Z B J K4 w pq dr ml nd (tkN ((B 9)) sz (-1) x99) g hqp4.1 hqp4.2.1 hO) (gV pw_1102 pw_585 pw_586 pw_106 pw_509) hV_X9_find qr109 6 hqr110 rfl rfl rfl (Nat.le_of_ble_eq_true rfl) dX9_link_126 ⟨Nat.le_of_ble_eq_true rfl, Nat.le_of_ble_eq_true rfl⟩ ⟨Nat.le_of_ble_eq_true rfl, Nat.le_of_ble_eq_true rfl⟩ (fun v108 u106 H locs hw107 hP hD hS => ?_)
                obtain ⟨w, r111⟩ := u106
                obtain ⟨hw107, h112, hO⟩ := hw107
                have h112 : FdX K4 dr nd (tkN ((B 9)) sz (-1) x99) r111 := h112
                obtain rfl : v108 = some (.int r111) := hw107
                have hO : OKP G h0 a (upd F 2 (nI sz)) R Z B J K4 w := hO.to rfl
                refine W.widen (k := 0) (n := 0) (Nat.le_of_ble_eq_true rfl) (Nat.le_of_ble_eq_true rfl) ?_
                refine W.eq (g2 := F0 m 129 ls [.int r111, .long 1, .long (K4.2.2.2.1 d4), .ref d4]) rfl ?_
                refine lv_lshl hx hb dX9_link_129 rfl ?_
                refine lv_topl (fun x113 e114 => ?_)
                refine lv_lor hx hb dX9_link_130 ?_
                refine lv_topl (fun x115 e116 => ?_)
                refine p_put (v := .long x115) (ty := .long) (C := RX2) (Tc := TX2) (N := 13) (ci := 2) (K' := (kL K4 d4 x115)) hx hb hq pin_wsX20 tyX2 tyX2_ok nmX2 hown hE hP hD hS hO (by rw [hT4]; decide) (rep_4 hT4) rfl 10 (by decide) (hq _ pw_102) (fun _ h9 => h9) rfl (by decide +kernel) rfl rfl (Nat.le_of_ble_eq_true rfl) rfl (by rw [rep_4 (show (kL K4 d4 x115).1 d4 = 4 from hT4), pl_0] <;> rfl) (fun p9 hp9 => rep_kL hp9) dX9_link_131 (fun H locs w hP hD hS hO => ?_)
                obtain ⟨K117, hK118⟩ : ∃ z : PK, z = (kL K4 d4 x115) := ⟨_, rfl⟩
                rw [← hK118] at hO
                have hf119 : K117.1 pq = 7 := (by rw [hK118]; exact hp1)
                have hf120 : K117.2.2.1 18 pq = some (a 1) := (by rw [hK118]; exact hp2)
                have hf121 : K117.2.2.1 14 pq = some dr := (by rw [hK118]; exact hp3)
                have hf122 : K117.1 dr = 8 := (by rw [hK118]; exact hp4)
                have hf123 : K117.2.2.1 15 pq = some ml := (by rw [hK118]; exact hp5)
                have hf124 : K117.1 ml = 5 := (by rw [hK118]; exact hp6)
                have hf125 : K117.2.1 24 pq = (nI nd) := (by rw [hK118]; exact hp8)
                have hf126 : K117.1 d4 = 4 := (by rw [hK118]; exact hT4)
                have hf127 : K117.2.1 21 d4 = lz4 := (by rw [hK118]; exact hlz4)
                have he40 : K.2.2.2.2.1 dr i2 = some d4 := by rw [← hqx4.2.2.2.1]; exact he4
                have hlt4 : nI i4 < K.2.1 21 d4 := by rw [← hqx4.2.1, hlz4]; exact Int32.not_le.mp c96
                obtain ⟨iQ, dQ, hiQ, hfQ, heQ, hcQ⟩ := (hr1.1 i2 h79 (by omega) d4 he40).2.2 i4 (by omega) hlt4
                have hrQ : r111 = nI iQ := FdX.uniq (by omega) (LkX.fdx hqx4 (by have z8 := h112; rw [e100, hqx4.2.1] at z8; exact z8)) hfQ
                have hc9 : CAb K117 dr nd (upL ab4 i2 x115) (i2 + 1) := by rw [hK118]; exact CAb.lis hcb4 he4 (by rw [hqx4.2.2.2.1]; exact heQ) (by rw [hqx4.2.1, hcQ]; decide) (fun b hb => by rw [e116, bitL_or, hqa4 i2 (by omega) d4 he4] at hb; exact hb.imp id (fun z => by have z9 := z; rw [e114] at z9; rw [hrQ] at z9; exact bitL_shu (by omega) z9)) (by omega)
                have hpx9 : PaX K117 dr nd (i2 + 1) := by rw [hK118]; exact hpx4
                have hx9 : LkX K K117 := by rw [hK118]; exact LkX.kL hqx4
                have hw9 : WPr G K117 g := by rw [hK118]; exact WPr.kL hqw4 hg4
                have hp9 : PgT G K117 g (a 1) pq dr ml nd nm cp it s9 := by rw [hK118]; exact PgT.kL hqp4
                have ha9 : AbF K117 dr nd (upL ab4 i2 x115) := by rw [hK118]; exact AbF.kL hqa4 hqp4.2.1 (by omega) (by omega) he4
                have hb9 : PaB K117 dr nd (upL ab4 i2 x115) := by rw [hK118]; exact PaB.or hqb4 (Or.inl (fun b hb => by rw [e116, bitL_or]; exact Or.inl (by rw [hqa4 i2 (by omega) d4 he4]; exact hb)))
                have hu9 : PaU K117 dr nd (i2 + 1) := by rw [hK118]; exact PaU.kL hpu4
                have hz9 := Bi0.or (v := x115) hbi4 h79
                have he9 : K117.2.2.2.2.1 dr i2 = some d4 := by rw [hK118]; exact he4
                refine lv_iinc (v := (nI (i4 + 1))) (lv' := [(3, .int (nI (i4 + 1))), (2, .ref d4), (1, .int (nI i2)), (0, .ref pq)]) hx hb dX9_link_134 hl (k := 0) rfl (nI_1 i4) (by decide) rfl (fun ls hl => ?_)
                refine lv_goto (tgt := 96) hx hb dX9_link_137 (by decide) ?_
                have hO : OKP G h0 a (upd F 2 (nI sz)) R Z B J K117 w := hO.to rfl
                exact ih_4 (i4 + 1) K117 (upL ab4 i2 x115) d4 lz4 _ _ _ _ (by omega) (by omega) hx9 hw9 hp9 ha9 hb9 hu9 hz9 hf126 hg4 hf127 he9 hlb4 h74 hc9 hpx9 hP hD hS hO (lv_sub hl [0, 1, 2, 3] rfl)
          have hO : OKP G h0 a (upd F 2 (nI sz)) R Z B J K79 w := hO.to rfl
          exact loop_4 (bA + 1) 0 K79 (upL (upL ab2 i2 1) i2 x77) dA (0 : Int32) _ _ _ _ (by omega) (by omega) hx5 hw5 hp5 ha5 hb5 hu5 hz5 hf88 hgA2 hf91 (by rw [hK80, hK59]; exact heA3) hbB (fun z => rfl) hc5 hpx5 hP hD hS hO (lv_sub hl [0, 1, 2, 3] rfl)
        · obtain ⟨lzA, hlzA⟩ : ∃ z : Int32, K45.2.1 21 dA = z := ⟨_, rfl⟩
          refine lv_aload_n hx hb dX9_link_22 rfl (lv_at hl 0 rfl) ?_
          refine p_get (v := .int (K45.2.1 18 dA)) (C := RX2) (Tc := TX2) (N := 13) (ci := 2) hx hb hq pin_wsX20 hown hE hP hO (by rw [hf54]; decide) (rep_4 hf54) rfl 3 (by decide) (hq _ pw_1101) (fun _ h9 => h9) rfl dX9_link_23 ?_
          refine lv_if_ne (tgt := 69) hx hb dX9_link_26 (by decide) (fun c128 => ?_) (fun c128 => ?_)
          · have hcn : K45.2.2.1 10 dA = none := hcn0
            have hpxI : PaX K45 dr nd (i2 + 1) := PaX.nul hpx3 heA3 hcn0 c128
            refine lv_aload_n hx hb dX9_link_69 rfl (lv_at hl 0 rfl) ?_
            refine p_get (v := .null) (C := RX2) (Tc := TX2) (N := 13) (ci := 2) hx hb hq pin_wsX20 hown hE hP hO (by rw [hf54]; decide) (rep_4 hf54) rfl 9 (by decide) (hq _ pw_1138) (fun _ h9 => h9) (congrArg (fun z => some (va_rf z)) hcn) dX9_link_70 ?_
            refine lv_ifnullN (tgt := 94) hx hb dX9_link_73 (by decide) ?_
            have hz5 : Bi0 (upL ab2 i2 1) (i2 + 1) := Bi0.up2 hbi2 hi2 (fun z => absurd z h7)
            have hc5 : CAb K45 dr nd (upL ab2 i2 1) (i2 + 1) := CAb.one hc3
            obtain ⟨bA, hbA, hbB⟩ := lz_bound lzA
            refine lv_iconst (v := 0) hx hb dX9_link_94 (by decide) ?_
            refine lv_istore_n (lv' := [(3, .int 0), (2, .ref dA), (1, .int (nI i2)), (0, .ref pq)]) hx hb dX9_link_95 rfl hl (by decide) rfl (fun ls hl => ?_)
            have loop_4 : ∀ (n_4 : Nat) (i4 : Nat) (K4 : PK) (ab4 : Nat → Int64) (d4 : Nat) (lz4 : Int32) (H : Heap) (locs : List Loc) (ls : Array Slot) (w : va_W), i4 ≤ bA → bA + 1 ≤ i4 + n_4 → (LkX K K4) → (WPr G K4 g) → (PgT G K4 g (a 1) pq dr ml nd nm cp it s9) → (AbF K4 dr nd ab4) → (PaB K4 dr nd ab4) → (PaU K4 dr nd (i2 + 1)) → (Bi0 ab4 (i2 + 1)) → (K4.1 d4 = 4) → (¬ g 5 d4 = 2) → (K4.2.1 21 d4 = lz4) → (K4.2.2.2.2.1 dr i2 = some d4) → (∀ i : Nat, i < 2147483648 → nI i < lz4 → i < bA) → (i2 < 7 → lz4 = 0) → (CAb K4 dr nd ab4 (i2 + 1)) → (PaX K4 dr nd (i2 + 1)) → va_P G.1 pCl w H → va_D A w → va_S A s.heap H locs → OKP G h0 a (upd F 2 (nI sz)) R Z B J K4 w → lv_has ls 4 [(3, .int (nI i4)), (2, .ref d4), (1, .int (nI i2)), (0, .ref pq)] → W p l e (headSpec (Cond.code yX9_link cX9_link 4 none :: pw) ({ frames := 3, cells := 0, slots := 0, locals := 82 } : Room)).room s m ([.ref pq] : List Value).toArray below meth c H locs 0 0 (MQ below (pQ G A (fun (v : Option Value) (u : va_W × (PK × (Nat → Int64))) => v = none ∧ (LkX K u.2.1) ∧ (WPr G u.2.1 g) ∧ (PgT G u.2.1 g (a 1) pq dr ml nd nm cp it s9) ∧ (AbF u.2.1 dr nd u.2.2) ∧ (PaB u.2.1 dr nd u.2.2) ∧ (WCl u.2.2 nd nd) ∧ (Bi0 u.2.2 7) ∧ (CAb u.2.1 dr nd u.2.2 nd) ∧ (PaX u.2.1 dr nd nd) ∧ (OKP G h0 a (upd F 2 (nI sz)) R Z B J u.2.1 u.1)) (fun u => u.1)) ([.ref pq] : List Value).toArray s ({ frames := 3, cells := 0, slots := 0, locals := 82 } : Room).cells ({ frames := 3, cells := 0, slots := 0, locals := 82 } : Room).slots A) (F0 m 96 ls []) := by
              intro n_4
              induction n_4 with
              | zero => intro i4 K4 ab4 d4 lz4 H locs ls w hk_4 hn_4; omega
              | succ n_4 ih_4 =>
                intro i4 K4 ab4 d4 lz4 H locs ls w hk_4 hn_4 hqx4 hqw4 hqp4 hqa4 hqb4 hpu4 hbi4 hT4 hg4 hlz4 he4 hlb4 h74 hcb4 hpx4 hP hD hS hO hl
                have hpx := hqp4.1
                have hp1 := hpx.1
                have hp2 := hpx.2.1
                have hp3 := hpx.2.2.1
                have hp4 := hpx.2.2.2.1
                have hp5 := hpx.2.2.2.2.1
                have hp6 := hpx.2.2.2.2.2.1
                have hp8 := hpx.2.2.2.2.2.2.2.1
                have hp9 := hpx.2.2.2.2.2.2.2.2
                refine lv_iload_n hx hb dX9_link_96 rfl (lv_at hl 0 rfl) ?_
                refine lv_aload_n hx hb dX9_link_97 rfl (lv_at hl 1 rfl) ?_
                refine p_get (v := .int lz4) (C := RX2) (Tc := TX2) (N := 13) (ci := 2) hx hb hq pin_wsX20 hown hE hP hO (by rw [hT4]; decide) (rep_4 hT4) rfl 6 (by decide) (hq _ pw_1106) (fun _ h9 => h9) (congrArg (fun z => some (Value.int z)) hlz4) dX9_link_98 ?_
                refine lv_icmp_ge (tgt := 140) hx hb dX9_link_101 (by decide) (fun c129 => ?_) (fun c129 => ?_)
                · refine lv_iinc (v := (nI (i2 + 1))) (lv' := [(1, .int (nI (i2 + 1))), (3, .int (nI i4)), (2, .ref d4), (0, .ref pq)]) hx hb dX9_link_140 hl (k := 2) rfl (nI_1 i2) (by decide) rfl (fun ls hl => ?_)
                  refine lv_goto (tgt := 2) hx hb dX9_link_143 (by decide) ?_
                  have hO : OKP G h0 a (upd F 2 (nI sz)) R Z B J K4 w := hO.to rfl
                  exact ih_2 (i2 + 1) K4 ab4 _ _ _ _ (by omega) (by omega) hqx4 hqw4 hqp4 hqa4 hqb4 hpu4 hbi4 (by omega) hcb4 hpx4 hP hD hS hO (lv_sub hl [0, 3] rfl)
                · have hi9 := hlb4 i4 (by omega) (Int32.not_le.mp c129)
                  have h79 : 7 ≤ i2 := Nat.le_of_not_lt (fun z => by rw [h74 z] at c129; exact c129 (nI_leI (a := 0) (b := i4) (by omega) (by omega) |>.mpr (by omega)))
                  refine lv_aload_n hx hb dX9_link_104 rfl (lv_at hl 1 rfl) ?_
                  refine lv_dup hx hb dX9_link_105 rfl ?_
                  refine p_get (v := .long (K4.2.2.2.1 d4)) (C := RX2) (Tc := TX2) (N := 13) (ci := 2) hx hb hq pin_wsX20 hown hE hP hO (by rw [hT4]; decide) (rep_4 hT4) rfl 10 (by decide) (hq _ pw_102) (fun _ h9 => h9) rfl dX9_link_106 ?_
                  refine lv_lconst (v := 1) hx hb dX9_link_109 (by decide) ?_
                  refine lv_aload_n hx hb dX9_link_110 rfl (lv_at hl 3 rfl) ?_
                  refine lv_aload_n hx hb dX9_link_111 rfl (lv_at hl 3 rfl) ?_
                  refine p_get (v := .ref (a 1)) (C := RX9) (Tc := TX9) (N := 5) (ci := 6) hx hb hq pin_wsX90 hown hE hP hO (by rw [hp1]; decide) (rep_7 hp1) rfl 0 (by decide) (hq _ pw_784) (fun _ h9 => h9) (congrArg (fun z => some (va_rf z)) hp2) dX9_link_112 ?_
                  refine lv_aload_n hx hb dX9_link_115 rfl (lv_at hl 1 rfl) ?_
                  refine p_get (v := .int (K4.2.1 20 d4)) (C := RX2) (Tc := TX2) (N := 13) (ci := 2) hx hb hq pin_wsX20 hown hE hP hO (by rw [hT4]; decide) (rep_4 hT4) rfl 5 (by decide) (hq _ pw_1107) (fun _ h9 => h9) rfl dX9_link_116 ?_
                  refine lv_iconst (v := 2) hx hb dX9_link_119 (by decide) ?_
                  refine lv_iload_n hx hb dX9_link_120 rfl (lv_at hl 0 rfl) ?_
                  refine lv_imul hx hb dX9_link_121 ?_
                  refine lv_topi (fun x130 e131 => ?_)
                  obtain rfl : x130 = nI (2 * i4) := e131.trans (nI_mulN (2) (i4))
                  refine lv_iadd hx hb dX9_link_122 ?_
                  refine lv_topi (fun x132 e133 => ?_)
                  have hO : OKW G h0 a (upd (upd F 2 (nI sz)) 2 (nI sz)) R Z B J K4.1 (fun q99 x99 => x99 = rep G a K4 q99) w := hO.to rfl
                  obtain ⟨_, qr137, hqr138⟩ := hO.2.1 2 _ (sg_2 G h0 a _ _ _ _ _)
                  refine pc_V0 (G := G) (As := [.int x132]) (rest := [.ref pq, .long 1, .long (K4.2.2.2.1 d4), .ref d4]) hx hb hml hown hq hE hX pX0_al hP hD hS hA hl.1 (Y_valueAt l G h0 a (upd F 2 (nI sz)) R Z B J K4.1 (fun q99 x99 => x99 = rep G a K4 q99) w x132 sz (by omega) hO) (gV pw_785 pw_57 pw_58 pw_59 pw_39) hV_X10_valueAt qr137 7 hqr138 rfl rfl rfl (Nat.le_of_ble_eq_true rfl) dX9_link_123 ⟨Nat.le_of_ble_eq_true rfl, Nat.le_of_ble_eq_true rfl⟩ ⟨Nat.le_of_ble_eq_true rfl, Nat.le_of_ble_eq_true rfl⟩ (fun v136 u134 H locs hw135 hP hD hS => ?_)
                  obtain ⟨w, _⟩ := u134
                  obtain ⟨hw135, hO⟩ := hw135
                  obtain rfl : v136 = some (.int (tkN ((B 9)) sz (-1) x132)) := hw135
                  have hO : OKP G h0 a (upd F 2 (nI sz)) R Z B J K4 w := hO.to rfl
                  refine W.widen (k := 0) (n := 0) (Nat.le_of_ble_eq_true rfl) (Nat.le_of_ble_eq_true rfl) ?_
                  refine W.eq (g2 := F0 m 126 ls [.int (tkN ((B 9)) sz (-1) x132), .ref pq, .long 1, .long (K4.2.2.2.1 d4), .ref d4]) rfl ?_
                  have hO : OKP G h0 a (upd F 2 (nI sz)) R Z B J K4 w := hO.to rfl
                  obtain ⟨qr142, hqr143⟩ := p_recv hO (by rw [hp1]; decide) (rep_7 hp1)
                  refine pc_V0 (G := G) (As := [.int (tkN ((B 9)) sz (-1) x132)]) (rest := [.long 1, .long (K4.2.2.2.1 d4), .ref d4]) hx hb hml hown hq hE hX pX0_al hP hD hS hA hl.1 (N_find l G h0 a (upd F 2 (nI sz)) R Z B J K4 w pq dr ml nd (tkN ((B 9)) sz (-1) x132) g hqp4.1 hqp4.2.1 hO) (gV pw_1102 pw_585 pw_586 pw_106 pw_509) hV_X9_find qr142 6 hqr143 rfl rfl rfl (Nat.le_of_ble_eq_true rfl) dX9_link_126 ⟨Nat.le_of_ble_eq_true rfl, Nat.le_of_ble_eq_true rfl⟩ ⟨Nat.le_of_ble_eq_true rfl, Nat.le_of_ble_eq_true rfl⟩ (fun v141 u139 H locs hw140 hP hD hS => ?_)
                  obtain ⟨w, r144⟩ := u139
                  obtain ⟨hw140, h145, hO⟩ := hw140
                  have h145 : FdX K4 dr nd (tkN ((B 9)) sz (-1) x132) r144 := h145
                  obtain rfl : v141 = some (.int r144) := hw140
                  have hO : OKP G h0 a (upd F 2 (nI sz)) R Z B J K4 w := hO.to rfl
                  refine W.widen (k := 0) (n := 0) (Nat.le_of_ble_eq_true rfl) (Nat.le_of_ble_eq_true rfl) ?_
                  refine W.eq (g2 := F0 m 129 ls [.int r144, .long 1, .long (K4.2.2.2.1 d4), .ref d4]) rfl ?_
                  refine lv_lshl hx hb dX9_link_129 rfl ?_
                  refine lv_topl (fun x146 e147 => ?_)
                  refine lv_lor hx hb dX9_link_130 ?_
                  refine lv_topl (fun x148 e149 => ?_)
                  refine p_put (v := .long x148) (ty := .long) (C := RX2) (Tc := TX2) (N := 13) (ci := 2) (K' := (kL K4 d4 x148)) hx hb hq pin_wsX20 tyX2 tyX2_ok nmX2 hown hE hP hD hS hO (by rw [hT4]; decide) (rep_4 hT4) rfl 10 (by decide) (hq _ pw_102) (fun _ h9 => h9) rfl (by decide +kernel) rfl rfl (Nat.le_of_ble_eq_true rfl) rfl (by rw [rep_4 (show (kL K4 d4 x148).1 d4 = 4 from hT4), pl_0] <;> rfl) (fun p9 hp9 => rep_kL hp9) dX9_link_131 (fun H locs w hP hD hS hO => ?_)
                  obtain ⟨K150, hK151⟩ : ∃ z : PK, z = (kL K4 d4 x148) := ⟨_, rfl⟩
                  rw [← hK151] at hO
                  have hf152 : K150.1 pq = 7 := (by rw [hK151]; exact hp1)
                  have hf153 : K150.2.2.1 18 pq = some (a 1) := (by rw [hK151]; exact hp2)
                  have hf154 : K150.2.2.1 14 pq = some dr := (by rw [hK151]; exact hp3)
                  have hf155 : K150.1 dr = 8 := (by rw [hK151]; exact hp4)
                  have hf156 : K150.2.2.1 15 pq = some ml := (by rw [hK151]; exact hp5)
                  have hf157 : K150.1 ml = 5 := (by rw [hK151]; exact hp6)
                  have hf158 : K150.2.1 24 pq = (nI nd) := (by rw [hK151]; exact hp8)
                  have hf159 : K150.1 d4 = 4 := (by rw [hK151]; exact hT4)
                  have hf160 : K150.2.1 21 d4 = lz4 := (by rw [hK151]; exact hlz4)
                  have he40 : K.2.2.2.2.1 dr i2 = some d4 := by rw [← hqx4.2.2.2.1]; exact he4
                  have hlt4 : nI i4 < K.2.1 21 d4 := by rw [← hqx4.2.1, hlz4]; exact Int32.not_le.mp c129
                  obtain ⟨iQ, dQ, hiQ, hfQ, heQ, hcQ⟩ := (hr1.1 i2 h79 (by omega) d4 he40).2.2 i4 (by omega) hlt4
                  have hrQ : r144 = nI iQ := FdX.uniq (by omega) (LkX.fdx hqx4 (by have z8 := h145; rw [e133, hqx4.2.1] at z8; exact z8)) hfQ
                  have hc9 : CAb K150 dr nd (upL ab4 i2 x148) (i2 + 1) := by rw [hK151]; exact CAb.lis hcb4 he4 (by rw [hqx4.2.2.2.1]; exact heQ) (by rw [hqx4.2.1, hcQ]; decide) (fun b hb => by rw [e149, bitL_or, hqa4 i2 (by omega) d4 he4] at hb; exact hb.imp id (fun z => by have z9 := z; rw [e147] at z9; rw [hrQ] at z9; exact bitL_shu (by omega) z9)) (by omega)
                  have hpx9 : PaX K150 dr nd (i2 + 1) := by rw [hK151]; exact hpx4
                  have hx9 : LkX K K150 := by rw [hK151]; exact LkX.kL hqx4
                  have hw9 : WPr G K150 g := by rw [hK151]; exact WPr.kL hqw4 hg4
                  have hp9 : PgT G K150 g (a 1) pq dr ml nd nm cp it s9 := by rw [hK151]; exact PgT.kL hqp4
                  have ha9 : AbF K150 dr nd (upL ab4 i2 x148) := by rw [hK151]; exact AbF.kL hqa4 hqp4.2.1 (by omega) (by omega) he4
                  have hb9 : PaB K150 dr nd (upL ab4 i2 x148) := by rw [hK151]; exact PaB.or hqb4 (Or.inl (fun b hb => by rw [e149, bitL_or]; exact Or.inl (by rw [hqa4 i2 (by omega) d4 he4]; exact hb)))
                  have hu9 : PaU K150 dr nd (i2 + 1) := by rw [hK151]; exact PaU.kL hpu4
                  have hz9 := Bi0.or (v := x148) hbi4 h79
                  have he9 : K150.2.2.2.2.1 dr i2 = some d4 := by rw [hK151]; exact he4
                  refine lv_iinc (v := (nI (i4 + 1))) (lv' := [(3, .int (nI (i4 + 1))), (2, .ref d4), (1, .int (nI i2)), (0, .ref pq)]) hx hb dX9_link_134 hl (k := 0) rfl (nI_1 i4) (by decide) rfl (fun ls hl => ?_)
                  refine lv_goto (tgt := 96) hx hb dX9_link_137 (by decide) ?_
                  have hO : OKP G h0 a (upd F 2 (nI sz)) R Z B J K150 w := hO.to rfl
                  exact ih_4 (i4 + 1) K150 (upL ab4 i2 x148) d4 lz4 _ _ _ _ (by omega) (by omega) hx9 hw9 hp9 ha9 hb9 hu9 hz9 hf159 hg4 hf160 he9 hlb4 h74 hc9 hpx9 hP hD hS hO (lv_sub hl [0, 1, 2, 3] rfl)
            have hO : OKP G h0 a (upd F 2 (nI sz)) R Z B J K45 w := hO.to rfl
            exact loop_4 (bA + 1) 0 K45 (upL ab2 i2 1) dA lzA _ _ _ _ (by omega) (by omega) hx3 hw3 hp3 ha3 hb3 (PaU.up hu3) hz5 hf54 hgA2 hlzA (by skip; exact heA3) hbB (fun z => absurd z h7) hc5 hpxI hP hD hS hO (lv_sub hl [0, 1, 2, 3] rfl)
          · refine lv_aload_n hx hb dX9_link_29 rfl (lv_at hl 0 rfl) ?_
            refine lv_aload_n hx hb dX9_link_30 rfl (lv_at hl 0 rfl) ?_
            refine p_get (v := .int (K45.2.1 19 dA)) (C := RX2) (Tc := TX2) (N := 13) (ci := 2) hx hb hq pin_wsX20 hown hE hP hO (by rw [hf54]; decide) (rep_4 hf54) rfl 4 (by decide) (hq _ pw_1105) (fun _ h9 => h9) rfl dX9_link_31 ?_
            refine lv_iconst (v := (-1)) hx hb dX9_link_34 (by decide) ?_
            refine lv_icmp_ne (tgt := 47) hx hb dX9_link_35 (by decide) (fun c161 => ?_) (fun c161 => ?_)
            · refine lv_aload_n hx hb dX9_link_47 rfl (lv_at hl 2 rfl) ?_
              refine lv_aload_n hx hb dX9_link_48 rfl (lv_at hl 2 rfl) ?_
              refine lv_aload_n hx hb dX9_link_49 rfl (lv_at hl 2 rfl) ?_
              refine p_get (v := .ref (a 1)) (C := RX9) (Tc := TX9) (N := 5) (ci := 6) hx hb hq pin_wsX90 hown hE hP hO (by rw [hf47]; decide) (rep_7 hf47) rfl 0 (by decide) (hq _ pw_784) (fun _ h9 => h9) (congrArg (fun z => some (va_rf z)) hf48) dX9_link_50 ?_
              refine lv_aload_n hx hb dX9_link_53 rfl (lv_at hl 0 rfl) ?_
              refine p_get (v := .int (K45.2.1 19 dA)) (C := RX2) (Tc := TX2) (N := 13) (ci := 2) hx hb hq pin_wsX20 hown hE hP hO (by rw [hf54]; decide) (rep_4 hf54) rfl 4 (by decide) (hq _ pw_1105) (fun _ h9 => h9) rfl dX9_link_54 ?_
              have hO : OKW G h0 a (upd (upd F 2 (nI sz)) 2 (nI sz)) R Z B J K45.1 (fun q99 x99 => x99 = rep G a K45 q99) w := hO.to rfl
              obtain ⟨_, qr165, hqr166⟩ := hO.2.1 2 _ (sg_2 G h0 a _ _ _ _ _)
              refine pc_V0 (G := G) (As := [.int (K45.2.1 19 dA)]) (rest := [.ref pq, .ref pq, .ref dA]) hx hb hml hown hq hE hX pX0_al hP hD hS hA hl.1 (Y_valueAt l G h0 a (upd F 2 (nI sz)) R Z B J K45.1 (fun q99 x99 => x99 = rep G a K45 q99) w (K45.2.1 19 dA) sz (by omega) hO) (gV pw_785 pw_57 pw_58 pw_59 pw_39) hV_X10_valueAt qr165 7 hqr166 rfl rfl rfl (Nat.le_of_ble_eq_true rfl) dX9_link_57 ⟨Nat.le_of_ble_eq_true rfl, Nat.le_of_ble_eq_true rfl⟩ ⟨Nat.le_of_ble_eq_true rfl, Nat.le_of_ble_eq_true rfl⟩ (fun v164 u162 H locs hw163 hP hD hS => ?_)
              obtain ⟨w, _⟩ := u162
              obtain ⟨hw163, hO⟩ := hw163
              obtain rfl : v164 = some (.int (tkN ((B 9)) sz (-1) (K45.2.1 19 dA))) := hw163
              have hO : OKP G h0 a (upd F 2 (nI sz)) R Z B J K45 w := hO.to rfl
              refine W.widen (k := 0) (n := 0) (Nat.le_of_ble_eq_true rfl) (Nat.le_of_ble_eq_true rfl) ?_
              refine W.eq (g2 := F0 m 60 ls [.int (tkN ((B 9)) sz (-1) (K45.2.1 19 dA)), .ref pq, .ref pq, .ref dA]) rfl ?_
              have hO : OKP G h0 a (upd F 2 (nI sz)) R Z B J K45 w := hO.to rfl
              obtain ⟨qr170, hqr171⟩ := p_recv hO (by rw [hf47]; decide) (rep_7 hf47)
              refine pc_V0 (G := G) (As := [.int (tkN ((B 9)) sz (-1) (K45.2.1 19 dA))]) (rest := [.ref pq, .ref dA]) hx hb hml hown hq hE hX pX0_al hP hD hS hA hl.1 (N_find l G h0 a (upd F 2 (nI sz)) R Z B J K45 w pq dr ml nd (tkN ((B 9)) sz (-1) (K45.2.1 19 dA)) g hp3.1 hp3.2.1 hO) (gV pw_1102 pw_585 pw_586 pw_106 pw_509) hV_X9_find qr170 6 hqr171 rfl rfl rfl (Nat.le_of_ble_eq_true rfl) dX9_link_60 ⟨Nat.le_of_ble_eq_true rfl, Nat.le_of_ble_eq_true rfl⟩ ⟨Nat.le_of_ble_eq_true rfl, Nat.le_of_ble_eq_true rfl⟩ (fun v169 u167 H locs hw168 hP hD hS => ?_)
              obtain ⟨w, r172⟩ := u167
              obtain ⟨hw168, h173, hO⟩ := hw168
              have h173 : FdX K45 dr nd (tkN ((B 9)) sz (-1) (K45.2.1 19 dA)) r172 := h173
              obtain rfl : v169 = some (.int r172) := hw168
              have hO : OKP G h0 a (upd F 2 (nI sz)) R Z B J K45 w := hO.to rfl
              refine W.widen (k := 0) (n := 0) (Nat.le_of_ble_eq_true rfl) (Nat.le_of_ble_eq_true rfl) ?_
              refine W.eq (g2 := F0 m 63 ls [.int r172, .ref pq, .ref dA]) rfl ?_
              have hO : OKP G h0 a (upd F 2 (nI sz)) R Z B J K45 w := hO.to rfl
              obtain ⟨qr177, hqr178⟩ := p_recv hO (by rw [hf47]; decide) (rep_7 hf47)
              refine pc_V0 (G := G) (As := [.int r172]) (rest := [.ref dA]) hx hb hml hown hq hE hX pX0_al hP hD hS hA hl.1 (N_decl l G h0 a (upd F 2 (nI sz)) R Z B J K45 w pq dr ml nd r172 g hp3.1 hp3.2.1 hO) (gV pw_1103 pw_182 pw_183 pw_106 pw_13) hV_X9_decl qr177 6 hqr178 rfl rfl rfl (Nat.le_of_ble_eq_true rfl) dX9_link_63 ⟨Nat.le_of_ble_eq_true rfl, Nat.le_of_ble_eq_true rfl⟩ ⟨Nat.le_of_ble_eq_true rfl, Nat.le_of_ble_eq_true rfl⟩ (fun v176 u174 H locs hw175 hP hD hS => ?_)
              obtain ⟨w, o179⟩ := u174
              obtain ⟨hw175, h180, h181, h182, hO⟩ := hw175
              have h180 : DoN K45 o179 := h180
              have h181 : DoK K45 dr nd r172 o179 := h181
              have h182 : DoA K45 dr nd r172 o179 := h182
              obtain rfl : v176 = some ((va_rf o179)) := hw175
              have hO : OKP G h0 a (upd F 2 (nI sz)) R Z B J K45 w := hO.to rfl
              refine W.widen (k := 0) (n := 0) (Nat.le_of_ble_eq_true rfl) (Nat.le_of_ble_eq_true rfl) ?_
              refine W.eq (g2 := F0 m 66 ls [(va_rf o179), .ref dA]) rfl ?_
              obtain ⟨iP, dP, hiP, hfP, heP0, hcP⟩ := (hr1.1 i2 (by omega) (by omega) dA (by rw [← hx3.2.2.2.1]; exact heA3)).2.1 (by rw [← hx3.2.1]; exact c161)
              have hrP : r172 = nI iP := FdX.uniq (by omega) (LkX.fdx hx3 (by have z8 := h173; rw [hx3.2.1] at z8; exact z8)) hfP
              obtain rfl : o179 = some dP := h182 iP dP hiP hrP (by rw [hx3.2.2.2.1]; exact heP0)
              have heP : K45.2.2.2.2.1 dr iP = some dP := by rw [hx3.2.2.2.1]; exact heP0
              have htP := h180 dP rfl
              obtain ⟨dQ, heQ, _, hnQ, _⟩ := hp3.2.1 iP hiP
              rw [heP] at heQ
              cases heQ
              refine W.eq (g2 := F0 m 66 ls [.ref dP, .ref dA]) rfl ?_
              refine p_put (v := .ref dP) (ty := (.object "JinjaTongue$Decl")) (C := RX2) (Tc := TX2) (N := 13) (ci := 2) (K' := (kC K45 10 dA (some dP))) hx hb hq pin_wsX20 tyX2 tyX2_ok nmX2 hown hE hP hD hS hO (by rw [hf54]; decide) (rep_4 hf54) rfl 9 (by decide) (hq _ pw_1138) (fun _ h9 => h9) rfl (by decide +kernel) rfl rfl (Nat.le_of_ble_eq_true rfl) rfl (by rw [rep_4 (show (kC K45 10 dA (some dP)).1 dA = 4 from hf54), pc_10] <;> rfl) (fun p9 hp9 => rep_kC hp9) dX9_link_66 (fun H locs w hP hD hS hO => ?_)
              obtain ⟨K183, hK184⟩ : ∃ z : PK, z = (kC K45 10 dA (some dP)) := ⟨_, rfl⟩
              rw [← hK184] at hO
              have hf185 : K183.1 pq = 7 := (by rw [hK184]; exact hf47)
              have hf186 : K183.2.2.1 18 pq = some (a 1) := (by rw [hK184]; exact (kC_of (by decide)).trans hf48)
              have hf187 : K183.2.2.1 14 pq = some dr := (by rw [hK184]; exact (kC_of (by decide)).trans hf49)
              have hf188 : K183.1 dr = 8 := (by rw [hK184]; exact hf50)
              have hf189 : K183.2.2.1 15 pq = some ml := (by rw [hK184]; exact (kC_of (by decide)).trans hf51)
              have hf190 : K183.1 ml = 5 := (by rw [hK184]; exact hf52)
              have hf191 : K183.2.1 24 pq = (nI nd) := (by rw [hK184]; exact hf53)
              have hf192 : K183.1 dA = 4 := (by rw [hK184]; exact hf54)
              have hf193 : K183.2.1 15 dA = (nI i2) := (by rw [hK184]; exact hf55)
              have hf194 : K183.2.1 21 dA = lzA := (by rw [hK184]; exact hlzA)
              have hf195 : K183.1 dP = 4 := (by rw [hK184]; exact htP)
              have hf196 : K183.2.1 15 dP = (nI iP) := (by rw [hK184]; exact hnQ)
              have hf197 : K183.2.2.1 10 dA = some dP := by rw [hK184]; exact kC_eq
              have hx4 : LkX K K183 := by rw [hK184]; exact LkX.kC hx3
              have hw4 : WPr G K183 g := by rw [hK184]; exact WPr.par hw3 hgA2 (fun d h => by cases h; exact htP)
              have hp4 : PgT G K183 g (a 1) pq dr ml nd nm cp it s9 := by rw [hK184]; exact PgT.kC hp3
              have ha4 : AbF K183 dr nd (upL ab2 i2 1) := by rw [hK184]; exact AbF.kC ha3
              have hu4 : PaU K183 dr nd (i2 + 1) := by rw [hK184]; exact PaU.kC hu3 hp3.2.1 (by omega) (by omega) heA3
              have hl4 : K183.2.2.2.1 dA = 1 := by rw [hK184]; exact hl3
              have hc4 : CAb K183 dr nd (upL ab2 i2 1) i2 := by rw [hK184]; exact CAb.kC hc3 hcn0
              have hpx4 : PaX K183 dr nd (i2 + 1) := by rw [hK184]; exact PaX.put hpx3 hp3.2.1 (by omega) (by omega) heA3 (by omega) heP (by rw [hx3.2.1]; exact hcP) hi2 c128
              refine lv_aload_n hx hb dX9_link_69 rfl (lv_at hl 0 rfl) ?_
              refine p_get (v := .ref dP) (C := RX2) (Tc := TX2) (N := 13) (ci := 2) hx hb hq pin_wsX20 hown hE hP hO (by rw [hf192]; decide) (rep_4 hf192) rfl 9 (by decide) (hq _ pw_1138) (fun _ h9 => h9) (congrArg (fun z => some (va_rf z)) hf197) dX9_link_70 ?_
              refine lv_ifnull hx hb dX9_link_73 ?_
              refine lv_aload_n hx hb dX9_link_76 rfl (lv_at hl 0 rfl) ?_
              refine lv_dup hx hb dX9_link_77 rfl ?_
              refine p_get (v := .long (K183.2.2.2.1 dA)) (C := RX2) (Tc := TX2) (N := 13) (ci := 2) hx hb hq pin_wsX20 hown hE hP hO (by rw [hf192]; decide) (rep_4 hf192) rfl 10 (by decide) (hq _ pw_102) (fun _ h9 => h9) rfl dX9_link_78 ?_
              refine lv_lconst (v := 1) hx hb dX9_link_81 (by decide) ?_
              refine lv_aload_n hx hb dX9_link_82 rfl (lv_at hl 0 rfl) ?_
              refine p_get (v := .ref dP) (C := RX2) (Tc := TX2) (N := 13) (ci := 2) hx hb hq pin_wsX20 hown hE hP hO (by rw [hf192]; decide) (rep_4 hf192) rfl 9 (by decide) (hq _ pw_1138) (fun _ h9 => h9) (congrArg (fun z => some (va_rf z)) hf197) dX9_link_83 ?_
              refine p_get (v := .int (nI iP)) (C := RX2) (Tc := TX2) (N := 13) (ci := 2) hx hb hq pin_wsX20 hown hE hP hO (by rw [hf195]; decide) (rep_4 hf195) rfl 0 (by decide) (hq _ pw_1139) (fun _ h9 => h9) (congrArg (fun z => some (Value.int z)) hf196) dX9_link_86 ?_
              refine lv_lshl hx hb dX9_link_89 rfl ?_
              refine lv_topl (fun x198 e199 => ?_)
              refine lv_lor hx hb dX9_link_90 ?_
              refine lv_topl (fun x200 e201 => ?_)
              refine p_put (v := .long x200) (ty := .long) (C := RX2) (Tc := TX2) (N := 13) (ci := 2) (K' := (kL K183 dA x200)) hx hb hq pin_wsX20 tyX2 tyX2_ok nmX2 hown hE hP hD hS hO (by rw [hf192]; decide) (rep_4 hf192) rfl 10 (by decide) (hq _ pw_102) (fun _ h9 => h9) rfl (by decide +kernel) rfl rfl (Nat.le_of_ble_eq_true rfl) rfl (by rw [rep_4 (show (kL K183 dA x200).1 dA = 4 from hf192), pl_0] <;> rfl) (fun p9 hp9 => rep_kL hp9) dX9_link_91 (fun H locs w hP hD hS hO => ?_)
              obtain ⟨K202, hK203⟩ : ∃ z : PK, z = (kL K183 dA x200) := ⟨_, rfl⟩
              rw [← hK203] at hO
              have hf204 : K202.1 pq = 7 := (by rw [hK203]; exact hf185)
              have hf205 : K202.2.2.1 18 pq = some (a 1) := (by rw [hK203]; exact hf186)
              have hf206 : K202.2.2.1 14 pq = some dr := (by rw [hK203]; exact hf187)
              have hf207 : K202.1 dr = 8 := (by rw [hK203]; exact hf188)
              have hf208 : K202.2.2.1 15 pq = some ml := (by rw [hK203]; exact hf189)
              have hf209 : K202.1 ml = 5 := (by rw [hK203]; exact hf190)
              have hf210 : K202.2.1 24 pq = (nI nd) := (by rw [hK203]; exact hf191)
              have hf211 : K202.1 dA = 4 := (by rw [hK203]; exact hf192)
              have hf212 : K202.2.1 15 dA = (nI i2) := (by rw [hK203]; exact hf193)
              have hf213 : K202.2.1 21 dA = lzA := (by rw [hK203]; exact hf194)
              have hf214 : K202.1 dP = 4 := (by rw [hK203]; exact hf195)
              have hf215 : K202.2.1 15 dP = (nI iP) := (by rw [hK203]; exact hf196)
              have hf216 : K202.2.2.1 10 dA = some dP := (by rw [hK203]; exact hf197)
              have hbp : bitL x200 iP := by rw [e201, bitL_or, e199]; exact Or.inr (bitL_shl iP (by omega))
              have hx5 : LkX K K202 := by rw [hK203]; exact LkX.kL hx4
              have hw5 : WPr G K202 g := by rw [hK203]; exact WPr.kL hw4 hgA2
              have hp5 : PgT G K202 g (a 1) pq dr ml nd nm cp it s9 := by rw [hK203]; exact PgT.kL hp4
              have heA4 : K183.2.2.2.2.1 dr i2 = some dA := by rw [hK184]; exact heA3
              have ha5 : AbF K202 dr nd (upL (upL ab2 i2 1) i2 x200) := by rw [hK203]; exact AbF.kL ha4 hp4.2.1 (by omega) (by omega) heA4
              have hb5 : PaB K202 dr nd (upL (upL ab2 i2 1) i2 x200) := by rw [hK203, hK184]; exact PaB.par hb3 hp3.2.1 (by omega) (by omega) heA3 (by omega) heP hbp
              have hu5 : PaU K202 dr nd (i2 + 1) := by rw [hK203]; exact PaU.kL hu4
              have hz5 := Bi0.up (v := x200) hz3 hi2 (fun z => absurd z h7)
              have hc5 : CAb K202 dr nd (upL (upL ab2 i2 1) i2 x200) (i2 + 1) := by rw [hK203]; exact CAb.par hc4 heA4 (by rw [hK184]; exact kC_eq) (by rw [hK184]; exact heP) (by omega) (by omega) (by omega) hp4.2.1 (fun b hb => by rw [e201, hl4, bitL_or, e199] at hb; exact hb.imp bitL_one (bitL_shu (by omega))) (by rw [hK184]; exact c128)
              have hpx5 : PaX K202 dr nd (i2 + 1) := by rw [hK203]; exact hpx4
              obtain ⟨bA, hbA, hbB⟩ := lz_bound lzA
              refine lv_iconst (v := 0) hx hb dX9_link_94 (by decide) ?_
              refine lv_istore_n (lv' := [(3, .int 0), (2, .ref dA), (1, .int (nI i2)), (0, .ref pq)]) hx hb dX9_link_95 rfl hl (by decide) rfl (fun ls hl => ?_)
              have loop_4 : ∀ (n_4 : Nat) (i4 : Nat) (K4 : PK) (ab4 : Nat → Int64) (d4 : Nat) (lz4 : Int32) (H : Heap) (locs : List Loc) (ls : Array Slot) (w : va_W), i4 ≤ bA → bA + 1 ≤ i4 + n_4 → (LkX K K4) → (WPr G K4 g) → (PgT G K4 g (a 1) pq dr ml nd nm cp it s9) → (AbF K4 dr nd ab4) → (PaB K4 dr nd ab4) → (PaU K4 dr nd (i2 + 1)) → (Bi0 ab4 (i2 + 1)) → (K4.1 d4 = 4) → (¬ g 5 d4 = 2) → (K4.2.1 21 d4 = lz4) → (K4.2.2.2.2.1 dr i2 = some d4) → (∀ i : Nat, i < 2147483648 → nI i < lz4 → i < bA) → (i2 < 7 → lz4 = 0) → (CAb K4 dr nd ab4 (i2 + 1)) → (PaX K4 dr nd (i2 + 1)) → va_P G.1 pCl w H → va_D A w → va_S A s.heap H locs → OKP G h0 a (upd F 2 (nI sz)) R Z B J K4 w → lv_has ls 4 [(3, .int (nI i4)), (2, .ref d4), (1, .int (nI i2)), (0, .ref pq)] → W p l e (headSpec (Cond.code yX9_link cX9_link 4 none :: pw) ({ frames := 3, cells := 0, slots := 0, locals := 82 } : Room)).room s m ([.ref pq] : List Value).toArray below meth c H locs 0 0 (MQ below (pQ G A (fun (v : Option Value) (u : va_W × (PK × (Nat → Int64))) => v = none ∧ (LkX K u.2.1) ∧ (WPr G u.2.1 g) ∧ (PgT G u.2.1 g (a 1) pq dr ml nd nm cp it s9) ∧ (AbF u.2.1 dr nd u.2.2) ∧ (PaB u.2.1 dr nd u.2.2) ∧ (WCl u.2.2 nd nd) ∧ (Bi0 u.2.2 7) ∧ (CAb u.2.1 dr nd u.2.2 nd) ∧ (PaX u.2.1 dr nd nd) ∧ (OKP G h0 a (upd F 2 (nI sz)) R Z B J u.2.1 u.1)) (fun u => u.1)) ([.ref pq] : List Value).toArray s ({ frames := 3, cells := 0, slots := 0, locals := 82 } : Room).cells ({ frames := 3, cells := 0, slots := 0, locals := 82 } : Room).slots A) (F0 m 96 ls []) := by
                intro n_4
                induction n_4 with
                | zero => intro i4 K4 ab4 d4 lz4 H locs ls w hk_4 hn_4; omega
                | succ n_4 ih_4 =>
                  intro i4 K4 ab4 d4 lz4 H locs ls w hk_4 hn_4 hqx4 hqw4 hqp4 hqa4 hqb4 hpu4 hbi4 hT4 hg4 hlz4 he4 hlb4 h74 hcb4 hpx4 hP hD hS hO hl
                  have hpx := hqp4.1
                  have hp1 := hpx.1
                  have hp2 := hpx.2.1
                  have hp3 := hpx.2.2.1
                  have hp4 := hpx.2.2.2.1
                  have hp5 := hpx.2.2.2.2.1
                  have hp6 := hpx.2.2.2.2.2.1
                  have hp8 := hpx.2.2.2.2.2.2.2.1
                  have hp9 := hpx.2.2.2.2.2.2.2.2
                  refine lv_iload_n hx hb dX9_link_96 rfl (lv_at hl 0 rfl) ?_
                  refine lv_aload_n hx hb dX9_link_97 rfl (lv_at hl 1 rfl) ?_
                  refine p_get (v := .int lz4) (C := RX2) (Tc := TX2) (N := 13) (ci := 2) hx hb hq pin_wsX20 hown hE hP hO (by rw [hT4]; decide) (rep_4 hT4) rfl 6 (by decide) (hq _ pw_1106) (fun _ h9 => h9) (congrArg (fun z => some (Value.int z)) hlz4) dX9_link_98 ?_
                  refine lv_icmp_ge (tgt := 140) hx hb dX9_link_101 (by decide) (fun c217 => ?_) (fun c217 => ?_)
                  · refine lv_iinc (v := (nI (i2 + 1))) (lv' := [(1, .int (nI (i2 + 1))), (3, .int (nI i4)), (2, .ref d4), (0, .ref pq)]) hx hb dX9_link_140 hl (k := 2) rfl (nI_1 i2) (by decide) rfl (fun ls hl => ?_)
                    refine lv_goto (tgt := 2) hx hb dX9_link_143 (by decide) ?_
                    have hO : OKP G h0 a (upd F 2 (nI sz)) R Z B J K4 w := hO.to rfl
                    exact ih_2 (i2 + 1) K4 ab4 _ _ _ _ (by omega) (by omega) hqx4 hqw4 hqp4 hqa4 hqb4 hpu4 hbi4 (by omega) hcb4 hpx4 hP hD hS hO (lv_sub hl [0, 3] rfl)
                  · have hi9 := hlb4 i4 (by omega) (Int32.not_le.mp c217)
                    have h79 : 7 ≤ i2 := Nat.le_of_not_lt (fun z => by rw [h74 z] at c217; exact c217 (nI_leI (a := 0) (b := i4) (by omega) (by omega) |>.mpr (by omega)))
                    refine lv_aload_n hx hb dX9_link_104 rfl (lv_at hl 1 rfl) ?_
                    refine lv_dup hx hb dX9_link_105 rfl ?_
                    refine p_get (v := .long (K4.2.2.2.1 d4)) (C := RX2) (Tc := TX2) (N := 13) (ci := 2) hx hb hq pin_wsX20 hown hE hP hO (by rw [hT4]; decide) (rep_4 hT4) rfl 10 (by decide) (hq _ pw_102) (fun _ h9 => h9) rfl dX9_link_106 ?_
                    refine lv_lconst (v := 1) hx hb dX9_link_109 (by decide) ?_
                    refine lv_aload_n hx hb dX9_link_110 rfl (lv_at hl 3 rfl) ?_
                    refine lv_aload_n hx hb dX9_link_111 rfl (lv_at hl 3 rfl) ?_
                    refine p_get (v := .ref (a 1)) (C := RX9) (Tc := TX9) (N := 5) (ci := 6) hx hb hq pin_wsX90 hown hE hP hO (by rw [hp1]; decide) (rep_7 hp1) rfl 0 (by decide) (hq _ pw_784) (fun _ h9 => h9) (congrArg (fun z => some (va_rf z)) hp2) dX9_link_112 ?_
                    refine lv_aload_n hx hb dX9_link_115 rfl (lv_at hl 1 rfl) ?_
                    refine p_get (v := .int (K4.2.1 20 d4)) (C := RX2) (Tc := TX2) (N := 13) (ci := 2) hx hb hq pin_wsX20 hown hE hP hO (by rw [hT4]; decide) (rep_4 hT4) rfl 5 (by decide) (hq _ pw_1107) (fun _ h9 => h9) rfl dX9_link_116 ?_
                    refine lv_iconst (v := 2) hx hb dX9_link_119 (by decide) ?_
                    refine lv_iload_n hx hb dX9_link_120 rfl (lv_at hl 0 rfl) ?_
                    refine lv_imul hx hb dX9_link_121 ?_
                    refine lv_topi (fun x218 e219 => ?_)
                    obtain rfl : x218 = nI (2 * i4) := e219.trans (nI_mulN (2) (i4))
                    refine lv_iadd hx hb dX9_link_122 ?_
                    refine lv_topi (fun x220 e221 => ?_)
                    have hO : OKW G h0 a (upd (upd F 2 (nI sz)) 2 (nI sz)) R Z B J K4.1 (fun q99 x99 => x99 = rep G a K4 q99) w := hO.to rfl
                    obtain ⟨_, qr225, hqr226⟩ := hO.2.1 2 _ (sg_2 G h0 a _ _ _ _ _)
                    refine pc_V0 (G := G) (As := [.int x220]) (rest := [.ref pq, .long 1, .long (K4.2.2.2.1 d4), .ref d4]) hx hb hml hown hq hE hX pX0_al hP hD hS hA hl.1 (Y_valueAt l G h0 a (upd F 2 (nI sz)) R Z B J K4.1 (fun q99 x99 => x99 = rep G a K4 q99) w x220 sz (by omega) hO) (gV pw_785 pw_57 pw_58 pw_59 pw_39) hV_X10_valueAt qr225 7 hqr226 rfl rfl rfl (Nat.le_of_ble_eq_true rfl) dX9_link_123 ⟨Nat.le_of_ble_eq_true rfl, Nat.le_of_ble_eq_true rfl⟩ ⟨Nat.le_of_ble_eq_true rfl, Nat.le_of_ble_eq_true rfl⟩ (fun v224 u222 H locs hw223 hP hD hS => ?_)
                    obtain ⟨w, _⟩ := u222
                    obtain ⟨hw223, hO⟩ := hw223
                    obtain rfl : v224 = some (.int (tkN ((B 9)) sz (-1) x220)) := hw223
                    have hO : OKP G h0 a (upd F 2 (nI sz)) R Z B J K4 w := hO.to rfl
                    refine W.widen (k := 0) (n := 0) (Nat.le_of_ble_eq_true rfl) (Nat.le_of_ble_eq_true rfl) ?_
                    refine W.eq (g2 := F0 m 126 ls [.int (tkN ((B 9)) sz (-1) x220), .ref pq, .long 1, .long (K4.2.2.2.1 d4), .ref d4]) rfl ?_
                    have hO : OKP G h0 a (upd F 2 (nI sz)) R Z B J K4 w := hO.to rfl
                    obtain ⟨qr230, hqr231⟩ := p_recv hO (by rw [hp1]; decide) (rep_7 hp1)
                    refine pc_V0 (G := G) (As := [.int (tkN ((B 9)) sz (-1) x220)]) (rest := [.long 1, .long (K4.2.2.2.1 d4), .ref d4]) hx hb hml hown hq hE hX pX0_al hP hD hS hA hl.1 (N_find l G h0 a (upd F 2 (nI sz)) R Z B J K4 w pq dr ml nd (tkN ((B 9)) sz (-1) x220) g hqp4.1 hqp4.2.1 hO) (gV pw_1102 pw_585 pw_586 pw_106 pw_509) hV_X9_find qr230 6 hqr231 rfl rfl rfl (Nat.le_of_ble_eq_true rfl) dX9_link_126 ⟨Nat.le_of_ble_eq_true rfl, Nat.le_of_ble_eq_true rfl⟩ ⟨Nat.le_of_ble_eq_true rfl, Nat.le_of_ble_eq_true rfl⟩ (fun v229 u227 H locs hw228 hP hD hS => ?_)
                    obtain ⟨w, r232⟩ := u227
                    obtain ⟨hw228, h233, hO⟩ := hw228
                    have h233 : FdX K4 dr nd (tkN ((B 9)) sz (-1) x220) r232 := h233
                    obtain rfl : v229 = some (.int r232) := hw228
                    have hO : OKP G h0 a (upd F 2 (nI sz)) R Z B J K4 w := hO.to rfl
                    refine W.widen (k := 0) (n := 0) (Nat.le_of_ble_eq_true rfl) (Nat.le_of_ble_eq_true rfl) ?_
                    refine W.eq (g2 := F0 m 129 ls [.int r232, .long 1, .long (K4.2.2.2.1 d4), .ref d4]) rfl ?_
                    refine lv_lshl hx hb dX9_link_129 rfl ?_
                    refine lv_topl (fun x234 e235 => ?_)
                    refine lv_lor hx hb dX9_link_130 ?_
                    refine lv_topl (fun x236 e237 => ?_)
                    refine p_put (v := .long x236) (ty := .long) (C := RX2) (Tc := TX2) (N := 13) (ci := 2) (K' := (kL K4 d4 x236)) hx hb hq pin_wsX20 tyX2 tyX2_ok nmX2 hown hE hP hD hS hO (by rw [hT4]; decide) (rep_4 hT4) rfl 10 (by decide) (hq _ pw_102) (fun _ h9 => h9) rfl (by decide +kernel) rfl rfl (Nat.le_of_ble_eq_true rfl) rfl (by rw [rep_4 (show (kL K4 d4 x236).1 d4 = 4 from hT4), pl_0] <;> rfl) (fun p9 hp9 => rep_kL hp9) dX9_link_131 (fun H locs w hP hD hS hO => ?_)
                    obtain ⟨K238, hK239⟩ : ∃ z : PK, z = (kL K4 d4 x236) := ⟨_, rfl⟩
                    rw [← hK239] at hO
                    have hf240 : K238.1 pq = 7 := (by rw [hK239]; exact hp1)
                    have hf241 : K238.2.2.1 18 pq = some (a 1) := (by rw [hK239]; exact hp2)
                    have hf242 : K238.2.2.1 14 pq = some dr := (by rw [hK239]; exact hp3)
                    have hf243 : K238.1 dr = 8 := (by rw [hK239]; exact hp4)
                    have hf244 : K238.2.2.1 15 pq = some ml := (by rw [hK239]; exact hp5)
                    have hf245 : K238.1 ml = 5 := (by rw [hK239]; exact hp6)
                    have hf246 : K238.2.1 24 pq = (nI nd) := (by rw [hK239]; exact hp8)
                    have hf247 : K238.1 d4 = 4 := (by rw [hK239]; exact hT4)
                    have hf248 : K238.2.1 21 d4 = lz4 := (by rw [hK239]; exact hlz4)
                    have he40 : K.2.2.2.2.1 dr i2 = some d4 := by rw [← hqx4.2.2.2.1]; exact he4
                    have hlt4 : nI i4 < K.2.1 21 d4 := by rw [← hqx4.2.1, hlz4]; exact Int32.not_le.mp c217
                    obtain ⟨iQ, dQ, hiQ, hfQ, heQ, hcQ⟩ := (hr1.1 i2 h79 (by omega) d4 he40).2.2 i4 (by omega) hlt4
                    have hrQ : r232 = nI iQ := FdX.uniq (by omega) (LkX.fdx hqx4 (by have z8 := h233; rw [e221, hqx4.2.1] at z8; exact z8)) hfQ
                    have hc9 : CAb K238 dr nd (upL ab4 i2 x236) (i2 + 1) := by rw [hK239]; exact CAb.lis hcb4 he4 (by rw [hqx4.2.2.2.1]; exact heQ) (by rw [hqx4.2.1, hcQ]; decide) (fun b hb => by rw [e237, bitL_or, hqa4 i2 (by omega) d4 he4] at hb; exact hb.imp id (fun z => by have z9 := z; rw [e235] at z9; rw [hrQ] at z9; exact bitL_shu (by omega) z9)) (by omega)
                    have hpx9 : PaX K238 dr nd (i2 + 1) := by rw [hK239]; exact hpx4
                    have hx9 : LkX K K238 := by rw [hK239]; exact LkX.kL hqx4
                    have hw9 : WPr G K238 g := by rw [hK239]; exact WPr.kL hqw4 hg4
                    have hp9 : PgT G K238 g (a 1) pq dr ml nd nm cp it s9 := by rw [hK239]; exact PgT.kL hqp4
                    have ha9 : AbF K238 dr nd (upL ab4 i2 x236) := by rw [hK239]; exact AbF.kL hqa4 hqp4.2.1 (by omega) (by omega) he4
                    have hb9 : PaB K238 dr nd (upL ab4 i2 x236) := by rw [hK239]; exact PaB.or hqb4 (Or.inl (fun b hb => by rw [e237, bitL_or]; exact Or.inl (by rw [hqa4 i2 (by omega) d4 he4]; exact hb)))
                    have hu9 : PaU K238 dr nd (i2 + 1) := by rw [hK239]; exact PaU.kL hpu4
                    have hz9 := Bi0.or (v := x236) hbi4 h79
                    have he9 : K238.2.2.2.2.1 dr i2 = some d4 := by rw [hK239]; exact he4
                    refine lv_iinc (v := (nI (i4 + 1))) (lv' := [(3, .int (nI (i4 + 1))), (2, .ref d4), (1, .int (nI i2)), (0, .ref pq)]) hx hb dX9_link_134 hl (k := 0) rfl (nI_1 i4) (by decide) rfl (fun ls hl => ?_)
                    refine lv_goto (tgt := 96) hx hb dX9_link_137 (by decide) ?_
                    have hO : OKP G h0 a (upd F 2 (nI sz)) R Z B J K238 w := hO.to rfl
                    exact ih_4 (i4 + 1) K238 (upL ab4 i2 x236) d4 lz4 _ _ _ _ (by omega) (by omega) hx9 hw9 hp9 ha9 hb9 hu9 hz9 hf247 hg4 hf248 he9 hlb4 h74 hc9 hpx9 hP hD hS hO (lv_sub hl [0, 1, 2, 3] rfl)
              have hO : OKP G h0 a (upd F 2 (nI sz)) R Z B J K202 w := hO.to rfl
              exact loop_4 (bA + 1) 0 K202 (upL (upL ab2 i2 1) i2 x200) dA lzA _ _ _ _ (by omega) (by omega) hx5 hw5 hp5 ha5 hb5 hu5 hz5 hf211 hgA2 hf213 (by rw [hK203, hK184]; exact heA3) hbB (fun z => absurd z h7) hc5 hpx5 hP hD hS hO (lv_sub hl [0, 1, 2, 3] rfl)
            · refine lv_aload_n hx hb dX9_link_38 rfl (lv_at hl 2 rfl) ?_
              refine p_get (v := .ref dr) (C := RX9) (Tc := TX9) (N := 5) (ci := 6) hx hb hq pin_wsX90 hown hE hP hO (by rw [hf47]; decide) (rep_7 hf47) rfl 1 (by decide) (hq _ pw_15) (fun _ h9 => h9) (congrArg (fun z => some (va_rf z)) hf49) dX9_link_39 ?_
              refine lv_iconst (v := 0) hx hb dX9_link_42 (by decide) ?_
              refine W.eq (g2 := F0 m 43 ls [.int (nI 0), .ref dr, .ref dA]) rfl ?_
              refine p_ald8 hx hb hE hP hO hf50 (vp_in_nI (by omega) (by omega)) dX9_link_43 ?_
              rw [nI_clamp (show 0 < 2 ^ 31 by omega)]
              obtain ⟨dP, heP, htP, hnP, hgP⟩ := hp3.2.1 0 (by omega)
              rw [heP]
              refine W.eq (g2 := F0 m 44 ls [.ref dP, .ref dA]) rfl ?_
              refine lv_goto (tgt := 66) hx hb dX9_link_44 (by decide) ?_
              refine p_put (v := .ref dP) (ty := (.object "JinjaTongue$Decl")) (C := RX2) (Tc := TX2) (N := 13) (ci := 2) (K' := (kC K45 10 dA (some dP))) hx hb hq pin_wsX20 tyX2 tyX2_ok nmX2 hown hE hP hD hS hO (by rw [hf54]; decide) (rep_4 hf54) rfl 9 (by decide) (hq _ pw_1138) (fun _ h9 => h9) rfl (by decide +kernel) rfl rfl (Nat.le_of_ble_eq_true rfl) rfl (by rw [rep_4 (show (kC K45 10 dA (some dP)).1 dA = 4 from hf54), pc_10] <;> rfl) (fun p9 hp9 => rep_kC hp9) dX9_link_66 (fun H locs w hP hD hS hO => ?_)
              obtain ⟨K249, hK250⟩ : ∃ z : PK, z = (kC K45 10 dA (some dP)) := ⟨_, rfl⟩
              rw [← hK250] at hO
              have hf251 : K249.1 pq = 7 := (by rw [hK250]; exact hf47)
              have hf252 : K249.2.2.1 18 pq = some (a 1) := (by rw [hK250]; exact (kC_of (by decide)).trans hf48)
              have hf253 : K249.2.2.1 14 pq = some dr := (by rw [hK250]; exact (kC_of (by decide)).trans hf49)
              have hf254 : K249.1 dr = 8 := (by rw [hK250]; exact hf50)
              have hf255 : K249.2.2.1 15 pq = some ml := (by rw [hK250]; exact (kC_of (by decide)).trans hf51)
              have hf256 : K249.1 ml = 5 := (by rw [hK250]; exact hf52)
              have hf257 : K249.2.1 24 pq = (nI nd) := (by rw [hK250]; exact hf53)
              have hf258 : K249.1 dA = 4 := (by rw [hK250]; exact hf54)
              have hf259 : K249.2.1 15 dA = (nI i2) := (by rw [hK250]; exact hf55)
              have hf260 : K249.2.1 21 dA = lzA := (by rw [hK250]; exact hlzA)
              have hf261 : K249.1 dP = 4 := (by rw [hK250]; exact htP)
              have hf262 : K249.2.1 15 dP = (nI 0) := (by rw [hK250]; exact hnP)
              have hf263 : K249.2.2.1 10 dA = some dP := by rw [hK250]; exact kC_eq
              have hx4 : LkX K K249 := by rw [hK250]; exact LkX.kC hx3
              have hw4 : WPr G K249 g := by rw [hK250]; exact WPr.par hw3 hgA2 (fun d h => by cases h; exact htP)
              have hp4 : PgT G K249 g (a 1) pq dr ml nd nm cp it s9 := by rw [hK250]; exact PgT.kC hp3
              have ha4 : AbF K249 dr nd (upL ab2 i2 1) := by rw [hK250]; exact AbF.kC ha3
              have hu4 : PaU K249 dr nd (i2 + 1) := by rw [hK250]; exact PaU.kC hu3 hp3.2.1 (by omega) (by omega) heA3
              have hl4 : K249.2.2.2.1 dA = 1 := by rw [hK250]; exact hl3
              have hc4 : CAb K249 dr nd (upL ab2 i2 1) i2 := by rw [hK250]; exact CAb.kC hc3 hcn0
              have hpx4 : PaX K249 dr nd (i2 + 1) := by rw [hK250]; exact PaX.put hpx3 hp3.2.1 (by omega) (by omega) heA3 (by omega) heP ((hw3.2.2.1 dP htP).2.2.2.2.2.1 (by rw [hgP]; decide)).2.2 hi2 c128
              refine lv_aload_n hx hb dX9_link_69 rfl (lv_at hl 0 rfl) ?_
              refine p_get (v := .ref dP) (C := RX2) (Tc := TX2) (N := 13) (ci := 2) hx hb hq pin_wsX20 hown hE hP hO (by rw [hf258]; decide) (rep_4 hf258) rfl 9 (by decide) (hq _ pw_1138) (fun _ h9 => h9) (congrArg (fun z => some (va_rf z)) hf263) dX9_link_70 ?_
              refine lv_ifnull hx hb dX9_link_73 ?_
              refine lv_aload_n hx hb dX9_link_76 rfl (lv_at hl 0 rfl) ?_
              refine lv_dup hx hb dX9_link_77 rfl ?_
              refine p_get (v := .long (K249.2.2.2.1 dA)) (C := RX2) (Tc := TX2) (N := 13) (ci := 2) hx hb hq pin_wsX20 hown hE hP hO (by rw [hf258]; decide) (rep_4 hf258) rfl 10 (by decide) (hq _ pw_102) (fun _ h9 => h9) rfl dX9_link_78 ?_
              refine lv_lconst (v := 1) hx hb dX9_link_81 (by decide) ?_
              refine lv_aload_n hx hb dX9_link_82 rfl (lv_at hl 0 rfl) ?_
              refine p_get (v := .ref dP) (C := RX2) (Tc := TX2) (N := 13) (ci := 2) hx hb hq pin_wsX20 hown hE hP hO (by rw [hf258]; decide) (rep_4 hf258) rfl 9 (by decide) (hq _ pw_1138) (fun _ h9 => h9) (congrArg (fun z => some (va_rf z)) hf263) dX9_link_83 ?_
              refine p_get (v := .int (nI 0)) (C := RX2) (Tc := TX2) (N := 13) (ci := 2) hx hb hq pin_wsX20 hown hE hP hO (by rw [hf261]; decide) (rep_4 hf261) rfl 0 (by decide) (hq _ pw_1139) (fun _ h9 => h9) (congrArg (fun z => some (Value.int z)) hf262) dX9_link_86 ?_
              refine lv_lshl hx hb dX9_link_89 rfl ?_
              refine lv_topl (fun x264 e265 => ?_)
              refine lv_lor hx hb dX9_link_90 ?_
              refine lv_topl (fun x266 e267 => ?_)
              refine p_put (v := .long x266) (ty := .long) (C := RX2) (Tc := TX2) (N := 13) (ci := 2) (K' := (kL K249 dA x266)) hx hb hq pin_wsX20 tyX2 tyX2_ok nmX2 hown hE hP hD hS hO (by rw [hf258]; decide) (rep_4 hf258) rfl 10 (by decide) (hq _ pw_102) (fun _ h9 => h9) rfl (by decide +kernel) rfl rfl (Nat.le_of_ble_eq_true rfl) rfl (by rw [rep_4 (show (kL K249 dA x266).1 dA = 4 from hf258), pl_0] <;> rfl) (fun p9 hp9 => rep_kL hp9) dX9_link_91 (fun H locs w hP hD hS hO => ?_)
              obtain ⟨K268, hK269⟩ : ∃ z : PK, z = (kL K249 dA x266) := ⟨_, rfl⟩
              rw [← hK269] at hO
              have hf270 : K268.1 pq = 7 := (by rw [hK269]; exact hf251)
              have hf271 : K268.2.2.1 18 pq = some (a 1) := (by rw [hK269]; exact hf252)
              have hf272 : K268.2.2.1 14 pq = some dr := (by rw [hK269]; exact hf253)
              have hf273 : K268.1 dr = 8 := (by rw [hK269]; exact hf254)
              have hf274 : K268.2.2.1 15 pq = some ml := (by rw [hK269]; exact hf255)
              have hf275 : K268.1 ml = 5 := (by rw [hK269]; exact hf256)
              have hf276 : K268.2.1 24 pq = (nI nd) := (by rw [hK269]; exact hf257)
              have hf277 : K268.1 dA = 4 := (by rw [hK269]; exact hf258)
              have hf278 : K268.2.1 15 dA = (nI i2) := (by rw [hK269]; exact hf259)
              have hf279 : K268.2.1 21 dA = lzA := (by rw [hK269]; exact hf260)
              have hf280 : K268.1 dP = 4 := (by rw [hK269]; exact hf261)
              have hf281 : K268.2.1 15 dP = (nI 0) := (by rw [hK269]; exact hf262)
              have hf282 : K268.2.2.1 10 dA = some dP := (by rw [hK269]; exact hf263)
              have hbp : bitL x266 0 := by rw [e267, bitL_or, e265]; exact Or.inr (bitL_shl 0 (by omega))
              have hx5 : LkX K K268 := by rw [hK269]; exact LkX.kL hx4
              have hw5 : WPr G K268 g := by rw [hK269]; exact WPr.kL hw4 hgA2
              have hp5 : PgT G K268 g (a 1) pq dr ml nd nm cp it s9 := by rw [hK269]; exact PgT.kL hp4
              have heA4 : K249.2.2.2.2.1 dr i2 = some dA := by rw [hK250]; exact heA3
              have ha5 : AbF K268 dr nd (upL (upL ab2 i2 1) i2 x266) := by rw [hK269]; exact AbF.kL ha4 hp4.2.1 (by omega) (by omega) heA4
              have hb5 : PaB K268 dr nd (upL (upL ab2 i2 1) i2 x266) := by rw [hK269, hK250]; exact PaB.par hb3 hp3.2.1 (by omega) (by omega) heA3 (by omega) heP hbp
              have hu5 : PaU K268 dr nd (i2 + 1) := by rw [hK269]; exact PaU.kL hu4
              have hz5 := Bi0.up (v := x266) hz3 hi2 (fun z => absurd z h7)
              have hc5 : CAb K268 dr nd (upL (upL ab2 i2 1) i2 x266) (i2 + 1) := by rw [hK269]; exact CAb.par hc4 heA4 (by rw [hK250]; exact kC_eq) (by rw [hK250]; exact heP) (by omega) (by omega) (by omega) hp4.2.1 (fun b hb => by rw [e267, hl4, bitL_or, e265] at hb; exact hb.imp bitL_one (bitL_shu (by omega))) (by rw [hK250]; exact c128)
              have hpx5 : PaX K268 dr nd (i2 + 1) := by rw [hK269]; exact hpx4
              obtain ⟨bA, hbA, hbB⟩ := lz_bound lzA
              refine lv_iconst (v := 0) hx hb dX9_link_94 (by decide) ?_
              refine lv_istore_n (lv' := [(3, .int 0), (2, .ref dA), (1, .int (nI i2)), (0, .ref pq)]) hx hb dX9_link_95 rfl hl (by decide) rfl (fun ls hl => ?_)
              have loop_4 : ∀ (n_4 : Nat) (i4 : Nat) (K4 : PK) (ab4 : Nat → Int64) (d4 : Nat) (lz4 : Int32) (H : Heap) (locs : List Loc) (ls : Array Slot) (w : va_W), i4 ≤ bA → bA + 1 ≤ i4 + n_4 → (LkX K K4) → (WPr G K4 g) → (PgT G K4 g (a 1) pq dr ml nd nm cp it s9) → (AbF K4 dr nd ab4) → (PaB K4 dr nd ab4) → (PaU K4 dr nd (i2 + 1)) → (Bi0 ab4 (i2 + 1)) → (K4.1 d4 = 4) → (¬ g 5 d4 = 2) → (K4.2.1 21 d4 = lz4) → (K4.2.2.2.2.1 dr i2 = some d4) → (∀ i : Nat, i < 2147483648 → nI i < lz4 → i < bA) → (i2 < 7 → lz4 = 0) → (CAb K4 dr nd ab4 (i2 + 1)) → (PaX K4 dr nd (i2 + 1)) → va_P G.1 pCl w H → va_D A w → va_S A s.heap H locs → OKP G h0 a (upd F 2 (nI sz)) R Z B J K4 w → lv_has ls 4 [(3, .int (nI i4)), (2, .ref d4), (1, .int (nI i2)), (0, .ref pq)] → W p l e (headSpec (Cond.code yX9_link cX9_link 4 none :: pw) ({ frames := 3, cells := 0, slots := 0, locals := 82 } : Room)).room s m ([.ref pq] : List Value).toArray below meth c H locs 0 0 (MQ below (pQ G A (fun (v : Option Value) (u : va_W × (PK × (Nat → Int64))) => v = none ∧ (LkX K u.2.1) ∧ (WPr G u.2.1 g) ∧ (PgT G u.2.1 g (a 1) pq dr ml nd nm cp it s9) ∧ (AbF u.2.1 dr nd u.2.2) ∧ (PaB u.2.1 dr nd u.2.2) ∧ (WCl u.2.2 nd nd) ∧ (Bi0 u.2.2 7) ∧ (CAb u.2.1 dr nd u.2.2 nd) ∧ (PaX u.2.1 dr nd nd) ∧ (OKP G h0 a (upd F 2 (nI sz)) R Z B J u.2.1 u.1)) (fun u => u.1)) ([.ref pq] : List Value).toArray s ({ frames := 3, cells := 0, slots := 0, locals := 82 } : Room).cells ({ frames := 3, cells := 0, slots := 0, locals := 82 } : Room).slots A) (F0 m 96 ls []) := by
                intro n_4
                induction n_4 with
                | zero => intro i4 K4 ab4 d4 lz4 H locs ls w hk_4 hn_4; omega
                | succ n_4 ih_4 =>
                  intro i4 K4 ab4 d4 lz4 H locs ls w hk_4 hn_4 hqx4 hqw4 hqp4 hqa4 hqb4 hpu4 hbi4 hT4 hg4 hlz4 he4 hlb4 h74 hcb4 hpx4 hP hD hS hO hl
                  have hpx := hqp4.1
                  have hp1 := hpx.1
                  have hp2 := hpx.2.1
                  have hp3 := hpx.2.2.1
                  have hp4 := hpx.2.2.2.1
                  have hp5 := hpx.2.2.2.2.1
                  have hp6 := hpx.2.2.2.2.2.1
                  have hp8 := hpx.2.2.2.2.2.2.2.1
                  have hp9 := hpx.2.2.2.2.2.2.2.2
                  refine lv_iload_n hx hb dX9_link_96 rfl (lv_at hl 0 rfl) ?_
                  refine lv_aload_n hx hb dX9_link_97 rfl (lv_at hl 1 rfl) ?_
                  refine p_get (v := .int lz4) (C := RX2) (Tc := TX2) (N := 13) (ci := 2) hx hb hq pin_wsX20 hown hE hP hO (by rw [hT4]; decide) (rep_4 hT4) rfl 6 (by decide) (hq _ pw_1106) (fun _ h9 => h9) (congrArg (fun z => some (Value.int z)) hlz4) dX9_link_98 ?_
                  refine lv_icmp_ge (tgt := 140) hx hb dX9_link_101 (by decide) (fun c283 => ?_) (fun c283 => ?_)
                  · refine lv_iinc (v := (nI (i2 + 1))) (lv' := [(1, .int (nI (i2 + 1))), (3, .int (nI i4)), (2, .ref d4), (0, .ref pq)]) hx hb dX9_link_140 hl (k := 2) rfl (nI_1 i2) (by decide) rfl (fun ls hl => ?_)
                    refine lv_goto (tgt := 2) hx hb dX9_link_143 (by decide) ?_
                    have hO : OKP G h0 a (upd F 2 (nI sz)) R Z B J K4 w := hO.to rfl
                    exact ih_2 (i2 + 1) K4 ab4 _ _ _ _ (by omega) (by omega) hqx4 hqw4 hqp4 hqa4 hqb4 hpu4 hbi4 (by omega) hcb4 hpx4 hP hD hS hO (lv_sub hl [0, 3] rfl)
                  · have hi9 := hlb4 i4 (by omega) (Int32.not_le.mp c283)
                    have h79 : 7 ≤ i2 := Nat.le_of_not_lt (fun z => by rw [h74 z] at c283; exact c283 (nI_leI (a := 0) (b := i4) (by omega) (by omega) |>.mpr (by omega)))
                    refine lv_aload_n hx hb dX9_link_104 rfl (lv_at hl 1 rfl) ?_
                    refine lv_dup hx hb dX9_link_105 rfl ?_
                    refine p_get (v := .long (K4.2.2.2.1 d4)) (C := RX2) (Tc := TX2) (N := 13) (ci := 2) hx hb hq pin_wsX20 hown hE hP hO (by rw [hT4]; decide) (rep_4 hT4) rfl 10 (by decide) (hq _ pw_102) (fun _ h9 => h9) rfl dX9_link_106 ?_
                    refine lv_lconst (v := 1) hx hb dX9_link_109 (by decide) ?_
                    refine lv_aload_n hx hb dX9_link_110 rfl (lv_at hl 3 rfl) ?_
                    refine lv_aload_n hx hb dX9_link_111 rfl (lv_at hl 3 rfl) ?_
                    refine p_get (v := .ref (a 1)) (C := RX9) (Tc := TX9) (N := 5) (ci := 6) hx hb hq pin_wsX90 hown hE hP hO (by rw [hp1]; decide) (rep_7 hp1) rfl 0 (by decide) (hq _ pw_784) (fun _ h9 => h9) (congrArg (fun z => some (va_rf z)) hp2) dX9_link_112 ?_
                    refine lv_aload_n hx hb dX9_link_115 rfl (lv_at hl 1 rfl) ?_
                    refine p_get (v := .int (K4.2.1 20 d4)) (C := RX2) (Tc := TX2) (N := 13) (ci := 2) hx hb hq pin_wsX20 hown hE hP hO (by rw [hT4]; decide) (rep_4 hT4) rfl 5 (by decide) (hq _ pw_1107) (fun _ h9 => h9) rfl dX9_link_116 ?_
                    refine lv_iconst (v := 2) hx hb dX9_link_119 (by decide) ?_
                    refine lv_iload_n hx hb dX9_link_120 rfl (lv_at hl 0 rfl) ?_
                    refine lv_imul hx hb dX9_link_121 ?_
                    refine lv_topi (fun x284 e285 => ?_)
                    obtain rfl : x284 = nI (2 * i4) := e285.trans (nI_mulN (2) (i4))
                    refine lv_iadd hx hb dX9_link_122 ?_
                    refine lv_topi (fun x286 e287 => ?_)
                    have hO : OKW G h0 a (upd (upd F 2 (nI sz)) 2 (nI sz)) R Z B J K4.1 (fun q99 x99 => x99 = rep G a K4 q99) w := hO.to rfl
                    obtain ⟨_, qr291, hqr292⟩ := hO.2.1 2 _ (sg_2 G h0 a _ _ _ _ _)
                    refine pc_V0 (G := G) (As := [.int x286]) (rest := [.ref pq, .long 1, .long (K4.2.2.2.1 d4), .ref d4]) hx hb hml hown hq hE hX pX0_al hP hD hS hA hl.1 (Y_valueAt l G h0 a (upd F 2 (nI sz)) R Z B J K4.1 (fun q99 x99 => x99 = rep G a K4 q99) w x286 sz (by omega) hO) (gV pw_785 pw_57 pw_58 pw_59 pw_39) hV_X10_valueAt qr291 7 hqr292 rfl rfl rfl (Nat.le_of_ble_eq_true rfl) dX9_link_123 ⟨Nat.le_of_ble_eq_true rfl, Nat.le_of_ble_eq_true rfl⟩ ⟨Nat.le_of_ble_eq_true rfl, Nat.le_of_ble_eq_true rfl⟩ (fun v290 u288 H locs hw289 hP hD hS => ?_)
                    obtain ⟨w, _⟩ := u288
                    obtain ⟨hw289, hO⟩ := hw289
                    obtain rfl : v290 = some (.int (tkN ((B 9)) sz (-1) x286)) := hw289
                    have hO : OKP G h0 a (upd F 2 (nI sz)) R Z B J K4 w := hO.to rfl
                    refine W.widen (k := 0) (n := 0) (Nat.le_of_ble_eq_true rfl) (Nat.le_of_ble_eq_true rfl) ?_
                    refine W.eq (g2 := F0 m 126 ls [.int (tkN ((B 9)) sz (-1) x286), .ref pq, .long 1, .long (K4.2.2.2.1 d4), .ref d4]) rfl ?_
                    have hO : OKP G h0 a (upd F 2 (nI sz)) R Z B J K4 w := hO.to rfl
                    obtain ⟨qr296, hqr297⟩ := p_recv hO (by rw [hp1]; decide) (rep_7 hp1)
                    refine pc_V0 (G := G) (As := [.int (tkN ((B 9)) sz (-1) x286)]) (rest := [.long 1, .long (K4.2.2.2.1 d4), .ref d4]) hx hb hml hown hq hE hX pX0_al hP hD hS hA hl.1 (N_find l G h0 a (upd F 2 (nI sz)) R Z B J K4 w pq dr ml nd (tkN ((B 9)) sz (-1) x286) g hqp4.1 hqp4.2.1 hO) (gV pw_1102 pw_585 pw_586 pw_106 pw_509) hV_X9_find qr296 6 hqr297 rfl rfl rfl (Nat.le_of_ble_eq_true rfl) dX9_link_126 ⟨Nat.le_of_ble_eq_true rfl, Nat.le_of_ble_eq_true rfl⟩ ⟨Nat.le_of_ble_eq_true rfl, Nat.le_of_ble_eq_true rfl⟩ (fun v295 u293 H locs hw294 hP hD hS => ?_)
                    obtain ⟨w, r298⟩ := u293
                    obtain ⟨hw294, h299, hO⟩ := hw294
                    have h299 : FdX K4 dr nd (tkN ((B 9)) sz (-1) x286) r298 := h299
                    obtain rfl : v295 = some (.int r298) := hw294
                    have hO : OKP G h0 a (upd F 2 (nI sz)) R Z B J K4 w := hO.to rfl
                    refine W.widen (k := 0) (n := 0) (Nat.le_of_ble_eq_true rfl) (Nat.le_of_ble_eq_true rfl) ?_
                    refine W.eq (g2 := F0 m 129 ls [.int r298, .long 1, .long (K4.2.2.2.1 d4), .ref d4]) rfl ?_
                    refine lv_lshl hx hb dX9_link_129 rfl ?_
                    refine lv_topl (fun x300 e301 => ?_)
                    refine lv_lor hx hb dX9_link_130 ?_
                    refine lv_topl (fun x302 e303 => ?_)
                    refine p_put (v := .long x302) (ty := .long) (C := RX2) (Tc := TX2) (N := 13) (ci := 2) (K' := (kL K4 d4 x302)) hx hb hq pin_wsX20 tyX2 tyX2_ok nmX2 hown hE hP hD hS hO (by rw [hT4]; decide) (rep_4 hT4) rfl 10 (by decide) (hq _ pw_102) (fun _ h9 => h9) rfl (by decide +kernel) rfl rfl (Nat.le_of_ble_eq_true rfl) rfl (by rw [rep_4 (show (kL K4 d4 x302).1 d4 = 4 from hT4), pl_0] <;> rfl) (fun p9 hp9 => rep_kL hp9) dX9_link_131 (fun H locs w hP hD hS hO => ?_)
                    obtain ⟨K304, hK305⟩ : ∃ z : PK, z = (kL K4 d4 x302) := ⟨_, rfl⟩
                    rw [← hK305] at hO
                    have hf306 : K304.1 pq = 7 := (by rw [hK305]; exact hp1)
                    have hf307 : K304.2.2.1 18 pq = some (a 1) := (by rw [hK305]; exact hp2)
                    have hf308 : K304.2.2.1 14 pq = some dr := (by rw [hK305]; exact hp3)
                    have hf309 : K304.1 dr = 8 := (by rw [hK305]; exact hp4)
                    have hf310 : K304.2.2.1 15 pq = some ml := (by rw [hK305]; exact hp5)
                    have hf311 : K304.1 ml = 5 := (by rw [hK305]; exact hp6)
                    have hf312 : K304.2.1 24 pq = (nI nd) := (by rw [hK305]; exact hp8)
                    have hf313 : K304.1 d4 = 4 := (by rw [hK305]; exact hT4)
                    have hf314 : K304.2.1 21 d4 = lz4 := (by rw [hK305]; exact hlz4)
                    have he40 : K.2.2.2.2.1 dr i2 = some d4 := by rw [← hqx4.2.2.2.1]; exact he4
                    have hlt4 : nI i4 < K.2.1 21 d4 := by rw [← hqx4.2.1, hlz4]; exact Int32.not_le.mp c283
                    obtain ⟨iQ, dQ, hiQ, hfQ, heQ, hcQ⟩ := (hr1.1 i2 h79 (by omega) d4 he40).2.2 i4 (by omega) hlt4
                    have hrQ : r298 = nI iQ := FdX.uniq (by omega) (LkX.fdx hqx4 (by have z8 := h299; rw [e287, hqx4.2.1] at z8; exact z8)) hfQ
                    have hc9 : CAb K304 dr nd (upL ab4 i2 x302) (i2 + 1) := by rw [hK305]; exact CAb.lis hcb4 he4 (by rw [hqx4.2.2.2.1]; exact heQ) (by rw [hqx4.2.1, hcQ]; decide) (fun b hb => by rw [e303, bitL_or, hqa4 i2 (by omega) d4 he4] at hb; exact hb.imp id (fun z => by have z9 := z; rw [e301] at z9; rw [hrQ] at z9; exact bitL_shu (by omega) z9)) (by omega)
                    have hpx9 : PaX K304 dr nd (i2 + 1) := by rw [hK305]; exact hpx4
                    have hx9 : LkX K K304 := by rw [hK305]; exact LkX.kL hqx4
                    have hw9 : WPr G K304 g := by rw [hK305]; exact WPr.kL hqw4 hg4
                    have hp9 : PgT G K304 g (a 1) pq dr ml nd nm cp it s9 := by rw [hK305]; exact PgT.kL hqp4
                    have ha9 : AbF K304 dr nd (upL ab4 i2 x302) := by rw [hK305]; exact AbF.kL hqa4 hqp4.2.1 (by omega) (by omega) he4
                    have hb9 : PaB K304 dr nd (upL ab4 i2 x302) := by rw [hK305]; exact PaB.or hqb4 (Or.inl (fun b hb => by rw [e303, bitL_or]; exact Or.inl (by rw [hqa4 i2 (by omega) d4 he4]; exact hb)))
                    have hu9 : PaU K304 dr nd (i2 + 1) := by rw [hK305]; exact PaU.kL hpu4
                    have hz9 := Bi0.or (v := x302) hbi4 h79
                    have he9 : K304.2.2.2.2.1 dr i2 = some d4 := by rw [hK305]; exact he4
                    refine lv_iinc (v := (nI (i4 + 1))) (lv' := [(3, .int (nI (i4 + 1))), (2, .ref d4), (1, .int (nI i2)), (0, .ref pq)]) hx hb dX9_link_134 hl (k := 0) rfl (nI_1 i4) (by decide) rfl (fun ls hl => ?_)
                    refine lv_goto (tgt := 96) hx hb dX9_link_137 (by decide) ?_
                    have hO : OKP G h0 a (upd F 2 (nI sz)) R Z B J K304 w := hO.to rfl
                    exact ih_4 (i4 + 1) K304 (upL ab4 i2 x302) d4 lz4 _ _ _ _ (by omega) (by omega) hx9 hw9 hp9 ha9 hb9 hu9 hz9 hf313 hg4 hf314 he9 hlb4 h74 hc9 hpx9 hP hD hS hO (lv_sub hl [0, 1, 2, 3] rfl)
              have hO : OKP G h0 a (upd F 2 (nI sz)) R Z B J K268 w := hO.to rfl
              exact loop_4 (bA + 1) 0 K268 (upL (upL ab2 i2 1) i2 x266) dA lzA _ _ _ _ (by omega) (by omega) hx5 hw5 hp5 ha5 hb5 hu5 hz5 hf277 hgA2 hf279 (by rw [hK269, hK250]; exact heA3) hbB (fun z => absurd z h7) hc5 hpx5 hP hD hS hO (lv_sub hl [0, 1, 2, 3] rfl)
  have hO : OKP G h0 a (upd F 2 (nI sz)) R Z B J K w := hO.to rfl
  exact loop_2 (nd + 1) 1 K (abK K dr) _ _ _ _ (by omega) (by omega) LkX.rfl hwp hps.t AbF.start (PaB.start hps.pn) (PaU.start hps.pn) (Bi0.start hwp hps.2.1 (by omega)) (by omega) (CAb.start (Bi0.start hwp hps.2.1 (by omega))) (PaX.start hps.pn) hP hD hS hO (lv_sub hl [0, 1] rfl)
