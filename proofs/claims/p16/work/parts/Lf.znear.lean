def NeB (K : PK) (rk : Nat → Nat) (x : Int32) (d0 i : Nat) (o : Option Nat) : Prop := ∀ d : Nat, o = some d → K.1 d = 4 ∧ (i = 0 ∨ rk d + i ≤ 100) ∧ ∀ m : Nat, NeP K x (101 - i) d m → NeP K x 101 d0 m
theorem NeB.up {K : PK} {rk : Nat → Nat} {x : Int32} {d0 i d : Nat} {o : Option Nat} (h : RkO K rk) (hd : K.1 d = 4) (hi : i = 0 ∨ rk d + i ≤ 100) (hm : ∀ m : Nat, NeP K x (101 - i) d m → NeP K x 101 d0 m) (hw : OwP K d x none) (ho : K.2.2.1 10 d = o) : NeB K rk x d0 (i + 1) o := fun e he => by
  subst he
  obtain ⟨h1, h2, h3⟩ := h d e hd ho
  refine ⟨h1, Or.inr (by omega), fun m hn => hm m ?_⟩
  rw [show 101 - i = (101 - (i + 1)) + 1 by omega]
  exact Or.inr ⟨hw, e, ho, hn⟩
theorem NeB.own {K : PK} {rk : Nat → Nat} {x : Int32} {d0 i d m : Nat} (hi : i = 0 ∨ rk d + i ≤ 100) (hm : ∀ m : Nat, NeP K x (101 - i) d m → NeP K x 101 d0 m) (hw : OwP K d x (some m)) : NeP K x 101 d0 m := hm m (by
  rw [show 101 - i = (101 - (i + 1)) + 1 by omega]
  exact Or.inl hw)
set_option maxHeartbeats 6000000 in
set_option maxRecDepth 100000 in
theorem Y_nearestO (l : Launch) (G : pT) (h0 : Nat) (a : Nat → Nat) (F : Nat → Int32) (R : Nat → Value) (Z : Int64) (B : Nat → Nat → Int32) (J : Nat → Nat → Int64) (K : PK) (w : va_W) (d0 : Nat) (x : Int32) (g : Nat → Nat → Nat) (rk : Nat → Nat) (hd0 : K.1 d0 = 4) (hwp : WPr G K g) (hrk : RkO K rk) (hO : OKP G h0 a F R Z B J K w) : PM l G pX0 yX2_nearest cX2_nearest 4 (some (.object "JinjaTongue$Method")) ({ frames := 6, cells := 0, slots := 0, locals := 146 }) [.ref d0, .int x] w (fun (v : Option Value) (u : va_W × (Option Nat)) => v = some ((va_rf u.2)) ∧ (∀ m9 : Nat, u.2 = some m9 → NeP K x 101 d0 m9) ∧ (OKP G h0 a F R Z B J K u.1)) (fun u => u.1) := by
  intro sz
  refine Met.ofW (cc := cX2_nearest) (maxL := 4) (ret := (some (.object "JinjaTongue$Method"))) (by decide) rfl ?_
  intro p e s m args below meth c s₁ B9 hml hv
  obtain ⟨rfl, hsz, hP, hD0, hE, hX⟩ := hv
  have hx := B9.exec
  have hb := B9.bytes
  have hr := B9.returns
  have hts := atoms_spec (ws := Cond.code yX2_nearest cX2_nearest 4 (some (.object "JinjaTongue$Method")) :: pw) B9.pre
  have hq : ∀ w ∈ pw, w.before _ s = true := fun w h => hts w (List.mem_cons_of_mem _ h)
  have hown : s.vm.findClass RX2 = some m.cls := findClass_of_methodNamed B9.named
  have hlocks := B9.notSynchronized
  subst hsz
  have hD := hD0.self (sz := s.heap.size)
  have hA : ∀ q : Nat, s.heap.size ≤ q → va_A w s.heap.size q := fun q h => Or.inr h
  generalize va_A w s.heap.size = A at hD hE hA ⊢
  have hS : va_S A s.heap s.heap [] := va_S.rf
  have hl := lv_entry ([.ref d0, .int x]) (n := 4) (Nat.le_of_ble_eq_true rfl)
  rw [lg_entry_eq]
  generalize (lg_sl ([.ref d0, .int x]) ++ List.replicate (4 - (lg_sl ([.ref d0, .int x])).length) Slot.unset).toArray = ls at hl ⊢
  have hl : lv_has ls 4 [(0, .ref d0), (1, .int x)] := hl
  refine lv_aload_n hx hb dX2_nearest_0 rfl (lv_at hl 0 rfl) ?_
  refine lv_astore_n (lv' := [(2, .ref d0), (0, .ref d0), (1, .int x)]) hx hb dX2_nearest_1 rfl hl (by decide) rfl (fun ls hl => ?_)
  have loop_i : ∀ (n_i : Nat) (i2 : Nat) (o2 : Option Nat) (H : Heap) (locs : List Loc) (ls : Array Slot) (w : va_W), i2 ≤ 101 → 101 + 1 ≤ i2 + n_i → (NeB K rk x d0 i2 o2) → va_P G.1 pCl w H → va_D A w → va_S A s.heap H locs → OKP G h0 a F R Z B J K w → lv_has ls 4 [(2, va_rf o2), (1, .int x), (0, .ref d0)] → W p l e (headSpec (Cond.code yX2_nearest cX2_nearest 4 (some (.object "JinjaTongue$Method")) :: pw) ({ frames := 6, cells := 0, slots := 0, locals := 146 } : Room)).room s m ([.ref d0, .int x] : List Value).toArray below meth c H locs 0 0 (MQ below (pQ G A (fun (v : Option Value) (u : va_W × (Option Nat)) => v = some ((va_rf u.2)) ∧ (∀ m9 : Nat, u.2 = some m9 → NeP K x 101 d0 m9) ∧ (OKP G h0 a F R Z B J K u.1)) (fun u => u.1)) ([.ref d0, .int x] : List Value).toArray s ({ frames := 6, cells := 0, slots := 0, locals := 146 } : Room).cells ({ frames := 6, cells := 0, slots := 0, locals := 146 } : Room).slots A) (F0 m 2 ls []) := by
    intro n_i
    induction n_i with
    | zero => intro i2 o2 H locs ls w hk_i hn_i; omega
    | succ n_i ih_i =>
      intro i2 o2 H locs ls w hk_i hn_i hrb hP hD hS hO hl
      rcases o2 with _ | d2
      · have hl : lv_has ls 4 [(2, .null), (1, .int x), (0, .ref d0)] := hl
        refine W.eq (g2 := F0 m 2 ls []) rfl ?_
        refine lv_aload_nN hx hb dX2_nearest_2 rfl (lv_at hl 0 rfl) ?_
        refine lv_ifnullN (tgt := 26) hx hb dX2_nearest_3 (by decide) ?_
        refine lv_null hx hb dX2_nearest_26 ?_
        have hz1 : ∀ m9 : Nat, none = some m9 → NeP K x 101 d0 m9 := (fun d h => by cases h)
        have hO : OKP G h0 a F R Z B J K w := hO.to rfl
        exact W.aret (v := .null) hx hb hr (Or.inl ⟨_, rfl⟩) (Or.inl rfl) (fun t99 ht99 hW99 => ⟨⟨_, (w, none), rfl, ⟨rfl, hz1, hO⟩, by rw [ht99]; exact hP, hD⟩, hS.F ht99⟩) hS.2.2 dX2_nearest_27
      · have hl : lv_has ls 4 [(2, .ref d2), (1, .int x), (0, .ref d0)] := hl
        refine W.eq (g2 := F0 m 2 ls []) rfl ?_
        obtain ⟨hcT, hcR, hcM⟩ := hrb d2 rfl
        refine lv_aload_n hx hb dX2_nearest_2 rfl (lv_at hl 0 rfl) ?_
        refine lv_ifnull hx hb dX2_nearest_3 ?_
        refine lv_aload_n hx hb dX2_nearest_6 rfl (lv_at hl 0 rfl) ?_
        refine lv_iload_n hx hb dX2_nearest_7 rfl (lv_at hl 1 rfl) ?_
        have hO : OKP G h0 a F R Z B J K w := hO.to rfl
        obtain ⟨qr5, hqr6⟩ := p_recv hO (by rw [hcT]; decide) (rep_4 hcT)
        refine pc_V0 (G := G) (As := [.int x]) (rest := []) hx hb hml hown hq hE hX pX0_al hP hD hS hA hl.1 (Y_own l G h0 a F R Z B J K w d2 x g hcT hwp hO) (gV pw_151 pw_152 pw_153 pw_146 pw_149) hV_X2_own qr5 2 hqr6 rfl rfl rfl (Nat.le_of_ble_eq_true rfl) dX2_nearest_8 ⟨Nat.le_of_ble_eq_true rfl, Nat.le_of_ble_eq_true rfl⟩ ⟨Nat.le_of_ble_eq_true rfl, Nat.le_of_ble_eq_true rfl⟩ (fun v4 u2 H locs hw3 hP hD hS => ?_)
        obtain ⟨w, o7⟩ := u2
        obtain ⟨hw3, h8, hO⟩ := hw3
        have h8 : OwP K d2 x o7 := h8
        obtain rfl : v4 = some ((va_rf o7)) := hw3
        have hO : OKP G h0 a F R Z B J K w := hO.to rfl
        refine W.widen (k := 0) (n := 0) (Nat.le_of_ble_eq_true rfl) (Nat.le_of_ble_eq_true rfl) ?_
        refine W.eq (g2 := F0 m 11 ls [(va_rf o7)]) rfl ?_
        rcases o7 with _ | d9
        · have hl : lv_has ls 4 [(2, .ref d2), (1, .int x), (0, .ref d0)] := hl
          refine W.eq (g2 := F0 m 11 ls [.null]) rfl ?_
          have hwn : OwP K d2 x none := h8
          refine lv_astore_nN (lv' := [(3, .null), (2, .ref d2), (1, .int x), (0, .ref d0)]) hx hb dX2_nearest_11 rfl hl (by decide) rfl (fun ls hl => ?_)
          refine lv_aload_nN hx hb dX2_nearest_12 rfl (lv_at hl 0 rfl) ?_
          refine lv_ifnullN (tgt := 18) hx hb dX2_nearest_13 (by decide) ?_
          refine lv_aload_n hx hb dX2_nearest_18 rfl (lv_at hl 1 rfl) ?_
          rcases ho11 : K.2.2.1 10 d2 with _ | o10
          · skip
            refine p_get (v := .null) (C := RX2) (Tc := TX2) (N := 13) (ci := 2) hx hb hq pin_wsX20 hown hE hP hO (by rw [hcT]; decide) (rep_4 hcT) rfl 9 (by decide) (hq _ pw_150) (fun _ h9 => h9) (congrArg (fun z => some (va_rf z)) ho11) dX2_nearest_19 ?_
            refine lv_astore_nN (lv' := [(2, .null), (3, .null), (1, .int x), (0, .ref d0)]) hx hb dX2_nearest_22 rfl hl (by decide) rfl (fun ls hl => ?_)
            refine lv_goto (tgt := 2) hx hb dX2_nearest_23 (by decide) ?_
            have hO : OKP G h0 a F R Z B J K w := hO.to rfl
            exact ih_i (i2 + 1) none _ _ _ _ (by omega) (by omega) (NeB.up hrk hcT hcR hcM hwn ho11) hP hD hS hO (lv_sub hl [0, 2, 3] rfl)
          · skip
            refine p_get (v := .ref o10) (C := RX2) (Tc := TX2) (N := 13) (ci := 2) hx hb hq pin_wsX20 hown hE hP hO (by rw [hcT]; decide) (rep_4 hcT) rfl 9 (by decide) (hq _ pw_150) (fun _ h9 => h9) (congrArg (fun z => some (va_rf z)) ho11) dX2_nearest_19 ?_
            refine lv_astore_n (lv' := [(2, .ref o10), (3, .null), (1, .int x), (0, .ref d0)]) hx hb dX2_nearest_22 rfl hl (by decide) rfl (fun ls hl => ?_)
            refine lv_goto (tgt := 2) hx hb dX2_nearest_23 (by decide) ?_
            have hO : OKP G h0 a F R Z B J K w := hO.to rfl
            exact ih_i (i2 + 1) (some o10) _ _ _ _ (by omega) (by omega) (NeB.up hrk hcT hcR hcM hwn ho11) hP hD hS hO (lv_sub hl [0, 2, 3] rfl)
        · have hl : lv_has ls 4 [(2, .ref d2), (1, .int x), (0, .ref d0)] := hl
          refine W.eq (g2 := F0 m 11 ls [.ref d9]) rfl ?_
          have hwm : OwP K d2 x (some d9) := h8
          refine lv_astore_n (lv' := [(3, .ref d9), (2, .ref d2), (1, .int x), (0, .ref d0)]) hx hb dX2_nearest_11 rfl hl (by decide) rfl (fun ls hl => ?_)
          refine lv_aload_n hx hb dX2_nearest_12 rfl (lv_at hl 0 rfl) ?_
          refine lv_ifnull hx hb dX2_nearest_13 ?_
          refine lv_aload_n hx hb dX2_nearest_16 rfl (lv_at hl 0 rfl) ?_
          have hz12 : ∀ m9 : Nat, (some d9) = some m9 → NeP K x 101 d0 m9 := (fun m9 h9 => by cases h9; exact NeB.own hcR hcM hwm)
          have hO : OKP G h0 a F R Z B J K w := hO.to rfl
          exact W.aret (v := .ref d9) hx hb hr (Or.inl ⟨_, rfl⟩) (Or.inr ⟨_, rfl⟩) (fun t99 ht99 hW99 => ⟨⟨_, (w, (some d9)), rfl, ⟨rfl, hz12, hO⟩, by rw [ht99]; exact hP, hD⟩, hS.F ht99⟩) hS.2.2 dX2_nearest_17
  have hO : OKP G h0 a F R Z B J K w := hO.to rfl
  exact loop_i (101 + 1) 0 (some d0) _ _ _ _ (by omega) (by omega) (fun d h => by cases h; exact ⟨hd0, Or.inl rfl, fun _ h => h⟩) hP hD hS hO (lv_sub hl [0, 2, 1] rfl)
