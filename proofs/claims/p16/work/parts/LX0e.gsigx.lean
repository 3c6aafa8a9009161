theorem NeP.fst {K : PK} {x : Int32} {n d m : Nat} (hn : 1 ≤ n) (h : OwP K d x (some m)) : NeP K x n d m := by
  obtain ⟨k, rfl⟩ : ∃ k : Nat, n = k + 1 := ⟨n - 1, by omega⟩
  exact Or.inl h
theorem NeP.nxt {K : PK} {x : Int32} {i d p m : Nat} (hi : i ≤ 100) (h : OwP K d x none) (hp : K.2.2.1 10 d = some p) (w : NeP K x (101 - (i + 1)) p m) : NeP K x (101 - i) d m := by
  have e : 101 - i = (101 - (i + 1)) + 1 := by omega
  rw [e]
  exact Or.inr ⟨h, p, hp, w⟩
set_option maxHeartbeats 16000000 in
set_option maxRecDepth 100000 in
theorem N_oneSigN (l : Launch) (G : pT) (h0 : Nat) (a : Nat → Nat) (F : Nat → Int32) (R : Nat → Value) (Z : Int64) (B : Nat → Nat → Int32) (J : Nat → Nat → Int64) (K : PK) (w : va_W) (pq : Nat) (dr : Nat) (ml : Nat) (nd : Nat) (m1 : Nat) (sz : Nat) (g : Nat → Nat → Nat) (hpb : PgB K g (a 1) pq dr ml nd) (hsz : sz ≤ 5000) (hm1 : K.1 m1 = 3) (hwp : WPr G K g) (hO : OKP G h0 a (upd F 2 (nI sz)) R Z B J K w) : PM l G pX0 yX9_haveOneSignature cX9_haveOneSignature 4 (some .boolean) ({ frames := 2, cells := 0, slots := 0, locals := 60 }) [.ref pq, .ref m1, .null] w (fun (v : Option Value) (u : va_W × (Nat)) => v = some (.int (nI u.2)) ∧ (u.2 ≤ 1) ∧ (u.2 = 0) ∧ (OKP G h0 a (upd F 2 (nI sz)) R Z B J K u.1)) (fun u => u.1) := by
  intro sz
  refine Met.ofW (cc := cX9_haveOneSignature) (maxL := 4) (ret := (some .boolean)) (by decide) rfl ?_
  intro p e s m args below meth c s₁ B9 hml hv
  obtain ⟨rfl, hsz, hP, hD0, hE, hX⟩ := hv
  have hx := B9.exec
  have hb := B9.bytes
  have hr := B9.returns
  have hts := atoms_spec (ws := Cond.code yX9_haveOneSignature cX9_haveOneSignature 4 (some .boolean) :: pw) B9.pre
  have hq : ∀ w ∈ pw, w.before _ s = true := fun w h => hts w (List.mem_cons_of_mem _ h)
  have hown : s.vm.findClass RX9 = some m.cls := findClass_of_methodNamed B9.named
  have hlocks := B9.notSynchronized
  subst hsz
  have hD := hD0.self (sz := s.heap.size)
  have hA : ∀ q : Nat, s.heap.size ≤ q → va_A w s.heap.size q := fun q h => Or.inr h
  generalize va_A w s.heap.size = A at hD hE hA ⊢
  have hS : va_S A s.heap s.heap [] := va_S.rf
  have hl := lv_entry ([.ref pq, .ref m1, .null]) (n := 4) (Nat.le_of_ble_eq_true rfl)
  rw [lg_entry_eq]
  generalize (lg_sl ([.ref pq, .ref m1, .null]) ++ List.replicate (4 - (lg_sl ([.ref pq, .ref m1, .null])).length) Slot.unset).toArray = ls at hl ⊢
  have hl : lv_has ls 4 [(0, .ref pq), (1, .ref m1), (2, .null)] := hl
  have hp1 := hpb.1
  have hp2 := hpb.2.1
  have hp3 := hpb.2.2.1
  have hp4 := hpb.2.2.2.1
  have hp5 := hpb.2.2.2.2.1
  have hp6 := hpb.2.2.2.2.2.1
  have hp8 := hpb.2.2.2.2.2.2.2.1
  have hp9 := hpb.2.2.2.2.2.2.2.2
  refine lv_aload_nN hx hb dX9_haveOneSignature_0 rfl (lv_at hl 2 rfl) ?_
  refine lv_ifnullN (tgt := 46) hx hb dX9_haveOneSignature_1 (by decide) ?_
  refine lv_iconst (v := 0) hx hb dX9_haveOneSignature_46 (by decide) ?_
  have hz1 : 0 ≤ 1 := (by omega)
  have hz2 : 0 = 0 := rfl
  have hO : OKP G h0 a (upd F 2 (nI sz)) R Z B J K w := hO.to rfl
  exact W.zret (v := 0) hx hb hr rfl (fun t99 ht99 hW99 => ⟨⟨_, (w, 0), rfl, ⟨rfl, hz1, hz2, hO⟩, by rw [ht99]; exact hP, hD⟩, hS.F ht99⟩) hS.2.2 dX9_haveOneSignature_47
set_option maxHeartbeats 16000000 in
set_option maxRecDepth 100000 in
theorem N_oneSig (l : Launch) (G : pT) (h0 : Nat) (a : Nat → Nat) (F : Nat → Int32) (R : Nat → Value) (Z : Int64) (B : Nat → Nat → Int32) (J : Nat → Nat → Int64) (K : PK) (w : va_W) (pq : Nat) (dr : Nat) (ml : Nat) (nd : Nat) (m1 : Nat) (sz : Nat) (m2 : Nat) (g : Nat → Nat → Nat) (hpb : PgB K g (a 1) pq dr ml nd) (hsz : sz ≤ 5000) (hm1 : K.1 m1 = 3) (hm2 : K.1 m2 = 3) (hwp : WPr G K g) (hO : OKP G h0 a (upd F 2 (nI sz)) R Z B J K w) : PM l G pX0 yX9_haveOneSignature cX9_haveOneSignature 4 (some .boolean) ({ frames := 5, cells := 0, slots := 0, locals := 124 }) [.ref pq, .ref m1, .ref m2] w (fun (v : Option Value) (u : va_W × (Nat)) => v = some (.int (nI u.2)) ∧ (u.2 ≤ 1) ∧ (u.2 = 1 → SgE G K (B 11) sz m1 m2) ∧ (OKP G h0 a (upd F 2 (nI sz)) R Z B J K u.1)) (fun u => u.1) := by
  intro sz
  refine Met.ofW (cc := cX9_haveOneSignature) (maxL := 4) (ret := (some .boolean)) (by decide) rfl ?_
  intro p e s m args below meth c s₁ B9 hml hv
  obtain ⟨rfl, hsz, hP, hD0, hE, hX⟩ := hv
  have hx := B9.exec
  have hb := B9.bytes
  have hr := B9.returns
  have hts := atoms_spec (ws := Cond.code yX9_haveOneSignature cX9_haveOneSignature 4 (some .boolean) :: pw) B9.pre
  have hq : ∀ w ∈ pw, w.before _ s = true := fun w h => hts w (List.mem_cons_of_mem _ h)
  have hown : s.vm.findClass RX9 = some m.cls := findClass_of_methodNamed B9.named
  have hlocks := B9.notSynchronized
  subst hsz
  have hD := hD0.self (sz := s.heap.size)
  have hA : ∀ q : Nat, s.heap.size ≤ q → va_A w s.heap.size q := fun q h => Or.inr h
  generalize va_A w s.heap.size = A at hD hE hA ⊢
  have hS : va_S A s.heap s.heap [] := va_S.rf
  have hl := lv_entry ([.ref pq, .ref m1, .ref m2]) (n := 4) (Nat.le_of_ble_eq_true rfl)
  rw [lg_entry_eq]
  generalize (lg_sl ([.ref pq, .ref m1, .ref m2]) ++ List.replicate (4 - (lg_sl ([.ref pq, .ref m1, .ref m2])).length) Slot.unset).toArray = ls at hl ⊢
  have hl : lv_has ls 4 [(0, .ref pq), (1, .ref m1), (2, .ref m2)] := hl
  have hp1 := hpb.1
  have hp2 := hpb.2.1
  have hp3 := hpb.2.2.1
  have hp4 := hpb.2.2.2.1
  have hp5 := hpb.2.2.2.2.1
  have hp6 := hpb.2.2.2.2.2.1
  have hp8 := hpb.2.2.2.2.2.2.2.1
  have hp9 := hpb.2.2.2.2.2.2.2.2
  obtain ⟨l1, hfl1, htl1, hrl1, hol1⟩ := (hwp.2.2.2 m1 hm1).1
  obtain ⟨nl1, itl1, cpl1, hlcl1, hnbl1, hcbl1⟩ := hwp.2.1 l1 htl1
  rw [hrl1] at hlcl1 hnbl1
  have hncl1 := hlcl1.2.2.1
  have hnbl1 : nl1 ≤ 5000 := hnbl1
  have hlcl1 : LsC G K l1 1 nl1 itl1 cpl1 := hlcl1
  obtain ⟨l2, hfl2, htl2, hrl2, hol2⟩ := (hwp.2.2.2 m2 hm2).1
  obtain ⟨nl2, itl2, cpl2, hlcl2, hnbl2, hcbl2⟩ := hwp.2.1 l2 htl2
  rw [hrl2] at hlcl2 hnbl2
  have hncl2 := hlcl2.2.2.1
  have hnbl2 : nl2 ≤ 5000 := hnbl2
  have hlcl2 : LsC G K l2 1 nl2 itl2 cpl2 := hlcl2
  refine lv_aload_n hx hb dX9_haveOneSignature_0 rfl (lv_at hl 2 rfl) ?_
  refine lv_ifnull hx hb dX9_haveOneSignature_1 ?_
  refine lv_aload_n hx hb dX9_haveOneSignature_4 rfl (lv_at hl 0 rfl) ?_
  refine p_get (v := .ref (a 1)) (C := RX9) (Tc := TX9) (N := 5) (ci := 6) hx hb hq pin_wsX90 hown hE hP hO (by rw [hp1]; decide) (rep_7 hp1) rfl 0 (by decide) (hq _ pw_784) (fun _ h9 => h9) (congrArg (fun z => some (va_rf z)) hp2) dX9_haveOneSignature_5 ?_
  refine lv_aload_n hx hb dX9_haveOneSignature_8 rfl (lv_at hl 1 rfl) ?_
  refine p_get (v := .int (K.2.1 8 m1)) (C := RX6) (Tc := TX6) (N := 12) (ci := 12) hx hb hq pin_wsX60 hown hE hP hO (by rw [hm1]; decide) (rep_3 hm1) rfl 3 (by decide) (hq _ pw_1143) (fun _ h9 => h9) rfl dX9_haveOneSignature_9 ?_
  have hO : OKW G h0 a (upd (upd F 2 (nI sz)) 2 (nI sz)) R Z B J K.1 (fun q99 x99 => x99 = rep G a K q99) w := hO.to rfl
  obtain ⟨_, qr4, hqr5⟩ := hO.2.1 2 _ (sg_2 G h0 a _ _ _ _ _)
  refine pc_V0 (G := G) (As := [.int (K.2.1 8 m1)]) (rest := []) hx hb hml hown hq hE hX pX0_al hP hD hS hA hl.1 (N_typeAt l G h0 a (upd F 2 (nI sz)) R Z B J K.1 (fun q99 x99 => x99 = rep G a K q99) w (K.2.1 8 m1) sz (by omega) hO) (gV pw_1146 pw_93 pw_94 pw_59 pw_36) hV_X10_typeAt qr4 7 hqr5 rfl rfl rfl (Nat.le_of_ble_eq_true rfl) dX9_haveOneSignature_12 ⟨Nat.le_of_ble_eq_true rfl, Nat.le_of_ble_eq_true rfl⟩ ⟨Nat.le_of_ble_eq_true rfl, Nat.le_of_ble_eq_true rfl⟩ (fun v3 u1 H locs hw2 hP hD hS => ?_)
  obtain ⟨w, _⟩ := u1
  obtain ⟨hw2, hO⟩ := hw2
  obtain rfl : v3 = some (.int (tkN ((B 11)) sz 63 (K.2.1 8 m1))) := hw2
  have hO : OKP G h0 a (upd F 2 (nI sz)) R Z B J K w := hO.to rfl
  refine W.widen (k := 0) (n := 0) (Nat.le_of_ble_eq_true rfl) (Nat.le_of_ble_eq_true rfl) ?_
  refine W.eq (g2 := F0 m 15 ls [.int (tkN ((B 11)) sz 63 (K.2.1 8 m1))]) rfl ?_
  refine lv_aload_n hx hb dX9_haveOneSignature_15 rfl (lv_at hl 0 rfl) ?_
  refine p_get (v := .ref (a 1)) (C := RX9) (Tc := TX9) (N := 5) (ci := 6) hx hb hq pin_wsX90 hown hE hP hO (by rw [hp1]; decide) (rep_7 hp1) rfl 0 (by decide) (hq _ pw_784) (fun _ h9 => h9) (congrArg (fun z => some (va_rf z)) hp2) dX9_haveOneSignature_16 ?_
  refine lv_aload_n hx hb dX9_haveOneSignature_19 rfl (lv_at hl 2 rfl) ?_
  refine p_get (v := .int (K.2.1 8 m2)) (C := RX6) (Tc := TX6) (N := 12) (ci := 12) hx hb hq pin_wsX60 hown hE hP hO (by rw [hm2]; decide) (rep_3 hm2) rfl 3 (by decide) (hq _ pw_1143) (fun _ h9 => h9) rfl dX9_haveOneSignature_20 ?_
  have hO : OKW G h0 a (upd (upd F 2 (nI sz)) 2 (nI sz)) R Z B J K.1 (fun q99 x99 => x99 = rep G a K q99) w := hO.to rfl
  obtain ⟨_, qr9, hqr10⟩ := hO.2.1 2 _ (sg_2 G h0 a _ _ _ _ _)
  refine pc_V0 (G := G) (As := [.int (K.2.1 8 m2)]) (rest := [.int (tkN ((B 11)) sz 63 (K.2.1 8 m1))]) hx hb hml hown hq hE hX pX0_al hP hD hS hA hl.1 (N_typeAt l G h0 a (upd F 2 (nI sz)) R Z B J K.1 (fun q99 x99 => x99 = rep G a K q99) w (K.2.1 8 m2) sz (by omega) hO) (gV pw_1146 pw_93 pw_94 pw_59 pw_36) hV_X10_typeAt qr9 7 hqr10 rfl rfl rfl (Nat.le_of_ble_eq_true rfl) dX9_haveOneSignature_23 ⟨Nat.le_of_ble_eq_true rfl, Nat.le_of_ble_eq_true rfl⟩ ⟨Nat.le_of_ble_eq_true rfl, Nat.le_of_ble_eq_true rfl⟩ (fun v8 u6 H locs hw7 hP hD hS => ?_)
  obtain ⟨w, _⟩ := u6
  obtain ⟨hw7, hO⟩ := hw7
  obtain rfl : v8 = some (.int (tkN ((B 11)) sz 63 (K.2.1 8 m2))) := hw7
  have hO : OKP G h0 a (upd F 2 (nI sz)) R Z B J K w := hO.to rfl
  refine W.widen (k := 0) (n := 0) (Nat.le_of_ble_eq_true rfl) (Nat.le_of_ble_eq_true rfl) ?_
  refine W.eq (g2 := F0 m 26 ls [.int (tkN ((B 11)) sz 63 (K.2.1 8 m2)), .int (tkN ((B 11)) sz 63 (K.2.1 8 m1))]) rfl ?_
  refine lv_icmp_ne (tgt := 46) hx hb dX9_haveOneSignature_26 (by decide) (fun c11 => ?_) (fun c11 => ?_)
  · refine lv_iconst (v := 0) hx hb dX9_haveOneSignature_46 (by decide) ?_
    have hz12 : 0 ≤ 1 := (by omega)
    have hz13 : 0 = 1 → SgE G K (B 11) sz m1 m2 := (fun h => absurd h (by decide))
    have hO : OKP G h0 a (upd F 2 (nI sz)) R Z B J K w := hO.to rfl
    exact W.zret (v := 0) hx hb hr rfl (fun t99 ht99 hW99 => ⟨⟨_, (w, 0), rfl, ⟨rfl, hz12, hz13, hO⟩, by rw [ht99]; exact hP, hD⟩, hS.F ht99⟩) hS.2.2 dX9_haveOneSignature_47
  · have hts := c11
    refine lv_aload_n hx hb dX9_haveOneSignature_29 rfl (lv_at hl 1 rfl) ?_
    refine p_get (v := .ref l1) (C := RX6) (Tc := TX6) (N := 12) (ci := 12) hx hb hq pin_wsX60 hown hE hP hO (by rw [hm1]; decide) (rep_3 hm1) rfl 4 (by decide) (hq _ pw_1144) (fun _ h9 => h9) (congrArg (fun z => some (va_rf z)) hfl1) dX9_haveOneSignature_30 ?_
    have hO : OKP G h0 a (upd F 2 (nI sz)) R Z B J K w := hO.to rfl
    obtain ⟨qr17, hqr18⟩ := p_recv hO (by rw [htl1]; decide) (rep_5 htl1)
    refine pc_V0 (G := G) (As := []) (rest := []) hx hb hml hown hq hE hX pX0_al hP hD hS hA hl.1 (L_size l G h0 a (upd F 2 (nI sz)) R Z B J K w l1 1 nl1 itl1 hlcl1.ls hO) (gV pw_516 pw_87 pw_88 pw_32 pw_16) hV_Jx4a65c_size_8abf5 qr17 10 hqr18 rfl rfl rfl (Nat.le_of_ble_eq_true rfl) dX9_haveOneSignature_33 ⟨Nat.le_of_ble_eq_true rfl, Nat.le_of_ble_eq_true rfl⟩ ⟨Nat.le_of_ble_eq_true rfl, Nat.le_of_ble_eq_true rfl⟩ (fun v16 u14 H locs hw15 hP hD hS => ?_)
    obtain ⟨w, _⟩ := u14
    obtain ⟨hw15, hO⟩ := hw15
    obtain rfl : v16 = some (.int (nI nl1)) := hw15
    have hO : OKP G h0 a (upd F 2 (nI sz)) R Z B J K w := hO.to rfl
    refine W.widen (k := 0) (n := 0) (Nat.le_of_ble_eq_true rfl) (Nat.le_of_ble_eq_true rfl) ?_
    refine W.eq (g2 := F0 m 36 ls [.int (nI nl1)]) rfl ?_
    refine lv_aload_n hx hb dX9_haveOneSignature_36 rfl (lv_at hl 2 rfl) ?_
    refine p_get (v := .ref l2) (C := RX6) (Tc := TX6) (N := 12) (ci := 12) hx hb hq pin_wsX60 hown hE hP hO (by rw [hm2]; decide) (rep_3 hm2) rfl 4 (by decide) (hq _ pw_1144) (fun _ h9 => h9) (congrArg (fun z => some (va_rf z)) hfl2) dX9_haveOneSignature_37 ?_
    have hO : OKP G h0 a (upd F 2 (nI sz)) R Z B J K w := hO.to rfl
    obtain ⟨qr22, hqr23⟩ := p_recv hO (by rw [htl2]; decide) (rep_5 htl2)
    refine pc_V0 (G := G) (As := []) (rest := [.int (nI nl1)]) hx hb hml hown hq hE hX pX0_al hP hD hS hA hl.1 (L_size l G h0 a (upd F 2 (nI sz)) R Z B J K w l2 1 nl2 itl2 hlcl2.ls hO) (gV pw_516 pw_87 pw_88 pw_32 pw_16) hV_Jx4a65c_size_8abf5 qr22 10 hqr23 rfl rfl rfl (Nat.le_of_ble_eq_true rfl) dX9_haveOneSignature_40 ⟨Nat.le_of_ble_eq_true rfl, Nat.le_of_ble_eq_true rfl⟩ ⟨Nat.le_of_ble_eq_true rfl, Nat.le_of_ble_eq_true rfl⟩ (fun v21 u19 H locs hw20 hP hD hS => ?_)
    obtain ⟨w, _⟩ := u19
    obtain ⟨hw20, hO⟩ := hw20
    obtain rfl : v21 = some (.int (nI nl2)) := hw20
    have hO : OKP G h0 a (upd F 2 (nI sz)) R Z B J K w := hO.to rfl
    refine W.widen (k := 0) (n := 0) (Nat.le_of_ble_eq_true rfl) (Nat.le_of_ble_eq_true rfl) ?_
    refine W.eq (g2 := F0 m 43 ls [.int (nI nl2), .int (nI nl1)]) rfl ?_
    refine lv_icmp_eq (tgt := 48) hx hb dX9_haveOneSignature_43 (by decide) (fun c24 => ?_) (fun c24 => ?_)
    · have n25 : nl1 = nl2 := (nI_eq (a := nl1) (b := nl2) (by omega) (by omega)).mp c24
      refine lv_iconst (v := 0) hx hb dX9_haveOneSignature_48 (by decide) ?_
      refine lv_istore_n (lv' := [(3, .int 0), (0, .ref pq), (1, .ref m1), (2, .ref m2)]) hx hb dX9_haveOneSignature_49 rfl hl (by decide) rfl (fun ls hl => ?_)
      have loop_i : ∀ (n_i : Nat) (i2 : Nat) (H : Heap) (locs : List Loc) (ls : Array Slot) (w : va_W), i2 ≤ nl1 → nl1 + 1 ≤ i2 + n_i → (∀ i : Nat, i < i2 → tkN (B 11) sz 63 (K.2.1 2 (itl1 i)) = tkN (B 11) sz 63 (K.2.1 2 (itl2 i))) → (nl1 = nl2) → va_P G.1 pCl w H → va_D A w → va_S A s.heap H locs → OKP G h0 a (upd F 2 (nI sz)) R Z B J K w → lv_has ls 4 [(3, .int (nI i2)), (2, .ref m2), (1, .ref m1), (0, .ref pq)] → W p l e (headSpec (Cond.code yX9_haveOneSignature cX9_haveOneSignature 4 (some .boolean) :: pw) ({ frames := 5, cells := 0, slots := 0, locals := 124 } : Room)).room s m ([.ref pq, .ref m1, .ref m2] : List Value).toArray below meth c H locs 0 0 (MQ below (pQ G A (fun (v : Option Value) (u : va_W × (Nat)) => v = some (.int (nI u.2)) ∧ (u.2 ≤ 1) ∧ (u.2 = 1 → SgE G K (B 11) sz m1 m2) ∧ (OKP G h0 a (upd F 2 (nI sz)) R Z B J K u.1)) (fun u => u.1)) ([.ref pq, .ref m1, .ref m2] : List Value).toArray s ({ frames := 5, cells := 0, slots := 0, locals := 124 } : Room).cells ({ frames := 5, cells := 0, slots := 0, locals := 124 } : Room).slots A) (F0 m 50 ls []) := by
        intro n_i
        induction n_i with
        | zero => intro i2 H locs ls w hk_i hn_i; omega
        | succ n_i ih_i =>
          intro i2 H locs ls w hk_i hn_i hse hn12 hP hD hS hO hl
          refine lv_iload_n hx hb dX9_haveOneSignature_50 rfl (lv_at hl 0 rfl) ?_
          refine lv_aload_n hx hb dX9_haveOneSignature_51 rfl (lv_at hl 2 rfl) ?_
          refine p_get (v := .ref l1) (C := RX6) (Tc := TX6) (N := 12) (ci := 12) hx hb hq pin_wsX60 hown hE hP hO (by rw [hm1]; decide) (rep_3 hm1) rfl 4 (by decide) (hq _ pw_1144) (fun _ h9 => h9) (congrArg (fun z => some (va_rf z)) hfl1) dX9_haveOneSignature_52 ?_
          have hO : OKP G h0 a (upd F 2 (nI sz)) R Z B J K w := hO.to rfl
          obtain ⟨qr29, hqr30⟩ := p_recv hO (by rw [htl1]; decide) (rep_5 htl1)
          refine pc_V0 (G := G) (As := []) (rest := [.int (nI i2)]) hx hb hml hown hq hE hX pX0_al hP hD hS hA hl.1 (L_size l G h0 a (upd F 2 (nI sz)) R Z B J K w l1 1 nl1 itl1 hlcl1.ls hO) (gV pw_516 pw_87 pw_88 pw_32 pw_16) hV_Jx4a65c_size_8abf5 qr29 10 hqr30 rfl rfl rfl (Nat.le_of_ble_eq_true rfl) dX9_haveOneSignature_55 ⟨Nat.le_of_ble_eq_true rfl, Nat.le_of_ble_eq_true rfl⟩ ⟨Nat.le_of_ble_eq_true rfl, Nat.le_of_ble_eq_true rfl⟩ (fun v28 u26 H locs hw27 hP hD hS => ?_)
          obtain ⟨w, _⟩ := u26
          obtain ⟨hw27, hO⟩ := hw27
          obtain rfl : v28 = some (.int (nI nl1)) := hw27
          have hO : OKP G h0 a (upd F 2 (nI sz)) R Z B J K w := hO.to rfl
          refine W.widen (k := 0) (n := 0) (Nat.le_of_ble_eq_true rfl) (Nat.le_of_ble_eq_true rfl) ?_
          refine W.eq (g2 := F0 m 58 ls [.int (nI nl1), .int (nI i2)]) rfl ?_
          refine lv_icmp_ge (tgt := 114) hx hb dX9_haveOneSignature_58 (by decide) (fun c31 => ?_) (fun c31 => ?_)
          · have n32 : nl1 ≤ i2 := (nI_leI (a := nl1) (b := i2) (by omega) (by omega)).mp c31
            refine lv_iconst (v := 1) hx hb dX9_haveOneSignature_114 (by decide) ?_
            have hz33 : 1 ≤ 1 := (by omega)
            have hz34 : 1 = 1 → SgE G K (B 11) sz m1 m2 := (fun _ => ⟨hts, l1, l2, nl1, cpl1, cpl2, itl1, itl2, hfl1, hlcl1, hfl2, by rw [hn12]; exact hlcl2, fun i hi => hse i (by omega)⟩)
            have hO : OKP G h0 a (upd F 2 (nI sz)) R Z B J K w := hO.to rfl
            exact W.zret (v := 1) hx hb hr rfl (fun t99 ht99 hW99 => ⟨⟨_, (w, 1), rfl, ⟨rfl, hz33, hz34, hO⟩, by rw [ht99]; exact hP, hD⟩, hS.F ht99⟩) hS.2.2 dX9_haveOneSignature_115
          · have n35 : ¬ (nl1 ≤ i2) := fun h9 => c31 ((nI_leI (a := nl1) (b := i2) (by omega) (by omega)).mpr h9)
            refine lv_aload_n hx hb dX9_haveOneSignature_61 rfl (lv_at hl 3 rfl) ?_
            refine p_get (v := .ref (a 1)) (C := RX9) (Tc := TX9) (N := 5) (ci := 6) hx hb hq pin_wsX90 hown hE hP hO (by rw [hp1]; decide) (rep_7 hp1) rfl 0 (by decide) (hq _ pw_784) (fun _ h9 => h9) (congrArg (fun z => some (va_rf z)) hp2) dX9_haveOneSignature_62 ?_
            refine lv_aload_n hx hb dX9_haveOneSignature_65 rfl (lv_at hl 2 rfl) ?_
            refine p_get (v := .ref l1) (C := RX6) (Tc := TX6) (N := 12) (ci := 12) hx hb hq pin_wsX60 hown hE hP hO (by rw [hm1]; decide) (rep_3 hm1) rfl 4 (by decide) (hq _ pw_1144) (fun _ h9 => h9) (congrArg (fun z => some (va_rf z)) hfl1) dX9_haveOneSignature_66 ?_
            refine lv_iload_n hx hb dX9_haveOneSignature_69 rfl (lv_at hl 0 rfl) ?_
            have hO : OKP G h0 a (upd F 2 (nI sz)) R Z B J K w := hO.to rfl
            obtain ⟨qr39, hqr40⟩ := p_recv hO (by rw [htl1]; decide) (rep_5 htl1)
            refine pc_V0 (G := G) (As := [.int (nI i2)]) (rest := [.ref (a 1)]) hx hb hml hown hq hE hX pX0_al hP hD hS hA hl.1 (L_get l G h0 a (upd F 2 (nI sz)) R Z B J K w l1 1 nl1 itl1 i2 hlcl1.ls (by omega) hO) (gV pw_517 pw_90 pw_91 pw_32 pw_25) hV_Jx4a65c_get_915e3 qr39 10 hqr40 rfl rfl rfl (Nat.le_of_ble_eq_true rfl) dX9_haveOneSignature_70 ⟨Nat.le_of_ble_eq_true rfl, Nat.le_of_ble_eq_true rfl⟩ ⟨Nat.le_of_ble_eq_true rfl, Nat.le_of_ble_eq_true rfl⟩ (fun v38 u36 H locs hw37 hP hD hS => ?_)
            obtain ⟨w, _⟩ := u36
            obtain ⟨hw37, hO⟩ := hw37
            obtain rfl : v38 = some (.ref (itl1 i2)) := hw37
            have hO : OKP G h0 a (upd F 2 (nI sz)) R Z B J K w := hO.to rfl
            refine W.widen (k := 0) (n := 0) (Nat.le_of_ble_eq_true rfl) (Nat.le_of_ble_eq_true rfl) ?_
            refine W.eq (g2 := F0 m 73 ls [.ref (itl1 i2), .ref (a 1)]) rfl ?_
            have hf41 : K.1 (itl1 i2) = 1 := hlcl1.T (by omega)
            refine p_cast (C := RX7) (Tc := TX7) (N := 11) (ci := 13) hx hb hown (hq _ pw_1090) hE hP hO (by rw [hf41]; decide) (rep_1 hf41) rfl dX9_haveOneSignature_73 ?_
            refine p_get (v := .int (K.2.1 2 (itl1 i2))) (C := RX7) (Tc := TX7) (N := 11) (ci := 13) hx hb hq pin_wsX70 hown hE hP hO (by rw [hf41]; decide) (rep_1 hf41) rfl 2 (by decide) (hq _ pw_1145) (fun _ h9 => h9) rfl dX9_haveOneSignature_76 ?_
            have hO : OKW G h0 a (upd (upd F 2 (nI sz)) 2 (nI sz)) R Z B J K.1 (fun q99 x99 => x99 = rep G a K q99) w := hO.to rfl
            obtain ⟨_, qr45, hqr46⟩ := hO.2.1 2 _ (sg_2 G h0 a _ _ _ _ _)
            refine pc_V0 (G := G) (As := [.int (K.2.1 2 (itl1 i2))]) (rest := []) hx hb hml hown hq hE hX pX0_al hP hD hS hA hl.1 (N_typeAt l G h0 a (upd F 2 (nI sz)) R Z B J K.1 (fun q99 x99 => x99 = rep G a K q99) w (K.2.1 2 (itl1 i2)) sz (by omega) hO) (gV pw_1146 pw_93 pw_94 pw_59 pw_36) hV_X10_typeAt qr45 7 hqr46 rfl rfl rfl (Nat.le_of_ble_eq_true rfl) dX9_haveOneSignature_79 ⟨Nat.le_of_ble_eq_true rfl, Nat.le_of_ble_eq_true rfl⟩ ⟨Nat.le_of_ble_eq_true rfl, Nat.le_of_ble_eq_true rfl⟩ (fun v44 u42 H locs hw43 hP hD hS => ?_)
            obtain ⟨w, _⟩ := u42
            obtain ⟨hw43, hO⟩ := hw43
            obtain rfl : v44 = some (.int (tkN ((B 11)) sz 63 (K.2.1 2 (itl1 i2)))) := hw43
            have hO : OKP G h0 a (upd F 2 (nI sz)) R Z B J K w := hO.to rfl
            refine W.widen (k := 0) (n := 0) (Nat.le_of_ble_eq_true rfl) (Nat.le_of_ble_eq_true rfl) ?_
            refine W.eq (g2 := F0 m 82 ls [.int (tkN ((B 11)) sz 63 (K.2.1 2 (itl1 i2)))]) rfl ?_
            refine lv_aload_n hx hb dX9_haveOneSignature_82 rfl (lv_at hl 3 rfl) ?_
            refine p_get (v := .ref (a 1)) (C := RX9) (Tc := TX9) (N := 5) (ci := 6) hx hb hq pin_wsX90 hown hE hP hO (by rw [hp1]; decide) (rep_7 hp1) rfl 0 (by decide) (hq _ pw_784) (fun _ h9 => h9) (congrArg (fun z => some (va_rf z)) hp2) dX9_haveOneSignature_83 ?_
            refine lv_aload_n hx hb dX9_haveOneSignature_86 rfl (lv_at hl 1 rfl) ?_
            refine p_get (v := .ref l2) (C := RX6) (Tc := TX6) (N := 12) (ci := 12) hx hb hq pin_wsX60 hown hE hP hO (by rw [hm2]; decide) (rep_3 hm2) rfl 4 (by decide) (hq _ pw_1144) (fun _ h9 => h9) (congrArg (fun z => some (va_rf z)) hfl2) dX9_haveOneSignature_87 ?_
            refine lv_iload_n hx hb dX9_haveOneSignature_90 rfl (lv_at hl 0 rfl) ?_
            have hO : OKP G h0 a (upd F 2 (nI sz)) R Z B J K w := hO.to rfl
            obtain ⟨qr50, hqr51⟩ := p_recv hO (by rw [htl2]; decide) (rep_5 htl2)
            refine pc_V0 (G := G) (As := [.int (nI i2)]) (rest := [.ref (a 1), .int (tkN ((B 11)) sz 63 (K.2.1 2 (itl1 i2)))]) hx hb hml hown hq hE hX pX0_al hP hD hS hA hl.1 (L_get l G h0 a (upd F 2 (nI sz)) R Z B J K w l2 1 nl2 itl2 i2 hlcl2.ls (by omega) hO) (gV pw_517 pw_90 pw_91 pw_32 pw_25) hV_Jx4a65c_get_915e3 qr50 10 hqr51 rfl rfl rfl (Nat.le_of_ble_eq_true rfl) dX9_haveOneSignature_91 ⟨Nat.le_of_ble_eq_true rfl, Nat.le_of_ble_eq_true rfl⟩ ⟨Nat.le_of_ble_eq_true rfl, Nat.le_of_ble_eq_true rfl⟩ (fun v49 u47 H locs hw48 hP hD hS => ?_)
            obtain ⟨w, _⟩ := u47
            obtain ⟨hw48, hO⟩ := hw48
            obtain rfl : v49 = some (.ref (itl2 i2)) := hw48
            have hO : OKP G h0 a (upd F 2 (nI sz)) R Z B J K w := hO.to rfl
            refine W.widen (k := 0) (n := 0) (Nat.le_of_ble_eq_true rfl) (Nat.le_of_ble_eq_true rfl) ?_
            refine W.eq (g2 := F0 m 94 ls [.ref (itl2 i2), .ref (a 1), .int (tkN ((B 11)) sz 63 (K.2.1 2 (itl1 i2)))]) rfl ?_
            have hf52 : K.1 (itl2 i2) = 1 := hlcl2.T (by omega)
            refine p_cast (C := RX7) (Tc := TX7) (N := 11) (ci := 13) hx hb hown (hq _ pw_1090) hE hP hO (by rw [hf52]; decide) (rep_1 hf52) rfl dX9_haveOneSignature_94 ?_
            refine p_get (v := .int (K.2.1 2 (itl2 i2))) (C := RX7) (Tc := TX7) (N := 11) (ci := 13) hx hb hq pin_wsX70 hown hE hP hO (by rw [hf52]; decide) (rep_1 hf52) rfl 2 (by decide) (hq _ pw_1145) (fun _ h9 => h9) rfl dX9_haveOneSignature_97 ?_
            have hO : OKW G h0 a (upd (upd F 2 (nI sz)) 2 (nI sz)) R Z B J K.1 (fun q99 x99 => x99 = rep G a K q99) w := hO.to rfl
            obtain ⟨_, qr56, hqr57⟩ := hO.2.1 2 _ (sg_2 G h0 a _ _ _ _ _)
            refine pc_V0 (G := G) (As := [.int (K.2.1 2 (itl2 i2))]) (rest := [.int (tkN ((B 11)) sz 63 (K.2.1 2 (itl1 i2)))]) hx hb hml hown hq hE hX pX0_al hP hD hS hA hl.1 (N_typeAt l G h0 a (upd F 2 (nI sz)) R Z B J K.1 (fun q99 x99 => x99 = rep G a K q99) w (K.2.1 2 (itl2 i2)) sz (by omega) hO) (gV pw_1146 pw_93 pw_94 pw_59 pw_36) hV_X10_typeAt qr56 7 hqr57 rfl rfl rfl (Nat.le_of_ble_eq_true rfl) dX9_haveOneSignature_100 ⟨Nat.le_of_ble_eq_true rfl, Nat.le_of_ble_eq_true rfl⟩ ⟨Nat.le_of_ble_eq_true rfl, Nat.le_of_ble_eq_true rfl⟩ (fun v55 u53 H locs hw54 hP hD hS => ?_)
            obtain ⟨w, _⟩ := u53
            obtain ⟨hw54, hO⟩ := hw54
            obtain rfl : v55 = some (.int (tkN ((B 11)) sz 63 (K.2.1 2 (itl2 i2)))) := hw54
            have hO : OKP G h0 a (upd F 2 (nI sz)) R Z B J K w := hO.to rfl
            refine W.widen (k := 0) (n := 0) (Nat.le_of_ble_eq_true rfl) (Nat.le_of_ble_eq_true rfl) ?_
            refine W.eq (g2 := F0 m 103 ls [.int (tkN ((B 11)) sz 63 (K.2.1 2 (itl2 i2))), .int (tkN ((B 11)) sz 63 (K.2.1 2 (itl1 i2)))]) rfl ?_
            refine lv_icmp_eq (tgt := 108) hx hb dX9_haveOneSignature_103 (by decide) (fun c58 => ?_) (fun c58 => ?_)
            · refine lv_iinc (v := (nI (i2 + 1))) (lv' := [(3, .int (nI (i2 + 1))), (2, .ref m2), (1, .ref m1), (0, .ref pq)]) hx hb dX9_haveOneSignature_108 hl (k := 0) rfl (nI_1 i2) (by decide) rfl (fun ls hl => ?_)
              refine lv_goto (tgt := 50) hx hb dX9_haveOneSignature_111 (by decide) ?_
              have hO : OKP G h0 a (upd F 2 (nI sz)) R Z B J K w := hO.to rfl
              exact ih_i (i2 + 1) _ _ _ _ (by omega) (by omega) (alS hse c58) (by omega) hP hD hS hO (lv_sub hl [0, 1, 2, 3] rfl)
            · refine lv_iconst (v := 0) hx hb dX9_haveOneSignature_106 (by decide) ?_
              have hz59 : 0 ≤ 1 := (by omega)
              have hz60 : 0 = 1 → SgE G K (B 11) sz m1 m2 := (fun h => absurd h (by decide))
              have hO : OKP G h0 a (upd F 2 (nI sz)) R Z B J K w := hO.to rfl
              exact W.zret (v := 0) hx hb hr rfl (fun t99 ht99 hW99 => ⟨⟨_, (w, 0), rfl, ⟨rfl, hz59, hz60, hO⟩, by rw [ht99]; exact hP, hD⟩, hS.F ht99⟩) hS.2.2 dX9_haveOneSignature_107
      have hO : OKP G h0 a (upd F 2 (nI sz)) R Z B J K w := hO.to rfl
      exact loop_i (nl1 + 1) 0 _ _ _ _ (by omega) (by omega) (fun i h => absurd h (by omega)) (by omega) hP hD hS hO (lv_sub hl [0, 3, 2, 1] rfl)
    · have n61 : ¬ (nl1 = nl2) := fun h9 => c24 ((nI_eq (a := nl1) (b := nl2) (by omega) (by omega)).mpr h9)
      refine lv_iconst (v := 0) hx hb dX9_haveOneSignature_46 (by decide) ?_
      have hz62 : 0 ≤ 1 := (by omega)
      have hz63 : 0 = 1 → SgE G K (B 11) sz m1 m2 := (fun h => absurd h (by decide))
      have hO : OKP G h0 a (upd F 2 (nI sz)) R Z B J K w := hO.to rfl
      exact W.zret (v := 0) hx hb hr rfl (fun t99 ht99 hW99 => ⟨⟨_, (w, 0), rfl, ⟨rfl, hz62, hz63, hO⟩, by rw [ht99]; exact hP, hD⟩, hS.F ht99⟩) hS.2.2 dX9_haveOneSignature_47
set_option maxHeartbeats 6000000 in
set_option maxRecDepth 100000 in
theorem N_firstFrom (l : Launch) (G : pT) (h0 : Nat) (a : Nat → Nat) (F : Nat → Int32) (R : Nat → Value) (Z : Int64) (B : Nat → Nat → Int32) (J : Nat → Nat → Int64) (K : PK) (w : va_W) (pq : Nat) (dr : Nat) (ml : Nat) (nd : Nat) (d0 : Nat) (k0 : Nat) (x : Int32) (g : Nat → Nat → Nat) (hpb : PgB K g (a 1) pq dr ml nd) (hdc : DcR K g dr nd) (hd0 : K.1 d0 = 4) (hwp : WPr G K g) (hk0 : k0 < nd) (he0 : K.2.2.2.2.1 dr k0 = some d0) (hn0 : K.2.1 15 d0 = nI k0) (hO : OKP G h0 a F R Z B J K w) : PM l G pX0 yX9_firstFromAbove cX9_firstFromAbove 5 (some (.object "JinjaTongue$Method")) ({ frames := 6, cells := 0, slots := 0, locals := 146 }) [.ref pq, .ref d0, .int x] w (fun (v : Option Value) (u : va_W × (Option Nat)) => v = some ((va_rf u.2)) ∧ (FfQ K dr nd d0 x u.2) ∧ (OKP G h0 a F R Z B J K u.1)) (fun u => u.1) := by
  intro sz
  refine Met.ofW (cc := cX9_firstFromAbove) (maxL := 5) (ret := (some (.object "JinjaTongue$Method"))) (by decide) rfl ?_
  intro p e s m args below meth c s₁ B9 hml hv
  obtain ⟨rfl, hsz, hP, hD0, hE, hX⟩ := hv
  have hx := B9.exec
  have hb := B9.bytes
  have hr := B9.returns
  have hts := atoms_spec (ws := Cond.code yX9_firstFromAbove cX9_firstFromAbove 5 (some (.object "JinjaTongue$Method")) :: pw) B9.pre
  have hq : ∀ w ∈ pw, w.before _ s = true := fun w h => hts w (List.mem_cons_of_mem _ h)
  have hown : s.vm.findClass RX9 = some m.cls := findClass_of_methodNamed B9.named
  have hlocks := B9.notSynchronized
  subst hsz
  have hD := hD0.self (sz := s.heap.size)
  have hA : ∀ q : Nat, s.heap.size ≤ q → va_A w s.heap.size q := fun q h => Or.inr h
  generalize va_A w s.heap.size = A at hD hE hA ⊢
  have hS : va_S A s.heap s.heap [] := va_S.rf
  have hl := lv_entry ([.ref pq, .ref d0, .int x]) (n := 5) (Nat.le_of_ble_eq_true rfl)
  rw [lg_entry_eq]
  generalize (lg_sl ([.ref pq, .ref d0, .int x]) ++ List.replicate (5 - (lg_sl ([.ref pq, .ref d0, .int x])).length) Slot.unset).toArray = ls at hl ⊢
  have hl : lv_has ls 5 [(0, .ref pq), (1, .ref d0), (2, .int x)] := hl
  have hp1 := hpb.1
  have hp2 := hpb.2.1
  have hp3 := hpb.2.2.1
  have hp4 := hpb.2.2.2.1
  have hp5 := hpb.2.2.2.2.1
  have hp6 := hpb.2.2.2.2.2.1
  have hp8 := hpb.2.2.2.2.2.2.2.1
  have hp9 := hpb.2.2.2.2.2.2.2.2
  refine lv_iconst (v := 0) hx hb dX9_firstFromAbove_0 (by decide) ?_
  refine lv_istore_n (lv' := [(3, .int 0), (0, .ref pq), (1, .ref d0), (2, .int x)]) hx hb dX9_firstFromAbove_1 rfl hl (by decide) rfl (fun ls hl => ?_)
  have loop_i : ∀ (n_i : Nat) (i2 : Nat) (H : Heap) (locs : List Loc) (ls : Array Slot) (w : va_W), i2 ≤ nd → nd + 1 ≤ i2 + n_i → (∀ j e2 : Nat, j < i2 → K.2.2.2.2.1 dr j = some e2 → bitL (K.2.2.2.1 d0) j → OwP K e2 x none) → va_P G.1 pCl w H → va_D A w → va_S A s.heap H locs → OKP G h0 a F R Z B J K w → lv_has ls 5 [(3, .int (nI i2)), (2, .int x), (1, .ref d0), (0, .ref pq)] → W p l e (headSpec (Cond.code yX9_firstFromAbove cX9_firstFromAbove 5 (some (.object "JinjaTongue$Method")) :: pw) ({ frames := 6, cells := 0, slots := 0, locals := 146 } : Room)).room s m ([.ref pq, .ref d0, .int x] : List Value).toArray below meth c H locs 0 0 (MQ below (pQ G A (fun (v : Option Value) (u : va_W × (Option Nat)) => v = some ((va_rf u.2)) ∧ (FfQ K dr nd d0 x u.2) ∧ (OKP G h0 a F R Z B J K u.1)) (fun u => u.1)) ([.ref pq, .ref d0, .int x] : List Value).toArray s ({ frames := 6, cells := 0, slots := 0, locals := 146 } : Room).cells ({ frames := 6, cells := 0, slots := 0, locals := 146 } : Room).slots A) (F0 m 2 ls []) := by
    intro n_i
    induction n_i with
    | zero => intro i2 H locs ls w hk_i hn_i; omega
    | succ n_i ih_i =>
      intro i2 H locs ls w hk_i hn_i hff hP hD hS hO hl
      refine lv_iload_n hx hb dX9_firstFromAbove_2 rfl (lv_at hl 0 rfl) ?_
      refine lv_aload_n hx hb dX9_firstFromAbove_3 rfl (lv_at hl 3 rfl) ?_
      refine p_get (v := .int (nI nd)) (C := RX9) (Tc := TX9) (N := 5) (ci := 6) hx hb hq pin_wsX90 hown hE hP hO (by rw [hp1]; decide) (rep_7 hp1) rfl 2 (by decide) (hq _ pw_14) (fun _ h9 => h9) (congrArg (fun z => some (Value.int z)) hp8) dX9_firstFromAbove_4 ?_
      refine lv_icmp_ge (tgt := 52) hx hb dX9_firstFromAbove_7 (by decide) (fun c1 => ?_) (fun c1 => ?_)
      · have n2 : nd ≤ i2 := (nI_leI (a := nd) (b := i2) (by omega) (by omega)).mp c1
        refine lv_null hx hb dX9_firstFromAbove_52 ?_
        have hz3 : FfQ K dr nd d0 x none := (fun d h => by cases h)
        have hO : OKP G h0 a F R Z B J K w := hO.to rfl
        exact W.aret (v := .null) hx hb hr (Or.inl ⟨_, rfl⟩) (Or.inl rfl) (fun t99 ht99 hW99 => ⟨⟨_, (w, none), rfl, ⟨rfl, hz3, hO⟩, by rw [ht99]; exact hP, hD⟩, hS.F ht99⟩) hS.2.2 dX9_firstFromAbove_53
      · have n4 : ¬ (nd ≤ i2) := fun h9 => c1 ((nI_leI (a := nd) (b := i2) (by omega) (by omega)).mpr h9)
        refine lv_aload_n hx hb dX9_firstFromAbove_10 rfl (lv_at hl 3 rfl) ?_
        refine lv_iload_n hx hb dX9_firstFromAbove_11 rfl (lv_at hl 0 rfl) ?_
        refine lv_aload_n hx hb dX9_firstFromAbove_12 rfl (lv_at hl 2 rfl) ?_
        refine p_get (v := .int (nI k0)) (C := RX2) (Tc := TX2) (N := 13) (ci := 2) hx hb hq pin_wsX20 hown hE hP hO (by rw [hd0]; decide) (rep_4 hd0) rfl 0 (by decide) (hq _ pw_1139) (fun _ h9 => h9) (congrArg (fun z => some (Value.int z)) hn0) dX9_firstFromAbove_13 ?_
        have hO : OKP G h0 a F R Z B J K w := hO.to rfl
        obtain ⟨qr8, hqr9⟩ := p_recv hO (by rw [hp1]; decide) (rep_7 hp1)
        refine pc_V0 (G := G) (As := [.int (nI i2), .int (nI k0)]) (rest := []) hx hb hml hown hq hE hX pX0_al hP hD hS hA hl.1 (G_isAbove l G h0 a F R Z B J K w pq dr ml nd (nI i2) (nI k0) g hpb hdc hO) (gV pw_107 pw_108 pw_109 pw_106 pw_101) hV_X9_isAbove qr8 6 hqr9 rfl rfl rfl (Nat.le_of_ble_eq_true rfl) dX9_firstFromAbove_16 ⟨Nat.le_of_ble_eq_true rfl, Nat.le_of_ble_eq_true rfl⟩ ⟨Nat.le_of_ble_eq_true rfl, Nat.le_of_ble_eq_true rfl⟩ (fun v7 u5 H locs hw6 hP hD hS => ?_)
        obtain ⟨w, r10⟩ := u5
        obtain ⟨hw6, h11, h12, hO⟩ := hw6
        have h11 : r10 ≤ 1 := h11
        have h12 : AbQ K dr nd (nI i2) (nI k0) r10 := h12
        obtain rfl : v7 = some (.int (nI r10)) := hw6
        have hO : OKP G h0 a F R Z B J K w := hO.to rfl
        refine W.widen (k := 0) (n := 0) (Nat.le_of_ble_eq_true rfl) (Nat.le_of_ble_eq_true rfl) ?_
        refine W.eq (g2 := F0 m 19 ls [.int (nI r10)]) rfl ?_
        refine lv_if_eq (tgt := 35) hx hb dX9_firstFromAbove_19 (by decide) (fun c13 => ?_) (fun c13 => ?_)
        · have n14 : r10 = 0 := (nI_eq (a := r10) (b := 0) (by omega) (by omega)).mp c13
          have hbt : ¬ bitL (K.2.2.2.1 d0) i2 := fun z => by have z2 := (h12 i2 k0 d0 (by omega) hk0 rfl rfl he0).mpr z; omega
          refine lv_null hx hb dX9_firstFromAbove_35 ?_
          refine lv_astoreN (lv' := [(4, .null), (3, .int (nI i2)), (2, .int x), (1, .ref d0), (0, .ref pq)]) hx hb dX9_firstFromAbove_36 hl (by decide) rfl (fun ls hl => ?_)
          refine lv_aloadN hx hb dX9_firstFromAbove_38 (lv_at hl 0 rfl) ?_
          refine lv_ifnullN (tgt := 46) hx hb dX9_firstFromAbove_40 (by decide) ?_
          refine lv_iinc (v := (nI (i2 + 1))) (lv' := [(3, .int (nI (i2 + 1))), (4, .null), (2, .int x), (1, .ref d0), (0, .ref pq)]) hx hb dX9_firstFromAbove_46 hl (k := 1) rfl (nI_1 i2) (by decide) rfl (fun ls hl => ?_)
          refine lv_goto (tgt := 2) hx hb dX9_firstFromAbove_49 (by decide) ?_
          have hO : OKP G h0 a F R Z B J K w := hO.to rfl
          exact ih_i (i2 + 1) _ _ _ _ (by omega) (by omega) (alJ hff (fun e2 _ z => absurd z hbt)) hP hD hS hO (lv_sub hl [0, 2, 3, 4] rfl)
        · have n15 : ¬ (r10 = 0) := fun h9 => c13 ((nI_eq (a := r10) (b := 0) (by omega) (by omega)).mpr h9)
          have hbt : bitL (K.2.2.2.1 d0) i2 := (h12 i2 k0 d0 (by omega) hk0 rfl rfl he0).mp (by omega)
          refine lv_aload_n hx hb dX9_firstFromAbove_22 rfl (lv_at hl 3 rfl) ?_
          refine p_get (v := .ref dr) (C := RX9) (Tc := TX9) (N := 5) (ci := 6) hx hb hq pin_wsX90 hown hE hP hO (by rw [hp1]; decide) (rep_7 hp1) rfl 1 (by decide) (hq _ pw_15) (fun _ h9 => h9) (congrArg (fun z => some (va_rf z)) hp3) dX9_firstFromAbove_23 ?_
          refine lv_iload_n hx hb dX9_firstFromAbove_26 rfl (lv_at hl 0 rfl) ?_
          refine p_ald8 hx hb hE hP hO hp4 (vp_in_nI (by omega) (by omega)) dX9_firstFromAbove_27 ?_
          rw [nI_clamp (show i2 < 2 ^ 31 by omega)]
          obtain ⟨d16, hd17, hd18, hd19, hd20⟩ := hdc i2 (by omega)
          rw [hd17]
          refine W.eq (g2 := F0 m 28 ls [.ref d16]) rfl ?_
          refine lv_iload_n hx hb dX9_firstFromAbove_28 rfl (lv_at hl 1 rfl) ?_
          have hO : OKP G h0 a F R Z B J K w := hO.to rfl
          obtain ⟨qr24, hqr25⟩ := p_recv hO (by rw [hd18]; decide) (rep_4 hd18)
          refine pc_V0 (G := G) (As := [.int x]) (rest := []) hx hb hml hown hq hE hX pX0_al hP hD hS hA hl.1 (Y_own l G h0 a F R Z B J K w d16 x g hd18 hwp hO) (gV pw_1099 pw_152 pw_153 pw_146 pw_149) hV_X2_own qr24 2 hqr25 rfl rfl rfl (Nat.le_of_ble_eq_true rfl) dX9_firstFromAbove_29 ⟨Nat.le_of_ble_eq_true rfl, Nat.le_of_ble_eq_true rfl⟩ ⟨Nat.le_of_ble_eq_true rfl, Nat.le_of_ble_eq_true rfl⟩ (fun v23 u21 H locs hw22 hP hD hS => ?_)
          obtain ⟨w, o26⟩ := u21
          obtain ⟨hw22, h27, hO⟩ := hw22
          have h27 : OwP K d16 x o26 := h27
          obtain rfl : v23 = some ((va_rf o26)) := hw22
          have hO : OKP G h0 a F R Z B J K w := hO.to rfl
          refine W.widen (k := 0) (n := 0) (Nat.le_of_ble_eq_true rfl) (Nat.le_of_ble_eq_true rfl) ?_
          refine W.eq (g2 := F0 m 32 ls [(va_rf o26)]) rfl ?_
          rcases o26 with _ | d28
          · have hl : lv_has ls 5 [(3, .int (nI i2)), (2, .int x), (1, .ref d0), (0, .ref pq)] := hl
            refine W.eq (g2 := F0 m 32 ls [.null]) rfl ?_
            refine lv_goto (tgt := 36) hx hb dX9_firstFromAbove_32 (by decide) ?_
            refine lv_astoreN (lv' := [(4, .null), (3, .int (nI i2)), (2, .int x), (1, .ref d0), (0, .ref pq)]) hx hb dX9_firstFromAbove_36 hl (by decide) rfl (fun ls hl => ?_)
            refine lv_aloadN hx hb dX9_firstFromAbove_38 (lv_at hl 0 rfl) ?_
            refine lv_ifnullN (tgt := 46) hx hb dX9_firstFromAbove_40 (by decide) ?_
            refine lv_iinc (v := (nI (i2 + 1))) (lv' := [(3, .int (nI (i2 + 1))), (4, .null), (2, .int x), (1, .ref d0), (0, .ref pq)]) hx hb dX9_firstFromAbove_46 hl (k := 1) rfl (nI_1 i2) (by decide) rfl (fun ls hl => ?_)
            refine lv_goto (tgt := 2) hx hb dX9_firstFromAbove_49 (by decide) ?_
            have hO : OKP G h0 a F R Z B J K w := hO.to rfl
            exact ih_i (i2 + 1) _ _ _ _ (by omega) (by omega) (alJ hff (fun e2 z _ => by cases hd17.symm.trans z; exact h27)) hP hD hS hO (lv_sub hl [0, 2, 3, 4] rfl)
          · have hl : lv_has ls 5 [(3, .int (nI i2)), (2, .int x), (1, .ref d0), (0, .ref pq)] := hl
            refine W.eq (g2 := F0 m 32 ls [.ref d28]) rfl ?_
            obtain ⟨lo, hflo, htlo, hrlo, holo⟩ := (hwp.2.2.1 d16 hd18).2.1
            obtain ⟨nlo, itlo, cplo, hlclo, hnblo, hcblo⟩ := hwp.2.1 lo htlo
            rw [hrlo] at hlclo hnblo
            have hnclo := hlclo.2.2.1
            have hnblo : nlo ≤ 30 := hnblo
            have hlclo : LsC G K lo 3 nlo itlo cplo := hlclo
            have hf29 : K.1 d28 = 3 := hlclo.own hflo h27
            refine lv_goto (tgt := 36) hx hb dX9_firstFromAbove_32 (by decide) ?_
            refine lv_astore (lv' := [(4, .ref d28), (3, .int (nI i2)), (2, .int x), (1, .ref d0), (0, .ref pq)]) hx hb dX9_firstFromAbove_36 hl (by decide) rfl (fun ls hl => ?_)
            refine lv_aload hx hb dX9_firstFromAbove_38 (lv_at hl 0 rfl) ?_
            refine lv_ifnull hx hb dX9_firstFromAbove_40 ?_
            refine lv_aload hx hb dX9_firstFromAbove_43 (lv_at hl 0 rfl) ?_
            have hz30 : FfQ K dr nd d0 x (some d28) := (fun d h => by cases h; exact ⟨hf29, i2, d16, by omega, hd17, hbt, h27, hff⟩)
            have hO : OKP G h0 a F R Z B J K w := hO.to rfl
            exact W.aret (v := .ref d28) hx hb hr (Or.inl ⟨_, rfl⟩) (Or.inr ⟨_, rfl⟩) (fun t99 ht99 hW99 => ⟨⟨_, (w, (some d28)), rfl, ⟨rfl, hz30, hO⟩, by rw [ht99]; exact hP, hD⟩, hS.F ht99⟩) hS.2.2 dX9_firstFromAbove_45
  have hO : OKP G h0 a F R Z B J K w := hO.to rfl
  exact loop_i (nd + 1) 0 _ _ _ _ (by omega) (by omega) (fun j e2 h => absurd h (by omega)) hP hD hS hO (lv_sub hl [0, 3, 2, 1] rfl)
set_option maxHeartbeats 6000000 in
set_option maxRecDepth 100000 in
theorem N_nearest (l : Launch) (G : pT) (h0 : Nat) (a : Nat → Nat) (F : Nat → Int32) (R : Nat → Value) (Z : Int64) (B : Nat → Nat → Int32) (J : Nat → Nat → Int64) (K : PK) (w : va_W) (d0 : Nat) (x : Int32) (g : Nat → Nat → Nat) (rk : Nat → Nat) (hd0 : K.1 d0 = 4) (hwp : WPr G K g) (hrk : RkO K rk) (hO : OKP G h0 a F R Z B J K w) : PM l G pX0 yX2_nearest cX2_nearest 4 (some (.object "JinjaTongue$Method")) ({ frames := 6, cells := 0, slots := 0, locals := 146 }) [.ref d0, .int x] w (fun (v : Option Value) (u : va_W × (Option Nat)) => v = some ((va_rf u.2)) ∧ (NeQ K x d0 u.2) ∧ (OKP G h0 a F R Z B J K u.1)) (fun u => u.1) := by
  intro sz
  refine Met.ofW (cc := cX2_nearest) (maxL := 4) (ret := (some (.object "JinjaTongue$Method"))) (by decide) rfl ?_
  intro p e s m args below meth c s₁ B9 hml hv
  obtain ⟨rfl, hsz, hP, hD0, hE, hX⟩ := hv
  have hx := B9.exec
  have hb := B9.bytes
  have hr := B9.returns
  have hts := atoms_spec (ws := Cond.code yX2_nearest cX2_nearest 4 (some (.object "JinjaTongue$Method")) :: pw) B9.pre
  have hq : ∀ w ∈ pw, w.before _ s = true := fun w h => hts w (List.mem_cons_of_mem _ h)
  have hown : s.vm.findClass RX2 = some m.cls := findClass_of_methodNamed B9.named
  have hlocks := B9.notSynchronized
  subst hsz
  have hD := hD0.self (sz := s.heap.size)
  have hA : ∀ q : Nat, s.heap.size ≤ q → va_A w s.heap.size q := fun q h => Or.inr h
  generalize va_A w s.heap.size = A at hD hE hA ⊢
  have hS : va_S A s.heap s.heap [] := va_S.rf
  have hl := lv_entry ([.ref d0, .int x]) (n := 4) (Nat.le_of_ble_eq_true rfl)
  rw [lg_entry_eq]
  generalize (lg_sl ([.ref d0, .int x]) ++ List.replicate (4 - (lg_sl ([.ref d0, .int x])).length) Slot.unset).toArray = ls at hl ⊢
  have hl : lv_has ls 4 [(0, .ref d0), (1, .int x)] := hl
  refine lv_aload_n hx hb dX2_nearest_0 rfl (lv_at hl 0 rfl) ?_
  refine lv_astore_n (lv' := [(2, .ref d0), (0, .ref d0), (1, .int x)]) hx hb dX2_nearest_1 rfl hl (by decide) rfl (fun ls hl => ?_)
  have loop_i : ∀ (n_i : Nat) (i2 : Nat) (o2 : Option Nat) (H : Heap) (locs : List Loc) (ls : Array Slot) (w : va_W), i2 ≤ 101 → 101 + 1 ≤ i2 + n_i → (RkB K rk i2 o2) → (∀ d m : Nat, o2 = some d → NeP K x (101 - i2) d m → NeP K x 101 d0 m) → va_P G.1 pCl w H → va_D A w → va_S A s.heap H locs → OKP G h0 a F R Z B J K w → lv_has ls 4 [(2, va_rf o2), (1, .int x), (0, .ref d0)] → W p l e (headSpec (Cond.code yX2_nearest cX2_nearest 4 (some (.object "JinjaTongue$Method")) :: pw) ({ frames := 6, cells := 0, slots := 0, locals := 146 } : Room)).room s m ([.ref d0, .int x] : List Value).toArray below meth c H locs 0 0 (MQ below (pQ G A (fun (v : Option Value) (u : va_W × (Option Nat)) => v = some ((va_rf u.2)) ∧ (NeQ K x d0 u.2) ∧ (OKP G h0 a F R Z B J K u.1)) (fun u => u.1)) ([.ref d0, .int x] : List Value).toArray s ({ frames := 6, cells := 0, slots := 0, locals := 146 } : Room).cells ({ frames := 6, cells := 0, slots := 0, locals := 146 } : Room).slots A) (F0 m 2 ls []) := by
    intro n_i
    induction n_i with
    | zero => intro i2 o2 H locs ls w hk_i hn_i; omega
    | succ n_i ih_i =>
      intro i2 o2 H locs ls w hk_i hn_i hrb hne2 hP hD hS hO hl
      rcases o2 with _ | d2
      · have hl : lv_has ls 4 [(2, .null), (1, .int x), (0, .ref d0)] := hl
        refine W.eq (g2 := F0 m 2 ls []) rfl ?_
        refine lv_aload_nN hx hb dX2_nearest_2 rfl (lv_at hl 0 rfl) ?_
        refine lv_ifnullN (tgt := 26) hx hb dX2_nearest_3 (by decide) ?_
        refine lv_null hx hb dX2_nearest_26 ?_
        have hz1 : NeQ K x d0 none := (fun d h => by cases h)
        have hO : OKP G h0 a F R Z B J K w := hO.to rfl
        exact W.aret (v := .null) hx hb hr (Or.inl ⟨_, rfl⟩) (Or.inl rfl) (fun t99 ht99 hW99 => ⟨⟨_, (w, none), rfl, ⟨rfl, hz1, hO⟩, by rw [ht99]; exact hP, hD⟩, hS.F ht99⟩) hS.2.2 dX2_nearest_27
      · have hl : lv_has ls 4 [(2, .ref d2), (1, .int x), (0, .ref d0)] := hl
        refine W.eq (g2 := F0 m 2 ls []) rfl ?_
        obtain ⟨hcT, hcR⟩ := hrb d2 rfl
        have hi10 : i2 ≤ 100 := by omega
        refine lv_aload_n hx hb dX2_nearest_2 rfl (lv_at hl 0 rfl) ?_
        refine lv_ifnull hx hb dX2_nearest_3 ?_
        refine lv_aload_n hx hb dX2_nearest_6 rfl (lv_at hl 0 rfl) ?_
        refine lv_iload_n hx hb dX2_nearest_7 rfl (lv_at hl 1 rfl) ?_
        have hO : OKP G h0 a F R Z B J K w := hO.to rfl
        obtain ⟨qr5, hqr6⟩ := p_recv hO (by rw [hcT]; decide) (rep_4 hcT)
        refine pc_V0 (G := G) (As := [.int x]) (rest := []) hx hb hml hown hq hE hX pX0_al hP hD hS hA hl.1 (Y_own l G h0 a F R Z B J K w d2 x g hcT hwp hO) (gV pw_151 pw_152 pw_153 pw_146 pw_149) hV_X2_own qr5 2 hqr6 rfl rfl rfl (Nat.le_of_ble_eq_true rfl) dX2_nearest_8 ⟨Nat.le_of_ble_eq_true rfl, Nat.le_of_ble_eq_true rfl⟩ ⟨Nat.le_of_ble_eq_true rfl, Nat.le_of_ble_eq_true rfl⟩ (fun v4 u2 H locs hw3 hP hD hS => ?_)
        obtain ⟨w, o7⟩ := u2
        obtain ⟨hw3, h8, hO⟩ := hw3
        have h8 : OwP K d2 x o7 := h8
        obtain rfl : v4 = some ((va_rf o7)) := hw3
        have hO : OKP G h0 a F R Z B J K w := hO.to rfl
        refine W.widen (k := 0) (n := 0) (Nat.le_of_ble_eq_true rfl) (Nat.le_of_ble_eq_true rfl) ?_
        refine W.eq (g2 := F0 m 11 ls [(va_rf o7)]) rfl ?_
        rcases o7 with _ | d9
        · have hl : lv_has ls 4 [(2, .ref d2), (1, .int x), (0, .ref d0)] := hl
          refine W.eq (g2 := F0 m 11 ls [.null]) rfl ?_
          refine lv_astore_nN (lv' := [(3, .null), (2, .ref d2), (1, .int x), (0, .ref d0)]) hx hb dX2_nearest_11 rfl hl (by decide) rfl (fun ls hl => ?_)
          refine lv_aload_nN hx hb dX2_nearest_12 rfl (lv_at hl 0 rfl) ?_
          refine lv_ifnullN (tgt := 18) hx hb dX2_nearest_13 (by decide) ?_
          refine lv_aload_n hx hb dX2_nearest_18 rfl (lv_at hl 1 rfl) ?_
          rcases ho11 : K.2.2.1 10 d2 with _ | o10
          · skip
            refine p_get (v := .null) (C := RX2) (Tc := TX2) (N := 13) (ci := 2) hx hb hq pin_wsX20 hown hE hP hO (by rw [hcT]; decide) (rep_4 hcT) rfl 9 (by decide) (hq _ pw_150) (fun _ h9 => h9) (congrArg (fun z => some (va_rf z)) ho11) dX2_nearest_19 ?_
            refine lv_astore_nN (lv' := [(2, .null), (3, .null), (1, .int x), (0, .ref d0)]) hx hb dX2_nearest_22 rfl hl (by decide) rfl (fun ls hl => ?_)
            refine lv_goto (tgt := 2) hx hb dX2_nearest_23 (by decide) ?_
            have hO : OKP G h0 a F R Z B J K w := hO.to rfl
            exact ih_i (i2 + 1) none _ _ _ _ (by omega) (by omega) (RkB.up hrk hcT hcR ho11) (fun d m h w => by cases h) hP hD hS hO (lv_sub hl [0, 2, 3] rfl)
          · skip
            refine p_get (v := .ref o10) (C := RX2) (Tc := TX2) (N := 13) (ci := 2) hx hb hq pin_wsX20 hown hE hP hO (by rw [hcT]; decide) (rep_4 hcT) rfl 9 (by decide) (hq _ pw_150) (fun _ h9 => h9) (congrArg (fun z => some (va_rf z)) ho11) dX2_nearest_19 ?_
            refine lv_astore_n (lv' := [(2, .ref o10), (3, .null), (1, .int x), (0, .ref d0)]) hx hb dX2_nearest_22 rfl hl (by decide) rfl (fun ls hl => ?_)
            refine lv_goto (tgt := 2) hx hb dX2_nearest_23 (by decide) ?_
            have hO : OKP G h0 a F R Z B J K w := hO.to rfl
            exact ih_i (i2 + 1) (some o10) _ _ _ _ (by omega) (by omega) (RkB.up hrk hcT hcR ho11) (fun d m h w => by cases h; exact hne2 d2 m rfl (NeP.nxt (by omega) h8 ho11 w)) hP hD hS hO (lv_sub hl [0, 2, 3] rfl)
        · have hl : lv_has ls 4 [(2, .ref d2), (1, .int x), (0, .ref d0)] := hl
          refine W.eq (g2 := F0 m 11 ls [.ref d9]) rfl ?_
          obtain ⟨lo, hflo, htlo, hrlo, holo⟩ := (hwp.2.2.1 d2 hcT).2.1
          obtain ⟨nlo, itlo, cplo, hlclo, hnblo, hcblo⟩ := hwp.2.1 lo htlo
          rw [hrlo] at hlclo hnblo
          have hnclo := hlclo.2.2.1
          have hnblo : nlo ≤ 30 := hnblo
          have hlclo : LsC G K lo 3 nlo itlo cplo := hlclo
          have hf12 : K.1 d9 = 3 := hlclo.own hflo h8
          refine lv_astore_n (lv' := [(3, .ref d9), (2, .ref d2), (1, .int x), (0, .ref d0)]) hx hb dX2_nearest_11 rfl hl (by decide) rfl (fun ls hl => ?_)
          refine lv_aload_n hx hb dX2_nearest_12 rfl (lv_at hl 0 rfl) ?_
          refine lv_ifnull hx hb dX2_nearest_13 ?_
          refine lv_aload_n hx hb dX2_nearest_16 rfl (lv_at hl 0 rfl) ?_
          have hz13 : NeQ K x d0 (some d9) := (fun d h => by cases h; exact ⟨hf12, hne2 d2 d9 rfl (NeP.fst (by omega) h8)⟩)
          have hO : OKP G h0 a F R Z B J K w := hO.to rfl
          exact W.aret (v := .ref d9) hx hb hr (Or.inl ⟨_, rfl⟩) (Or.inr ⟨_, rfl⟩) (fun t99 ht99 hW99 => ⟨⟨_, (w, (some d9)), rfl, ⟨rfl, hz13, hO⟩, by rw [ht99]; exact hP, hD⟩, hS.F ht99⟩) hS.2.2 dX2_nearest_17
  have hO : OKP G h0 a F R Z B J K w := hO.to rfl
  exact loop_i (101 + 1) 0 (some d0) _ _ _ _ (by omega) (by omega) (fun d h => by cases h; exact ⟨hd0, Or.inl rfl⟩) (fun d m h w => by cases h; exact w) hP hD hS hO (lv_sub hl [0, 2, 1] rfl)
