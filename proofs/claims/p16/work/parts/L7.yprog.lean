theorem fitK.arr {bt : Nat → Nat → Prop} {nd t u r : Nat} (h : r = 1 ↔ (u - 64 < nd ∧ t - 64 < nd ∧ bt (t - 64) (u - 64))) (q : ¬ t = 63 ∧ ¬ u = 63 ∧ ¬ t = u ∧ ¬ t = 62 ∧ ¬ u = 0 ∧ 64 ≤ t ∧ 64 ≤ u) : r = 1 ↔ fitK bt nd t u := by
  obtain ⟨q1, q2, q3, q4, q5, q6, q7⟩ := q
  refine h.trans ⟨fun z => ⟨q1, q2, Or.inr (Or.inr (Or.inl ⟨q3, q4, q5, q6, q7, z⟩))⟩, fun z => ?_⟩
  obtain ⟨z1, z2, z3 | ⟨z3, z4, z5, z6, z7, z8⟩ | ⟨z3, z4, z5, z6, z7, z8⟩ | ⟨z3, z4, z5, z6, z7, z8, _⟩⟩ := z
  · omega
  · omega
  · exact z8
  · omega
theorem fitK.cls {bt : Nat → Nat → Prop} {nd t u r : Nat} (h : r = 1 ↔ (u < nd ∧ t < nd ∧ bt t u)) (q : ¬ t = 63 ∧ ¬ u = 63 ∧ ¬ t = u ∧ ¬ t = 62 ∧ ¬ u = 0 ∧ (t < 64 ∨ u < 64)) : r = 1 ↔ fitK bt nd t u := by
  obtain ⟨q1, q2, q3, q4, q5, q6⟩ := q
  refine h.trans ⟨fun z => ⟨q1, q2, Or.inr (Or.inr (Or.inr ⟨q3, q4, q5, q6, z⟩))⟩, fun z => ?_⟩
  obtain ⟨z1, z2, z3 | ⟨z3, z4, z5, z6, z7, z8⟩ | ⟨z3, z4, z5, z6, z7, z8, z9, _⟩ | ⟨z3, z4, z5, z6, z8⟩⟩ := z
  · omega
  · omega
  · omega
  · exact z8
theorem LsC.sz {G : pT} {K : PK} {q es n cap : Nat} {it : Nat → Nat} (h : LsC G K q es n it cap) : K.2.1 23 q = nI n := h.ls.2.1
theorem OwP.uniq {K : PK} {q : Nat} {x : Int32} {o1 o2 : Option Nat} (h : OwP K q x o1) (k : OwP K q x o2) : o1 = o2 := by
  obtain ⟨l1, n1, i1, a1, a2, a3, a4, a5⟩ := h
  obtain ⟨l2, n2, i2, b1, b2, b3, b4, b5⟩ := k
  have e1 : l1 = l2 := Option.some.inj (a1.symm.trans b1)
  subst e1
  have e2 : n1 = n2 := (nI_eq (by omega) (by omega)).mp (a2.symm.trans b2)
  subst e2
  have e3 : ∀ i : Nat, i < n1 → i1 i = i2 i := fun i hi => by
    obtain ⟨r1, c1, c2⟩ := a4 i hi
    obtain ⟨r2, d1, d2⟩ := b4 i hi
    have e4 : r1 = r2 := Option.some.inj (c1.symm.trans d1)
    subst e4
    exact Option.some.inj (c2.symm.trans d2)
  rcases a5 with ⟨a5, a6⟩ | ⟨i, a5, a6, a7, a8⟩ <;> rcases b5 with ⟨b5, b6⟩ | ⟨j, b5, b6, b7, b8⟩
  · rw [a5, b5]
  · have z := a6 j b5
    rw [e3 j b5] at z
    exact absurd b7 z
  · have z := b6 i a5
    rw [← e3 i a5] at z
    exact absurd a7 z
  · have ij : i = j := by
      rcases Nat.lt_trichotomy i j with w | w | w
      · have z := b8 i w
        rw [← e3 i a5] at z
        exact absurd a7 z
      · exact w
      · have z := a8 j w
        rw [e3 j b5] at z
        exact absurd b7 z
    subst ij
    rw [a6, b6, e3 i a5]
theorem NeP.nx {K : PK} {x : Int32} {n q m : Nat} (h : NeP K x n q m) : 1 ≤ n ∧ (OwP K q x (some m) ∨ (OwP K q x none ∧ ∃ p : Nat, K.2.2.1 10 q = some p ∧ NeP K x (n - 1) p m)) := by
  cases n with
  | zero => exact h.elim
  | succ n => exact ⟨by omega, h⟩
theorem LsC.el {G : pT} {K : PK} {q es n cap : Nat} {it : Nat → Nat} (h : LsC G K q es n it cap) : ∀ i : Nat, i < n → ∃ r : Nat, K.2.2.1 13 q = some r ∧ K.2.2.2.2.1 r i = some (it i) := fun i hi => by
  obtain ⟨e9, h1, _, _, _, h5, _⟩ := h.ls.at hi
  exact ⟨e9, h1, h5⟩
set_option maxHeartbeats 8000000 in
set_option maxRecDepth 100000 in
theorem Y_isAbove (l : Launch) (G : pT) (h0 : Nat) (a : Nat → Nat) (F : Nat → Int32) (R : Nat → Value) (Z : Int64) (B : Nat → Nat → Int32) (J : Nat → Nat → Int64) (K : PK) (w : va_W) (pq : Nat) (dr : Nat) (ml : Nat) (nd : Nat) (k9 : Nat) (k8 : Nat) (g : Nat → Nat → Nat) (hpb : PgB K g (a 1) pq dr ml nd) (hdc : DcR K g dr nd) (hk9 : k9 < 128 ∧ k8 < 128) (hO : OKP G h0 a F R Z B J K w) : PM l G pX0 yX9_isAbove cX9_isAbove 3 (some .boolean) ({ frames := 2, cells := 0, slots := 0, locals := 60 }) [.ref pq, .int (nI k9), .int (nI k8)] w (fun (v : Option Value) (u : va_W × (Nat)) => v = some (.int (nI u.2)) ∧ (u.2 ≤ 1) ∧ (u.2 = 1 ↔ (k9 < nd ∧ k8 < nd ∧ btK K dr k8 k9)) ∧ (OKP G h0 a F R Z B J K u.1)) (fun u => u.1) := by
  intro sz
  refine Met.ofW (cc := cX9_isAbove) (maxL := 3) (ret := (some .boolean)) (by decide) rfl ?_
  intro p e s m args below meth c s₁ B9 hml hv
  obtain ⟨rfl, hsz, hP, hD0, hE, hX⟩ := hv
  have hx := B9.exec
  have hb := B9.bytes
  have hr := B9.returns
  have hts := atoms_spec (ws := Cond.code yX9_isAbove cX9_isAbove 3 (some .boolean) :: pw) B9.pre
  have hq : ∀ w ∈ pw, w.before _ s = true := fun w h => hts w (List.mem_cons_of_mem _ h)
  have hown : s.vm.findClass RX9 = some m.cls := findClass_of_methodNamed B9.named
  have hlocks := B9.notSynchronized
  subst hsz
  have hD := hD0.self (sz := s.heap.size)
  have hA : ∀ q : Nat, s.heap.size ≤ q → va_A w s.heap.size q := fun q h => Or.inr h
  generalize va_A w s.heap.size = A at hD hE hA ⊢
  have hS : va_S A s.heap s.heap [] := va_S.rf
  have hl := lv_entry ([.ref pq, .int (nI k9), .int (nI k8)]) (n := 3) (Nat.le_of_ble_eq_true rfl)
  rw [lg_entry_eq]
  generalize (lg_sl ([.ref pq, .int (nI k9), .int (nI k8)]) ++ List.replicate (3 - (lg_sl ([.ref pq, .int (nI k9), .int (nI k8)])).length) Slot.unset).toArray = ls at hl ⊢
  have hl : lv_has ls 3 [(0, .ref pq), (1, .int (nI k9)), (2, .int (nI k8))] := hl
  have hp1 := hpb.1
  have hp2 := hpb.2.1
  have hp3 := hpb.2.2.1
  have hp4 := hpb.2.2.2.1
  have hp5 := hpb.2.2.2.2.1
  have hp6 := hpb.2.2.2.2.2.1
  have hp8 := hpb.2.2.2.2.2.2.2.1
  have hp9 := hpb.2.2.2.2.2.2.2.2
  refine lv_iload_n hx hb dX9_isAbove_0 rfl (lv_at hl 1 rfl) ?_
  refine lv_if_lt (tgt := 46) hx hb dX9_isAbove_1 (by decide) (fun c1 => (by have n2 : k9 < 0 := (nI_ltI (a := k9) (b := 0) (by omega) (by omega)).mp c1; omega)) (fun c1 => ?_)
  refine lv_iload_n hx hb dX9_isAbove_4 rfl (lv_at hl 1 rfl) ?_
  refine lv_aload_n hx hb dX9_isAbove_5 rfl (lv_at hl 0 rfl) ?_
  refine p_get (v := .int (nI nd)) (C := RX9) (Tc := TX9) (N := 5) (ci := 6) hx hb hq pin_wsX90 hown hE hP hO (by rw [hp1]; decide) (rep_7 hp1) rfl 2 (by decide) (hq _ pw_14) (fun _ h9 => h9) (congrArg (fun z => some (Value.int z)) hp8) dX9_isAbove_6 ?_
  refine lv_icmp_ge (tgt := 46) hx hb dX9_isAbove_9 (by decide) (fun c3 => ?_) (fun c3 => ?_)
  · have n4 : nd ≤ k9 := (nI_leI (a := nd) (b := k9) (by omega) (by omega)).mp c3
    refine lv_iconst (v := 0) hx hb dX9_isAbove_46 (by decide) ?_
    have hz5 : 0 ≤ 1 := (by omega)
    have hz6 : 0 = 1 ↔ (k9 < nd ∧ k8 < nd ∧ btK K dr k8 k9) := ⟨fun z => absurd z (by decide), fun z => by have z1 := z.1; omega⟩
    have hO : OKP G h0 a F R Z B J K w := hO.to rfl
    exact W.zret (v := 0) hx hb hr rfl (fun t99 ht99 hW99 => ⟨⟨_, (w, 0), rfl, ⟨rfl, hz5, hz6, hO⟩, by rw [ht99]; exact hP, hD⟩, hS.F ht99⟩) hS.2.2 dX9_isAbove_47
  · have n7 : ¬ (nd ≤ k9) := fun h9 => c3 ((nI_leI (a := nd) (b := k9) (by omega) (by omega)).mpr h9)
    refine lv_iload_n hx hb dX9_isAbove_12 rfl (lv_at hl 2 rfl) ?_
    refine lv_if_lt (tgt := 46) hx hb dX9_isAbove_13 (by decide) (fun c8 => (by have n9 : k8 < 0 := (nI_ltI (a := k8) (b := 0) (by omega) (by omega)).mp c8; omega)) (fun c8 => ?_)
    refine lv_iload_n hx hb dX9_isAbove_16 rfl (lv_at hl 2 rfl) ?_
    refine lv_aload_n hx hb dX9_isAbove_17 rfl (lv_at hl 0 rfl) ?_
    refine p_get (v := .int (nI nd)) (C := RX9) (Tc := TX9) (N := 5) (ci := 6) hx hb hq pin_wsX90 hown hE hP hO (by rw [hp1]; decide) (rep_7 hp1) rfl 2 (by decide) (hq _ pw_14) (fun _ h9 => h9) (congrArg (fun z => some (Value.int z)) hp8) dX9_isAbove_18 ?_
    refine lv_icmp_ge (tgt := 46) hx hb dX9_isAbove_21 (by decide) (fun c10 => ?_) (fun c10 => ?_)
    · have n11 : nd ≤ k8 := (nI_leI (a := nd) (b := k8) (by omega) (by omega)).mp c10
      refine lv_iconst (v := 0) hx hb dX9_isAbove_46 (by decide) ?_
      have hz12 : 0 ≤ 1 := (by omega)
      have hz13 : 0 = 1 ↔ (k9 < nd ∧ k8 < nd ∧ btK K dr k8 k9) := ⟨fun z => absurd z (by decide), fun z => by have z1 := z.2.1; omega⟩
      have hO : OKP G h0 a F R Z B J K w := hO.to rfl
      exact W.zret (v := 0) hx hb hr rfl (fun t99 ht99 hW99 => ⟨⟨_, (w, 0), rfl, ⟨rfl, hz12, hz13, hO⟩, by rw [ht99]; exact hP, hD⟩, hS.F ht99⟩) hS.2.2 dX9_isAbove_47
    · have n14 : ¬ (nd ≤ k8) := fun h9 => c10 ((nI_leI (a := nd) (b := k8) (by omega) (by omega)).mpr h9)
      refine lv_aload_n hx hb dX9_isAbove_24 rfl (lv_at hl 0 rfl) ?_
      refine p_get (v := .ref dr) (C := RX9) (Tc := TX9) (N := 5) (ci := 6) hx hb hq pin_wsX90 hown hE hP hO (by rw [hp1]; decide) (rep_7 hp1) rfl 1 (by decide) (hq _ pw_15) (fun _ h9 => h9) (congrArg (fun z => some (va_rf z)) hp3) dX9_isAbove_25 ?_
      refine lv_iload_n hx hb dX9_isAbove_28 rfl (lv_at hl 2 rfl) ?_
      refine p_ald8 hx hb hE hP hO hp4 (vp_in_nI (by omega) (by omega)) dX9_isAbove_29 ?_
      rw [nI_clamp (show k8 < 2 ^ 31 by omega)]
      obtain ⟨d15, hd16, hd17, hd18, hd19⟩ := hdc k8 (by omega)
      rw [hd16]
      refine W.eq (g2 := F0 m 30 ls [.ref d15]) rfl ?_
      refine p_get (v := .long (K.2.2.2.1 d15)) (C := RX2) (Tc := TX2) (N := 13) (ci := 2) hx hb hq pin_wsX20 hown hE hP hO (by rw [hd17]; decide) (rep_4 hd17) rfl 10 (by decide) (hq _ pw_102) (fun _ h9 => h9) rfl dX9_isAbove_30 ?_
      refine lv_iload_n hx hb dX9_isAbove_33 rfl (lv_at hl 1 rfl) ?_
      refine lv_lushr hx hb dX9_isAbove_34 rfl ?_
      refine lv_topl (fun x20 e21 => ?_)
      refine lv_lconst (v := 1) hx hb dX9_isAbove_35 (by decide) ?_
      refine lv_land hx hb dX9_isAbove_36 ?_
      refine lv_topl (fun x22 e23 => ?_)
      refine lv_lconst (v := 1) hx hb dX9_isAbove_37 (by decide) ?_
      refine W.lcmp hx hb dX9_isAbove_38 ?_
      refine lv_topi (fun x24 e25 => ?_)
      refine lv_if_ne (tgt := 46) hx hb dX9_isAbove_39 (by decide) (fun c26 => ?_) (fun c26 => ?_)
      · have hbt : ¬ bitL (K.2.2.2.1 d15) k9 := fun z => c26 (e25.trans ((lg_cmp_eq _ _).mpr (by rw [e23, e21]; exact (bitL_test (by omega)).mpr z)))
        refine lv_iconst (v := 0) hx hb dX9_isAbove_46 (by decide) ?_
        have hz27 : 0 ≤ 1 := (by omega)
        have hz28 : 0 = 1 ↔ (k9 < nd ∧ k8 < nd ∧ btK K dr k8 k9) := ⟨fun z => absurd z (by decide), fun z => by obtain ⟨_, _, d8, e8, z8⟩ := z; rw [hd16] at e8; cases e8; exact absurd z8 hbt⟩
        have hO : OKP G h0 a F R Z B J K w := hO.to rfl
        exact W.zret (v := 0) hx hb hr rfl (fun t99 ht99 hW99 => ⟨⟨_, (w, 0), rfl, ⟨rfl, hz27, hz28, hO⟩, by rw [ht99]; exact hP, hD⟩, hS.F ht99⟩) hS.2.2 dX9_isAbove_47
      · have hbt : bitL (K.2.2.2.1 d15) k9 := (bitL_test (by omega)).mp (by rw [← e21, ← e23]; exact (lg_cmp_eq _ _).mp (e25.symm.trans c26))
        refine lv_iconst (v := 1) hx hb dX9_isAbove_42 (by decide) ?_
        refine lv_goto (tgt := 47) hx hb dX9_isAbove_43 (by decide) ?_
        have hz29 : 1 ≤ 1 := (by omega)
        have hz30 : 1 = 1 ↔ (k9 < nd ∧ k8 < nd ∧ btK K dr k8 k9) := ⟨fun _ => ⟨by omega, by omega, d15, hd16, hbt⟩, fun _ => rfl⟩
        have hO : OKP G h0 a F R Z B J K w := hO.to rfl
        exact W.zret (v := 1) hx hb hr rfl (fun t99 ht99 hW99 => ⟨⟨_, (w, 1), rfl, ⟨rfl, hz29, hz30, hO⟩, by rw [ht99]; exact hP, hD⟩, hS.F ht99⟩) hS.2.2 dX9_isAbove_47
set_option maxHeartbeats 2000000 in
set_option maxRecDepth 100000 in
theorem Y_isRefT (l : Launch) (G : pT) (h0 : Nat) (a : Nat → Nat) (F : Nat → Int32) (R : Nat → Value) (Z : Int64) (B : Nat → Nat → Int32) (J : Nat → Nat → Int64) (T : Nat → Nat) (Pi : Nat → va_E → Prop) (w : va_W) (t9 : Nat) (ht9 : t9 < 128) (hO : OKW G h0 a F R Z B J T Pi w) : PM l G pX0 yX9_isReference cX9_isReference 1 (some .boolean) ({ frames := 2, cells := 0, slots := 0, locals := 60 }) [.int (nI t9)] w (fun (v : Option Value) (u : va_W × (Nat)) => v = some (.int (nI u.2)) ∧ (u.2 ≤ 1) ∧ (u.2 = 1 ↔ ¬ (t9 = 60 ∨ t9 = 61 ∨ t9 = 63)) ∧ (OKW G h0 a F R Z B J T Pi u.1)) (fun u => u.1) := by
  intro sz
  refine Met.ofW (cc := cX9_isReference) (maxL := 1) (ret := (some .boolean)) (by decide) rfl ?_
  intro p e s m args below meth c s₁ B9 hml hv
  obtain ⟨rfl, hsz, hP, hD0, hE, hX⟩ := hv
  have hx := B9.exec
  have hb := B9.bytes
  have hr := B9.returns
  have hts := atoms_spec (ws := Cond.code yX9_isReference cX9_isReference 1 (some .boolean) :: pw) B9.pre
  have hq : ∀ w ∈ pw, w.before _ s = true := fun w h => hts w (List.mem_cons_of_mem _ h)
  have hown : s.vm.findClass RX9 = some m.cls := findClass_of_methodNamed B9.named
  have hlocks := B9.notSynchronized
  subst hsz
  have hD := hD0.self (sz := s.heap.size)
  have hA : ∀ q : Nat, s.heap.size ≤ q → va_A w s.heap.size q := fun q h => Or.inr h
  generalize va_A w s.heap.size = A at hD hE hA ⊢
  have hS : va_S A s.heap s.heap [] := va_S.rf
  have hl := lv_entry ([.int (nI t9)]) (n := 1) (Nat.le_of_ble_eq_true rfl)
  rw [lg_entry_eq]
  generalize (lg_sl ([.int (nI t9)]) ++ List.replicate (1 - (lg_sl ([.int (nI t9)])).length) Slot.unset).toArray = ls at hl ⊢
  have hl : lv_has ls 1 [(0, .int (nI t9))] := hl
  refine lv_iload_n hx hb dX9_isReference_0 rfl (lv_at hl 0 rfl) ?_
  refine lv_bipush (v := 60) hx hb dX9_isReference_1 (by decide) ?_
  refine lv_icmp_eq (tgt := 22) hx hb dX9_isReference_3 (by decide) (fun c1 => ?_) (fun c1 => ?_)
  · have n2 : t9 = 60 := (nI_eq (a := t9) (b := 60) (by omega) (by omega)).mp c1
    refine lv_iconst (v := 0) hx hb dX9_isReference_22 (by decide) ?_
    have hz3 : 0 ≤ 1 := (by omega)
    have hz4 : 0 = 1 ↔ ¬ (t9 = 60 ∨ t9 = 61 ∨ t9 = 63) := (by omega)
    have hO : OKW G h0 a F R Z B J T Pi w := hO.to rfl
    exact W.zret (v := 0) hx hb hr rfl (fun t99 ht99 hW99 => ⟨⟨_, (w, 0), rfl, ⟨rfl, hz3, hz4, hO⟩, by rw [ht99]; exact hP, hD⟩, hS.F ht99⟩) hS.2.2 dX9_isReference_23
  · have n5 : ¬ (t9 = 60) := fun h9 => c1 ((nI_eq (a := t9) (b := 60) (by omega) (by omega)).mpr h9)
    refine lv_iload_n hx hb dX9_isReference_6 rfl (lv_at hl 0 rfl) ?_
    refine lv_bipush (v := 61) hx hb dX9_isReference_7 (by decide) ?_
    refine lv_icmp_eq (tgt := 22) hx hb dX9_isReference_9 (by decide) (fun c6 => ?_) (fun c6 => ?_)
    · have n7 : t9 = 61 := (nI_eq (a := t9) (b := 61) (by omega) (by omega)).mp c6
      refine lv_iconst (v := 0) hx hb dX9_isReference_22 (by decide) ?_
      have hz8 : 0 ≤ 1 := (by omega)
      have hz9 : 0 = 1 ↔ ¬ (t9 = 60 ∨ t9 = 61 ∨ t9 = 63) := (by omega)
      have hO : OKW G h0 a F R Z B J T Pi w := hO.to rfl
      exact W.zret (v := 0) hx hb hr rfl (fun t99 ht99 hW99 => ⟨⟨_, (w, 0), rfl, ⟨rfl, hz8, hz9, hO⟩, by rw [ht99]; exact hP, hD⟩, hS.F ht99⟩) hS.2.2 dX9_isReference_23
    · have n10 : ¬ (t9 = 61) := fun h9 => c6 ((nI_eq (a := t9) (b := 61) (by omega) (by omega)).mpr h9)
      refine lv_iload_n hx hb dX9_isReference_12 rfl (lv_at hl 0 rfl) ?_
      refine lv_bipush (v := 63) hx hb dX9_isReference_13 (by decide) ?_
      refine lv_icmp_eq (tgt := 22) hx hb dX9_isReference_15 (by decide) (fun c11 => ?_) (fun c11 => ?_)
      · have n12 : t9 = 63 := (nI_eq (a := t9) (b := 63) (by omega) (by omega)).mp c11
        refine lv_iconst (v := 0) hx hb dX9_isReference_22 (by decide) ?_
        have hz13 : 0 ≤ 1 := (by omega)
        have hz14 : 0 = 1 ↔ ¬ (t9 = 60 ∨ t9 = 61 ∨ t9 = 63) := (by omega)
        have hO : OKW G h0 a F R Z B J T Pi w := hO.to rfl
        exact W.zret (v := 0) hx hb hr rfl (fun t99 ht99 hW99 => ⟨⟨_, (w, 0), rfl, ⟨rfl, hz13, hz14, hO⟩, by rw [ht99]; exact hP, hD⟩, hS.F ht99⟩) hS.2.2 dX9_isReference_23
      · have n15 : ¬ (t9 = 63) := fun h9 => c11 ((nI_eq (a := t9) (b := 63) (by omega) (by omega)).mpr h9)
        refine lv_iconst (v := 1) hx hb dX9_isReference_18 (by decide) ?_
        refine lv_goto (tgt := 23) hx hb dX9_isReference_19 (by decide) ?_
        have hz16 : 1 ≤ 1 := (by omega)
        have hz17 : 1 = 1 ↔ ¬ (t9 = 60 ∨ t9 = 61 ∨ t9 = 63) := (by omega)
        have hO : OKW G h0 a F R Z B J T Pi w := hO.to rfl
        exact W.zret (v := 1) hx hb hr rfl (fun t99 ht99 hW99 => ⟨⟨_, (w, 1), rfl, ⟨rfl, hz16, hz17, hO⟩, by rw [ht99]; exact hP, hD⟩, hS.F ht99⟩) hS.2.2 dX9_isReference_23
set_option maxHeartbeats 20000000 in
set_option maxRecDepth 100000 in
theorem Y_fits (l : Launch) (G : pT) (h0 : Nat) (a : Nat → Nat) (F : Nat → Int32) (R : Nat → Value) (Z : Int64) (B : Nat → Nat → Int32) (J : Nat → Nat → Int64) (K : PK) (w : va_W) (pq : Nat) (dr : Nat) (ml : Nat) (nd : Nat) (t9 : Nat) (u9 : Nat) (g : Nat → Nat → Nat) (hpb : PgB K g (a 1) pq dr ml nd) (hdc : DcR K g dr nd) (ht9 : t9 < 128 ∧ u9 < 128) (hO : OKP G h0 a F R Z B J K w) : PM l G pX0 yX9_fits cX9_fits 3 (some .boolean) ({ frames := 3, cells := 0, slots := 0, locals := 82 }) [.ref pq, .int (nI t9), .int (nI u9)] w (fun (v : Option Value) (u : va_W × (Nat)) => v = some (.int (nI u.2)) ∧ (u.2 ≤ 1) ∧ (u.2 = 1 ↔ fitK (btK K dr) nd t9 u9) ∧ (OKP G h0 a F R Z B J K u.1)) (fun u => u.1) := by
  intro sz
  refine Met.ofW (cc := cX9_fits) (maxL := 3) (ret := (some .boolean)) (by decide) rfl ?_
  intro p e s m args below meth c s₁ B9 hml hv
  obtain ⟨rfl, hsz, hP, hD0, hE, hX⟩ := hv
  have hx := B9.exec
  have hb := B9.bytes
  have hr := B9.returns
  have hts := atoms_spec (ws := Cond.code yX9_fits cX9_fits 3 (some .boolean) :: pw) B9.pre
  have hq : ∀ w ∈ pw, w.before _ s = true := fun w h => hts w (List.mem_cons_of_mem _ h)
  have hown : s.vm.findClass RX9 = some m.cls := findClass_of_methodNamed B9.named
  have hlocks := B9.notSynchronized
  subst hsz
  have hD := hD0.self (sz := s.heap.size)
  have hA : ∀ q : Nat, s.heap.size ≤ q → va_A w s.heap.size q := fun q h => Or.inr h
  generalize va_A w s.heap.size = A at hD hE hA ⊢
  have hS : va_S A s.heap s.heap [] := va_S.rf
  have hl := lv_entry ([.ref pq, .int (nI t9), .int (nI u9)]) (n := 3) (Nat.le_of_ble_eq_true rfl)
  rw [lg_entry_eq]
  generalize (lg_sl ([.ref pq, .int (nI t9), .int (nI u9)]) ++ List.replicate (3 - (lg_sl ([.ref pq, .int (nI t9), .int (nI u9)])).length) Slot.unset).toArray = ls at hl ⊢
  have hl : lv_has ls 3 [(0, .ref pq), (1, .int (nI t9)), (2, .int (nI u9))] := hl
  have hp1 := hpb.1
  have hp2 := hpb.2.1
  have hp3 := hpb.2.2.1
  have hp4 := hpb.2.2.2.1
  have hp5 := hpb.2.2.2.2.1
  have hp6 := hpb.2.2.2.2.2.1
  have hp8 := hpb.2.2.2.2.2.2.2.1
  have hp9 := hpb.2.2.2.2.2.2.2.2
  refine lv_iload_n hx hb dX9_fits_0 rfl (lv_at hl 1 rfl) ?_
  refine lv_bipush (v := 63) hx hb dX9_fits_1 (by decide) ?_
  refine lv_icmp_eq (tgt := 12) hx hb dX9_fits_3 (by decide) (fun c1 => ?_) (fun c1 => ?_)
  · have n2 : t9 = 63 := (nI_eq (a := t9) (b := 63) (by omega) (by omega)).mp c1
    refine lv_iconst (v := 0) hx hb dX9_fits_12 (by decide) ?_
    have hz3 : 0 ≤ 1 := (by omega)
    have hz4 : 0 = 1 ↔ fitK (btK K dr) nd t9 u9 := ⟨fun z => absurd z (by decide), fun z => by obtain ⟨z1, z2, z3 | ⟨z3, z4, z5, z6, z7, z8⟩ | ⟨z3, z4, z5, z6, z7, z8, z9, _⟩ | ⟨z3, z4, z5, z6, z7, z8, _⟩⟩ := z <;> omega⟩
    have hO : OKP G h0 a F R Z B J K w := hO.to rfl
    exact W.zret (v := 0) hx hb hr rfl (fun t99 ht99 hW99 => ⟨⟨_, (w, 0), rfl, ⟨rfl, hz3, hz4, hO⟩, by rw [ht99]; exact hP, hD⟩, hS.F ht99⟩) hS.2.2 dX9_fits_13
  · have n5 : ¬ (t9 = 63) := fun h9 => c1 ((nI_eq (a := t9) (b := 63) (by omega) (by omega)).mpr h9)
    refine lv_iload_n hx hb dX9_fits_6 rfl (lv_at hl 2 rfl) ?_
    refine lv_bipush (v := 63) hx hb dX9_fits_7 (by decide) ?_
    refine lv_icmp_ne (tgt := 14) hx hb dX9_fits_9 (by decide) (fun c6 => ?_) (fun c6 => ?_)
    · have n7 : ¬ (u9 = 63) := fun h9 => c6 ((nI_eq (a := u9) (b := 63) (by omega) (by omega)).mpr h9)
      refine lv_iload_n hx hb dX9_fits_14 rfl (lv_at hl 1 rfl) ?_
      refine lv_iload_n hx hb dX9_fits_15 rfl (lv_at hl 2 rfl) ?_
      refine lv_icmp_ne (tgt := 21) hx hb dX9_fits_16 (by decide) (fun c8 => ?_) (fun c8 => ?_)
      · have n9 : ¬ (t9 = u9) := fun h9 => c8 ((nI_eq (a := t9) (b := u9) (by omega) (by omega)).mpr h9)
        refine lv_iload_n hx hb dX9_fits_21 rfl (lv_at hl 1 rfl) ?_
        refine lv_bipush (v := 62) hx hb dX9_fits_22 (by decide) ?_
        refine lv_icmp_eq (tgt := 31) hx hb dX9_fits_24 (by decide) (fun c10 => ?_) (fun c10 => ?_)
        · have n11 : t9 = 62 := (nI_eq (a := t9) (b := 62) (by omega) (by omega)).mp c10
          refine lv_iload_n hx hb dX9_fits_31 rfl (lv_at hl 1 rfl) ?_
          have hO : OKW G h0 a F R Z B J K.1 (fun q99 x99 => x99 = rep G a K q99) w := hO.to rfl
          refine pc_S0 (G := G) (As := [.int (nI t9)]) (rest := []) hx hb hml hown hq hE hX pX0_al hP hD hS hA hl.1 (Y_isRefT l G h0 a F R Z B J K.1 (fun q99 x99 => x99 = rep G a K q99) w t9 (by omega) hO) (gS pw_104 pw_105 pw_106 pw_100) hS_X9_isReference rfl (Nat.le_of_ble_eq_true rfl) dX9_fits_32 ⟨Nat.le_of_ble_eq_true rfl, Nat.le_of_ble_eq_true rfl⟩ ⟨Nat.le_of_ble_eq_true rfl, Nat.le_of_ble_eq_true rfl⟩ (fun v14 u12 H locs hw13 hP hD hS => ?_)
          obtain ⟨w, r15⟩ := u12
          obtain ⟨hw13, h16, h17, hO⟩ := hw13
          have h16 : r15 ≤ 1 := h16
          have h17 : r15 = 1 ↔ ¬ (t9 = 60 ∨ t9 = 61 ∨ t9 = 63) := h17
          obtain rfl : v14 = some (.int (nI r15)) := hw13
          have hO : OKP G h0 a F R Z B J K w := hO.to rfl
          refine W.widen (k := 0) (n := 0) (Nat.le_of_ble_eq_true rfl) (Nat.le_of_ble_eq_true rfl) ?_
          refine W.eq (g2 := F0 m 35 ls [.int (nI r15)]) rfl ?_
          refine lv_if_eq (tgt := 49) hx hb dX9_fits_35 (by decide) (fun c18 => ?_) (fun c18 => ?_)
          · have n19 : r15 = 0 := (nI_eq (a := r15) (b := 0) (by omega) (by omega)).mp c18
            refine lv_iconst (v := 0) hx hb dX9_fits_49 (by decide) ?_
            have hz20 : 0 ≤ 1 := (by omega)
            have hz21 : 0 = 1 ↔ fitK (btK K dr) nd t9 u9 := ⟨fun z => absurd z (by decide), fun z => by obtain ⟨z1, z2, z3 | ⟨z3, z4, z5, z6, z7, z8⟩ | ⟨z3, z4, z5, z6, z7, z8, z9, _⟩ | ⟨z3, z4, z5, z6, z7, z8, _⟩⟩ := z <;> omega⟩
            have hO : OKP G h0 a F R Z B J K w := hO.to rfl
            exact W.zret (v := 0) hx hb hr rfl (fun t99 ht99 hW99 => ⟨⟨_, (w, 0), rfl, ⟨rfl, hz20, hz21, hO⟩, by rw [ht99]; exact hP, hD⟩, hS.F ht99⟩) hS.2.2 dX9_fits_50
          · have n22 : ¬ (r15 = 0) := fun h9 => c18 ((nI_eq (a := r15) (b := 0) (by omega) (by omega)).mpr h9)
            refine lv_iload_n hx hb dX9_fits_38 rfl (lv_at hl 2 rfl) ?_
            have hO : OKW G h0 a F R Z B J K.1 (fun q99 x99 => x99 = rep G a K q99) w := hO.to rfl
            refine pc_S0 (G := G) (As := [.int (nI u9)]) (rest := []) hx hb hml hown hq hE hX pX0_al hP hD hS hA hl.1 (Y_isRefT l G h0 a F R Z B J K.1 (fun q99 x99 => x99 = rep G a K q99) w u9 (by omega) hO) (gS pw_104 pw_105 pw_106 pw_100) hS_X9_isReference rfl (Nat.le_of_ble_eq_true rfl) dX9_fits_39 ⟨Nat.le_of_ble_eq_true rfl, Nat.le_of_ble_eq_true rfl⟩ ⟨Nat.le_of_ble_eq_true rfl, Nat.le_of_ble_eq_true rfl⟩ (fun v25 u23 H locs hw24 hP hD hS => ?_)
            obtain ⟨w, r26⟩ := u23
            obtain ⟨hw24, h27, h28, hO⟩ := hw24
            have h27 : r26 ≤ 1 := h27
            have h28 : r26 = 1 ↔ ¬ (u9 = 60 ∨ u9 = 61 ∨ u9 = 63) := h28
            obtain rfl : v25 = some (.int (nI r26)) := hw24
            have hO : OKP G h0 a F R Z B J K w := hO.to rfl
            refine W.widen (k := 0) (n := 0) (Nat.le_of_ble_eq_true rfl) (Nat.le_of_ble_eq_true rfl) ?_
            refine W.eq (g2 := F0 m 42 ls [.int (nI r26)]) rfl ?_
            refine lv_if_eq (tgt := 49) hx hb dX9_fits_42 (by decide) (fun c29 => ?_) (fun c29 => ?_)
            · have n30 : r26 = 0 := (nI_eq (a := r26) (b := 0) (by omega) (by omega)).mp c29
              refine lv_iconst (v := 0) hx hb dX9_fits_49 (by decide) ?_
              have hz31 : 0 ≤ 1 := (by omega)
              have hz32 : 0 = 1 ↔ fitK (btK K dr) nd t9 u9 := ⟨fun z => absurd z (by decide), fun z => by obtain ⟨z1, z2, z3 | ⟨z3, z4, z5, z6, z7, z8⟩ | ⟨z3, z4, z5, z6, z7, z8, z9, _⟩ | ⟨z3, z4, z5, z6, z7, z8, _⟩⟩ := z <;> omega⟩
              have hO : OKP G h0 a F R Z B J K w := hO.to rfl
              exact W.zret (v := 0) hx hb hr rfl (fun t99 ht99 hW99 => ⟨⟨_, (w, 0), rfl, ⟨rfl, hz31, hz32, hO⟩, by rw [ht99]; exact hP, hD⟩, hS.F ht99⟩) hS.2.2 dX9_fits_50
            · have n33 : ¬ (r26 = 0) := fun h9 => c29 ((nI_eq (a := r26) (b := 0) (by omega) (by omega)).mpr h9)
              refine lv_iconst (v := 1) hx hb dX9_fits_45 (by decide) ?_
              refine lv_goto (tgt := 50) hx hb dX9_fits_46 (by decide) ?_
              have hz34 : 1 ≤ 1 := (by omega)
              have hz35 : 1 = 1 ↔ fitK (btK K dr) nd t9 u9 := ⟨fun _ => ⟨by omega, by omega, Or.inr (Or.inl ⟨by omega, by omega, by omega, by omega, by omega, by omega⟩)⟩, fun _ => rfl⟩
              have hO : OKP G h0 a F R Z B J K w := hO.to rfl
              exact W.zret (v := 1) hx hb hr rfl (fun t99 ht99 hW99 => ⟨⟨_, (w, 1), rfl, ⟨rfl, hz34, hz35, hO⟩, by rw [ht99]; exact hP, hD⟩, hS.F ht99⟩) hS.2.2 dX9_fits_50
        · have n36 : ¬ (t9 = 62) := fun h9 => c10 ((nI_eq (a := t9) (b := 62) (by omega) (by omega)).mpr h9)
          refine lv_iload_n hx hb dX9_fits_27 rfl (lv_at hl 2 rfl) ?_
          refine lv_if_ne (tgt := 51) hx hb dX9_fits_28 (by decide) (fun c37 => ?_) (fun c37 => ?_)
          · have n38 : ¬ (u9 = 0) := fun h9 => c37 ((nI_eq (a := u9) (b := 0) (by omega) (by omega)).mpr h9)
            refine lv_iload_n hx hb dX9_fits_51 rfl (lv_at hl 1 rfl) ?_
            refine lv_bipush (v := 64) hx hb dX9_fits_52 (by decide) ?_
            refine lv_icmp_lt (tgt := 76) hx hb dX9_fits_54 (by decide) (fun c39 => ?_) (fun c39 => ?_)
            · have n40 : t9 < 64 := (nI_ltI (a := t9) (b := 64) (by omega) (by omega)).mp c39
              refine lv_aload_n hx hb dX9_fits_76 rfl (lv_at hl 0 rfl) ?_
              refine lv_iload_n hx hb dX9_fits_77 rfl (lv_at hl 2 rfl) ?_
              refine lv_iload_n hx hb dX9_fits_78 rfl (lv_at hl 1 rfl) ?_
              have hO : OKP G h0 a F R Z B J K w := hO.to rfl
              obtain ⟨qr44, hqr45⟩ := p_recv hO (by rw [hp1]; decide) (rep_7 hp1)
              refine pc_V0 (G := G) (As := [.int (nI u9), .int (nI t9)]) (rest := []) hx hb hml hown hq hE hX pX0_al hP hD hS hA hl.1 (Y_isAbove l G h0 a F R Z B J K w pq dr ml nd u9 t9 g hpb hdc (by omega) hO) (gV pw_107 pw_108 pw_109 pw_106 pw_101) hV_X9_isAbove qr44 6 hqr45 rfl rfl rfl (Nat.le_of_ble_eq_true rfl) dX9_fits_79 ⟨Nat.le_of_ble_eq_true rfl, Nat.le_of_ble_eq_true rfl⟩ ⟨Nat.le_of_ble_eq_true rfl, Nat.le_of_ble_eq_true rfl⟩ (fun v43 u41 H locs hw42 hP hD hS => ?_)
              obtain ⟨w, r46⟩ := u41
              obtain ⟨hw42, h47, h48, hO⟩ := hw42
              have h47 : r46 ≤ 1 := h47
              have h48 : r46 = 1 ↔ (u9 < nd ∧ t9 < nd ∧ btK K dr t9 u9) := h48
              obtain rfl : v43 = some (.int (nI r46)) := hw42
              have hO : OKP G h0 a F R Z B J K w := hO.to rfl
              refine W.widen (k := 0) (n := 0) (Nat.le_of_ble_eq_true rfl) (Nat.le_of_ble_eq_true rfl) ?_
              refine W.eq (g2 := F0 m 82 ls [.int (nI r46)]) rfl ?_
              have hz49 : r46 ≤ 1 := (by omega)
              have hz50 : r46 = 1 ↔ fitK (btK K dr) nd t9 u9 := (fitK.cls h48 (by omega))
              have hO : OKP G h0 a F R Z B J K w := hO.to rfl
              exact W.zret (v := (nI r46)) hx hb hr (nI_nar (by omega)) (fun t99 ht99 hW99 => ⟨⟨_, (w, r46), rfl, ⟨rfl, hz49, hz50, hO⟩, by rw [ht99]; exact hP, hD⟩, hS.F ht99⟩) hS.2.2 dX9_fits_82
            · have n51 : ¬ (t9 < 64) := fun h9 => c39 ((nI_ltI (a := t9) (b := 64) (by omega) (by omega)).mpr h9)
              refine lv_iload_n hx hb dX9_fits_57 rfl (lv_at hl 2 rfl) ?_
              refine lv_bipush (v := 64) hx hb dX9_fits_58 (by decide) ?_
              refine lv_icmp_lt (tgt := 76) hx hb dX9_fits_60 (by decide) (fun c52 => ?_) (fun c52 => ?_)
              · have n53 : u9 < 64 := (nI_ltI (a := u9) (b := 64) (by omega) (by omega)).mp c52
                refine lv_aload_n hx hb dX9_fits_76 rfl (lv_at hl 0 rfl) ?_
                refine lv_iload_n hx hb dX9_fits_77 rfl (lv_at hl 2 rfl) ?_
                refine lv_iload_n hx hb dX9_fits_78 rfl (lv_at hl 1 rfl) ?_
                have hO : OKP G h0 a F R Z B J K w := hO.to rfl
                obtain ⟨qr57, hqr58⟩ := p_recv hO (by rw [hp1]; decide) (rep_7 hp1)
                refine pc_V0 (G := G) (As := [.int (nI u9), .int (nI t9)]) (rest := []) hx hb hml hown hq hE hX pX0_al hP hD hS hA hl.1 (Y_isAbove l G h0 a F R Z B J K w pq dr ml nd u9 t9 g hpb hdc (by omega) hO) (gV pw_107 pw_108 pw_109 pw_106 pw_101) hV_X9_isAbove qr57 6 hqr58 rfl rfl rfl (Nat.le_of_ble_eq_true rfl) dX9_fits_79 ⟨Nat.le_of_ble_eq_true rfl, Nat.le_of_ble_eq_true rfl⟩ ⟨Nat.le_of_ble_eq_true rfl, Nat.le_of_ble_eq_true rfl⟩ (fun v56 u54 H locs hw55 hP hD hS => ?_)
                obtain ⟨w, r59⟩ := u54
                obtain ⟨hw55, h60, h61, hO⟩ := hw55
                have h60 : r59 ≤ 1 := h60
                have h61 : r59 = 1 ↔ (u9 < nd ∧ t9 < nd ∧ btK K dr t9 u9) := h61
                obtain rfl : v56 = some (.int (nI r59)) := hw55
                have hO : OKP G h0 a F R Z B J K w := hO.to rfl
                refine W.widen (k := 0) (n := 0) (Nat.le_of_ble_eq_true rfl) (Nat.le_of_ble_eq_true rfl) ?_
                refine W.eq (g2 := F0 m 82 ls [.int (nI r59)]) rfl ?_
                have hz62 : r59 ≤ 1 := (by omega)
                have hz63 : r59 = 1 ↔ fitK (btK K dr) nd t9 u9 := (fitK.cls h61 (by omega))
                have hO : OKP G h0 a F R Z B J K w := hO.to rfl
                exact W.zret (v := (nI r59)) hx hb hr (nI_nar (by omega)) (fun t99 ht99 hW99 => ⟨⟨_, (w, r59), rfl, ⟨rfl, hz62, hz63, hO⟩, by rw [ht99]; exact hP, hD⟩, hS.F ht99⟩) hS.2.2 dX9_fits_82
              · have n64 : ¬ (u9 < 64) := fun h9 => c52 ((nI_ltI (a := u9) (b := 64) (by omega) (by omega)).mpr h9)
                refine lv_aload_n hx hb dX9_fits_63 rfl (lv_at hl 0 rfl) ?_
                refine lv_iload_n hx hb dX9_fits_64 rfl (lv_at hl 2 rfl) ?_
                refine lv_bipush (v := 64) hx hb dX9_fits_65 (by decide) ?_
                refine lv_isub hx hb dX9_fits_67 ?_
                refine lv_topi (fun x65 e66 => ?_)
                obtain rfl : x65 = nI (u9 - 64) := e66.trans (nI_subN (a := 64) (b := u9) (by omega))
                refine lv_iload_n hx hb dX9_fits_68 rfl (lv_at hl 1 rfl) ?_
                refine lv_bipush (v := 64) hx hb dX9_fits_69 (by decide) ?_
                refine lv_isub hx hb dX9_fits_71 ?_
                refine lv_topi (fun x67 e68 => ?_)
                obtain rfl : x67 = nI (t9 - 64) := e68.trans (nI_subN (a := 64) (b := t9) (by omega))
                have hO : OKP G h0 a F R Z B J K w := hO.to rfl
                obtain ⟨qr72, hqr73⟩ := p_recv hO (by rw [hp1]; decide) (rep_7 hp1)
                refine pc_V0 (G := G) (As := [.int (nI (u9 - 64)), .int (nI (t9 - 64))]) (rest := []) hx hb hml hown hq hE hX pX0_al hP hD hS hA hl.1 (Y_isAbove l G h0 a F R Z B J K w pq dr ml nd (u9 - 64) (t9 - 64) g hpb hdc (by omega) hO) (gV pw_107 pw_108 pw_109 pw_106 pw_101) hV_X9_isAbove qr72 6 hqr73 rfl rfl rfl (Nat.le_of_ble_eq_true rfl) dX9_fits_72 ⟨Nat.le_of_ble_eq_true rfl, Nat.le_of_ble_eq_true rfl⟩ ⟨Nat.le_of_ble_eq_true rfl, Nat.le_of_ble_eq_true rfl⟩ (fun v71 u69 H locs hw70 hP hD hS => ?_)
                obtain ⟨w, r74⟩ := u69
                obtain ⟨hw70, h75, h76, hO⟩ := hw70
                have h75 : r74 ≤ 1 := h75
                have h76 : r74 = 1 ↔ ((u9 - 64) < nd ∧ (t9 - 64) < nd ∧ btK K dr (t9 - 64) (u9 - 64)) := h76
                obtain rfl : v71 = some (.int (nI r74)) := hw70
                have hO : OKP G h0 a F R Z B J K w := hO.to rfl
                refine W.widen (k := 0) (n := 0) (Nat.le_of_ble_eq_true rfl) (Nat.le_of_ble_eq_true rfl) ?_
                refine W.eq (g2 := F0 m 75 ls [.int (nI r74)]) rfl ?_
                have hz77 : r74 ≤ 1 := (by omega)
                have hz78 : r74 = 1 ↔ fitK (btK K dr) nd t9 u9 := (fitK.arr h76 (by omega))
                have hO : OKP G h0 a F R Z B J K w := hO.to rfl
                exact W.zret (v := (nI r74)) hx hb hr (nI_nar (by omega)) (fun t99 ht99 hW99 => ⟨⟨_, (w, r74), rfl, ⟨rfl, hz77, hz78, hO⟩, by rw [ht99]; exact hP, hD⟩, hS.F ht99⟩) hS.2.2 dX9_fits_75
          · have n79 : u9 = 0 := (nI_eq (a := u9) (b := 0) (by omega) (by omega)).mp c37
            refine lv_iload_n hx hb dX9_fits_31 rfl (lv_at hl 1 rfl) ?_
            have hO : OKW G h0 a F R Z B J K.1 (fun q99 x99 => x99 = rep G a K q99) w := hO.to rfl
            refine pc_S0 (G := G) (As := [.int (nI t9)]) (rest := []) hx hb hml hown hq hE hX pX0_al hP hD hS hA hl.1 (Y_isRefT l G h0 a F R Z B J K.1 (fun q99 x99 => x99 = rep G a K q99) w t9 (by omega) hO) (gS pw_104 pw_105 pw_106 pw_100) hS_X9_isReference rfl (Nat.le_of_ble_eq_true rfl) dX9_fits_32 ⟨Nat.le_of_ble_eq_true rfl, Nat.le_of_ble_eq_true rfl⟩ ⟨Nat.le_of_ble_eq_true rfl, Nat.le_of_ble_eq_true rfl⟩ (fun v82 u80 H locs hw81 hP hD hS => ?_)
            obtain ⟨w, r83⟩ := u80
            obtain ⟨hw81, h84, h85, hO⟩ := hw81
            have h84 : r83 ≤ 1 := h84
            have h85 : r83 = 1 ↔ ¬ (t9 = 60 ∨ t9 = 61 ∨ t9 = 63) := h85
            obtain rfl : v82 = some (.int (nI r83)) := hw81
            have hO : OKP G h0 a F R Z B J K w := hO.to rfl
            refine W.widen (k := 0) (n := 0) (Nat.le_of_ble_eq_true rfl) (Nat.le_of_ble_eq_true rfl) ?_
            refine W.eq (g2 := F0 m 35 ls [.int (nI r83)]) rfl ?_
            refine lv_if_eq (tgt := 49) hx hb dX9_fits_35 (by decide) (fun c86 => ?_) (fun c86 => ?_)
            · have n87 : r83 = 0 := (nI_eq (a := r83) (b := 0) (by omega) (by omega)).mp c86
              refine lv_iconst (v := 0) hx hb dX9_fits_49 (by decide) ?_
              have hz88 : 0 ≤ 1 := (by omega)
              have hz89 : 0 = 1 ↔ fitK (btK K dr) nd t9 u9 := ⟨fun z => absurd z (by decide), fun z => by obtain ⟨z1, z2, z3 | ⟨z3, z4, z5, z6, z7, z8⟩ | ⟨z3, z4, z5, z6, z7, z8, z9, _⟩ | ⟨z3, z4, z5, z6, z7, z8, _⟩⟩ := z <;> omega⟩
              have hO : OKP G h0 a F R Z B J K w := hO.to rfl
              exact W.zret (v := 0) hx hb hr rfl (fun t99 ht99 hW99 => ⟨⟨_, (w, 0), rfl, ⟨rfl, hz88, hz89, hO⟩, by rw [ht99]; exact hP, hD⟩, hS.F ht99⟩) hS.2.2 dX9_fits_50
            · have n90 : ¬ (r83 = 0) := fun h9 => c86 ((nI_eq (a := r83) (b := 0) (by omega) (by omega)).mpr h9)
              refine lv_iload_n hx hb dX9_fits_38 rfl (lv_at hl 2 rfl) ?_
              have hO : OKW G h0 a F R Z B J K.1 (fun q99 x99 => x99 = rep G a K q99) w := hO.to rfl
              refine pc_S0 (G := G) (As := [.int (nI u9)]) (rest := []) hx hb hml hown hq hE hX pX0_al hP hD hS hA hl.1 (Y_isRefT l G h0 a F R Z B J K.1 (fun q99 x99 => x99 = rep G a K q99) w u9 (by omega) hO) (gS pw_104 pw_105 pw_106 pw_100) hS_X9_isReference rfl (Nat.le_of_ble_eq_true rfl) dX9_fits_39 ⟨Nat.le_of_ble_eq_true rfl, Nat.le_of_ble_eq_true rfl⟩ ⟨Nat.le_of_ble_eq_true rfl, Nat.le_of_ble_eq_true rfl⟩ (fun v93 u91 H locs hw92 hP hD hS => ?_)
              obtain ⟨w, r94⟩ := u91
              obtain ⟨hw92, h95, h96, hO⟩ := hw92
              have h95 : r94 ≤ 1 := h95
              have h96 : r94 = 1 ↔ ¬ (u9 = 60 ∨ u9 = 61 ∨ u9 = 63) := h96
              obtain rfl : v93 = some (.int (nI r94)) := hw92
              have hO : OKP G h0 a F R Z B J K w := hO.to rfl
              refine W.widen (k := 0) (n := 0) (Nat.le_of_ble_eq_true rfl) (Nat.le_of_ble_eq_true rfl) ?_
              refine W.eq (g2 := F0 m 42 ls [.int (nI r94)]) rfl ?_
              refine lv_if_eq (tgt := 49) hx hb dX9_fits_42 (by decide) (fun c97 => ?_) (fun c97 => ?_)
              · have n98 : r94 = 0 := (nI_eq (a := r94) (b := 0) (by omega) (by omega)).mp c97
                refine lv_iconst (v := 0) hx hb dX9_fits_49 (by decide) ?_
                have hz99 : 0 ≤ 1 := (by omega)
                have hz100 : 0 = 1 ↔ fitK (btK K dr) nd t9 u9 := ⟨fun z => absurd z (by decide), fun z => by obtain ⟨z1, z2, z3 | ⟨z3, z4, z5, z6, z7, z8⟩ | ⟨z3, z4, z5, z6, z7, z8, z9, _⟩ | ⟨z3, z4, z5, z6, z7, z8, _⟩⟩ := z <;> omega⟩
                have hO : OKP G h0 a F R Z B J K w := hO.to rfl
                exact W.zret (v := 0) hx hb hr rfl (fun t99 ht99 hW99 => ⟨⟨_, (w, 0), rfl, ⟨rfl, hz99, hz100, hO⟩, by rw [ht99]; exact hP, hD⟩, hS.F ht99⟩) hS.2.2 dX9_fits_50
              · have n101 : ¬ (r94 = 0) := fun h9 => c97 ((nI_eq (a := r94) (b := 0) (by omega) (by omega)).mpr h9)
                refine lv_iconst (v := 1) hx hb dX9_fits_45 (by decide) ?_
                refine lv_goto (tgt := 50) hx hb dX9_fits_46 (by decide) ?_
                have hz102 : 1 ≤ 1 := (by omega)
                have hz103 : 1 = 1 ↔ fitK (btK K dr) nd t9 u9 := ⟨fun _ => ⟨by omega, by omega, Or.inr (Or.inl ⟨by omega, by omega, by omega, by omega, by omega, by omega⟩)⟩, fun _ => rfl⟩
                have hO : OKP G h0 a F R Z B J K w := hO.to rfl
                exact W.zret (v := 1) hx hb hr rfl (fun t99 ht99 hW99 => ⟨⟨_, (w, 1), rfl, ⟨rfl, hz102, hz103, hO⟩, by rw [ht99]; exact hP, hD⟩, hS.F ht99⟩) hS.2.2 dX9_fits_50
      · have n104 : t9 = u9 := (nI_eq (a := t9) (b := u9) (by omega) (by omega)).mp c8
        refine lv_iconst (v := 1) hx hb dX9_fits_19 (by decide) ?_
        have hz105 : 1 ≤ 1 := (by omega)
        have hz106 : 1 = 1 ↔ fitK (btK K dr) nd t9 u9 := ⟨fun _ => ⟨by omega, by omega, Or.inl (by omega)⟩, fun _ => rfl⟩
        have hO : OKP G h0 a F R Z B J K w := hO.to rfl
        exact W.zret (v := 1) hx hb hr rfl (fun t99 ht99 hW99 => ⟨⟨_, (w, 1), rfl, ⟨rfl, hz105, hz106, hO⟩, by rw [ht99]; exact hP, hD⟩, hS.F ht99⟩) hS.2.2 dX9_fits_20
    · have n107 : u9 = 63 := (nI_eq (a := u9) (b := 63) (by omega) (by omega)).mp c6
      refine lv_iconst (v := 0) hx hb dX9_fits_12 (by decide) ?_
      have hz108 : 0 ≤ 1 := (by omega)
      have hz109 : 0 = 1 ↔ fitK (btK K dr) nd t9 u9 := ⟨fun z => absurd z (by decide), fun z => by obtain ⟨z1, z2, z3 | ⟨z3, z4, z5, z6, z7, z8⟩ | ⟨z3, z4, z5, z6, z7, z8, z9, _⟩ | ⟨z3, z4, z5, z6, z7, z8, _⟩⟩ := z <;> omega⟩
      have hO : OKP G h0 a F R Z B J K w := hO.to rfl
      exact W.zret (v := 0) hx hb hr rfl (fun t99 ht99 hW99 => ⟨⟨_, (w, 0), rfl, ⟨rfl, hz108, hz109, hO⟩, by rw [ht99]; exact hP, hD⟩, hS.F ht99⟩) hS.2.2 dX9_fits_13
set_option maxHeartbeats 6000000 in
set_option maxRecDepth 100000 in
theorem Y_decl (l : Launch) (G : pT) (h0 : Nat) (a : Nat → Nat) (F : Nat → Int32) (R : Nat → Value) (Z : Int64) (B : Nat → Nat → Int32) (J : Nat → Nat → Int64) (K : PK) (w : va_W) (pq : Nat) (dr : Nat) (ml : Nat) (nd : Nat) (k9 : Nat) (d9 : Nat) (g : Nat → Nat → Nat) (hpb : PgB K g (a 1) pq dr ml nd) (hdc : DcR K g dr nd) (hk9 : k9 < nd) (hd9 : K.2.2.2.2.1 dr k9 = some d9) (hO : OKP G h0 a F R Z B J K w) : PM l G pX0 yX9_decl cX9_decl 2 (some (.object "JinjaTongue$Decl")) ({ frames := 2, cells := 0, slots := 0, locals := 60 }) [.ref pq, .int (nI k9)] w (fun (v : Option Value) (u : va_W × (Unit)) => v = some (.ref d9) ∧ (OKP G h0 a F R Z B J K u.1)) (fun u => u.1) := by
  intro sz
  refine Met.ofW (cc := cX9_decl) (maxL := 2) (ret := (some (.object "JinjaTongue$Decl"))) (by decide) rfl ?_
  intro p e s m args below meth c s₁ B9 hml hv
  obtain ⟨rfl, hsz, hP, hD0, hE, hX⟩ := hv
  have hx := B9.exec
  have hb := B9.bytes
  have hr := B9.returns
  have hts := atoms_spec (ws := Cond.code yX9_decl cX9_decl 2 (some (.object "JinjaTongue$Decl")) :: pw) B9.pre
  have hq : ∀ w ∈ pw, w.before _ s = true := fun w h => hts w (List.mem_cons_of_mem _ h)
  have hown : s.vm.findClass RX9 = some m.cls := findClass_of_methodNamed B9.named
  have hlocks := B9.notSynchronized
  subst hsz
  have hD := hD0.self (sz := s.heap.size)
  have hA : ∀ q : Nat, s.heap.size ≤ q → va_A w s.heap.size q := fun q h => Or.inr h
  generalize va_A w s.heap.size = A at hD hE hA ⊢
  have hS : va_S A s.heap s.heap [] := va_S.rf
  have hl := lv_entry ([.ref pq, .int (nI k9)]) (n := 2) (Nat.le_of_ble_eq_true rfl)
  rw [lg_entry_eq]
  generalize (lg_sl ([.ref pq, .int (nI k9)]) ++ List.replicate (2 - (lg_sl ([.ref pq, .int (nI k9)])).length) Slot.unset).toArray = ls at hl ⊢
  have hl : lv_has ls 2 [(0, .ref pq), (1, .int (nI k9))] := hl
  have hp1 := hpb.1
  have hp2 := hpb.2.1
  have hp3 := hpb.2.2.1
  have hp4 := hpb.2.2.2.1
  have hp5 := hpb.2.2.2.2.1
  have hp6 := hpb.2.2.2.2.2.1
  have hp8 := hpb.2.2.2.2.2.2.2.1
  have hp9 := hpb.2.2.2.2.2.2.2.2
  refine lv_iload_n hx hb dX9_decl_0 rfl (lv_at hl 1 rfl) ?_
  refine lv_if_lt (tgt := 21) hx hb dX9_decl_1 (by decide) (fun c1 => (by have n2 : k9 < 0 := (nI_ltI (a := k9) (b := 0) (by omega) (by omega)).mp c1; omega)) (fun c1 => ?_)
  refine lv_iload_n hx hb dX9_decl_4 rfl (lv_at hl 1 rfl) ?_
  refine lv_aload_n hx hb dX9_decl_5 rfl (lv_at hl 0 rfl) ?_
  refine p_get (v := .int (nI nd)) (C := RX9) (Tc := TX9) (N := 5) (ci := 6) hx hb hq pin_wsX90 hown hE hP hO (by rw [hp1]; decide) (rep_7 hp1) rfl 2 (by decide) (hq _ pw_14) (fun _ h9 => h9) (congrArg (fun z => some (Value.int z)) hp8) dX9_decl_6 ?_
  refine lv_icmp_ge (tgt := 21) hx hb dX9_decl_9 (by decide) (fun c3 => (by have n4 : nd ≤ k9 := (nI_leI (a := nd) (b := k9) (by omega) (by omega)).mp c3; omega)) (fun c3 => ?_)
  refine lv_aload_n hx hb dX9_decl_12 rfl (lv_at hl 0 rfl) ?_
  refine p_get (v := .ref dr) (C := RX9) (Tc := TX9) (N := 5) (ci := 6) hx hb hq pin_wsX90 hown hE hP hO (by rw [hp1]; decide) (rep_7 hp1) rfl 1 (by decide) (hq _ pw_15) (fun _ h9 => h9) (congrArg (fun z => some (va_rf z)) hp3) dX9_decl_13 ?_
  refine lv_iload_n hx hb dX9_decl_16 rfl (lv_at hl 1 rfl) ?_
  refine p_ald8 hx hb hE hP hO hp4 (vp_in_nI (by omega) (by omega)) dX9_decl_17 ?_
  rw [nI_clamp (show k9 < 2 ^ 31 by omega)]
  obtain ⟨d7, h71, h72, h73, h74⟩ := hdc k9 (by omega)
  have h75 : K.1 d9 = 4 := by rw [← Option.some.inj (h71.symm.trans hd9)]; exact h72
  rw [hd9]
  refine W.eq (g2 := F0 m 18 ls [.ref d9]) rfl ?_
  refine lv_goto (tgt := 22) hx hb dX9_decl_18 (by decide) ?_
  have hO : OKP G h0 a F R Z B J K w := hO.to rfl
  exact W.aret (v := .ref d9) hx hb hr (Or.inl ⟨_, rfl⟩) (Or.inr ⟨_, rfl⟩) (fun t99 ht99 hW99 => ⟨⟨_, (w, ()), rfl, ⟨rfl, hO⟩, by rw [ht99]; exact hP, hD⟩, hS.F ht99⟩) hS.2.2 dX9_decl_22
set_option maxHeartbeats 6000000 in
set_option maxRecDepth 100000 in
theorem Y_method (l : Launch) (G : pT) (h0 : Nat) (a : Nat → Nat) (F : Nat → Int32) (R : Nat → Value) (Z : Int64) (B : Nat → Nat → Int32) (J : Nat → Nat → Int64) (K : PK) (w : va_W) (pq : Nat) (dr : Nat) (ml : Nat) (nd : Nat) (k9 : Nat) (nm : Nat) (cp : Nat) (it : Nat → Nat) (g : Nat → Nat → Nat) (hpb : PgB K g (a 1) pq dr ml nd) (hlm : LsC G K ml 3 nm it cp) (hk9 : k9 < nm) (hO : OKP G h0 a F R Z B J K w) : PM l G pX0 yX9_method cX9_method 2 (some (.object "JinjaTongue$Method")) ({ frames := 5, cells := 0, slots := 0, locals := 124 }) [.ref pq, .int (nI k9)] w (fun (v : Option Value) (u : va_W × (Unit)) => v = some (.ref (it k9)) ∧ (OKP G h0 a F R Z B J K u.1)) (fun u => u.1) := by
  intro sz
  refine Met.ofW (cc := cX9_method) (maxL := 2) (ret := (some (.object "JinjaTongue$Method"))) (by decide) rfl ?_
  intro p e s m args below meth c s₁ B9 hml hv
  obtain ⟨rfl, hsz, hP, hD0, hE, hX⟩ := hv
  have hx := B9.exec
  have hb := B9.bytes
  have hr := B9.returns
  have hts := atoms_spec (ws := Cond.code yX9_method cX9_method 2 (some (.object "JinjaTongue$Method")) :: pw) B9.pre
  have hq : ∀ w ∈ pw, w.before _ s = true := fun w h => hts w (List.mem_cons_of_mem _ h)
  have hown : s.vm.findClass RX9 = some m.cls := findClass_of_methodNamed B9.named
  have hlocks := B9.notSynchronized
  subst hsz
  have hD := hD0.self (sz := s.heap.size)
  have hA : ∀ q : Nat, s.heap.size ≤ q → va_A w s.heap.size q := fun q h => Or.inr h
  generalize va_A w s.heap.size = A at hD hE hA ⊢
  have hS : va_S A s.heap s.heap [] := va_S.rf
  have hl := lv_entry ([.ref pq, .int (nI k9)]) (n := 2) (Nat.le_of_ble_eq_true rfl)
  rw [lg_entry_eq]
  generalize (lg_sl ([.ref pq, .int (nI k9)]) ++ List.replicate (2 - (lg_sl ([.ref pq, .int (nI k9)])).length) Slot.unset).toArray = ls at hl ⊢
  have hl : lv_has ls 2 [(0, .ref pq), (1, .int (nI k9))] := hl
  have hp1 := hpb.1
  have hp2 := hpb.2.1
  have hp3 := hpb.2.2.1
  have hp4 := hpb.2.2.2.1
  have hp5 := hpb.2.2.2.2.1
  have hp6 := hpb.2.2.2.2.2.1
  have hp8 := hpb.2.2.2.2.2.2.2.1
  have hp9 := hpb.2.2.2.2.2.2.2.2
  have hnm9 := hlm.2.2.1
  refine lv_iload_n hx hb dX9_method_0 rfl (lv_at hl 1 rfl) ?_
  refine lv_if_lt (tgt := 29) hx hb dX9_method_1 (by decide) (fun c1 => (by have n2 : k9 < 0 := (nI_ltI (a := k9) (b := 0) (by omega) (by omega)).mp c1; omega)) (fun c1 => ?_)
  refine lv_iload_n hx hb dX9_method_4 rfl (lv_at hl 1 rfl) ?_
  refine lv_aload_n hx hb dX9_method_5 rfl (lv_at hl 0 rfl) ?_
  refine p_get (v := .ref ml) (C := RX9) (Tc := TX9) (N := 5) (ci := 6) hx hb hq pin_wsX90 hown hE hP hO (by rw [hp1]; decide) (rep_7 hp1) rfl 3 (by decide) (hq _ pw_514) (fun _ h9 => h9) (congrArg (fun z => some (va_rf z)) hp5) dX9_method_6 ?_
  have hO : OKP G h0 a F R Z B J K w := hO.to rfl
  obtain ⟨qr6, hqr7⟩ := p_recv hO (by rw [hp6]; decide) (rep_5 hp6)
  refine pc_V0 (G := G) (As := []) (rest := [.int (nI k9)]) hx hb hml hown hq hE hX pX0_al hP hD hS hA hl.1 (L_size l G h0 a F R Z B J K w ml 3 nm it hlm.ls hO) (gV pw_516 pw_87 pw_88 pw_32 pw_16) hV_Jx4a65c_size_8abf5 qr6 10 hqr7 rfl rfl rfl (Nat.le_of_ble_eq_true rfl) dX9_method_9 ⟨Nat.le_of_ble_eq_true rfl, Nat.le_of_ble_eq_true rfl⟩ ⟨Nat.le_of_ble_eq_true rfl, Nat.le_of_ble_eq_true rfl⟩ (fun v5 u3 H locs hw4 hP hD hS => ?_)
  obtain ⟨w, _⟩ := u3
  obtain ⟨hw4, hO⟩ := hw4
  obtain rfl : v5 = some (.int (nI nm)) := hw4
  have hO : OKP G h0 a F R Z B J K w := hO.to rfl
  refine W.widen (k := 0) (n := 0) (Nat.le_of_ble_eq_true rfl) (Nat.le_of_ble_eq_true rfl) ?_
  refine W.eq (g2 := F0 m 12 ls [.int (nI nm), .int (nI k9)]) rfl ?_
  refine lv_icmp_ge (tgt := 29) hx hb dX9_method_12 (by decide) (fun c8 => (by have n9 : nm ≤ k9 := (nI_leI (a := nm) (b := k9) (by omega) (by omega)).mp c8; omega)) (fun c8 => ?_)
  refine lv_aload_n hx hb dX9_method_15 rfl (lv_at hl 0 rfl) ?_
  refine p_get (v := .ref ml) (C := RX9) (Tc := TX9) (N := 5) (ci := 6) hx hb hq pin_wsX90 hown hE hP hO (by rw [hp1]; decide) (rep_7 hp1) rfl 3 (by decide) (hq _ pw_514) (fun _ h9 => h9) (congrArg (fun z => some (va_rf z)) hp5) dX9_method_16 ?_
  refine lv_iload_n hx hb dX9_method_19 rfl (lv_at hl 1 rfl) ?_
  have hO : OKP G h0 a F R Z B J K w := hO.to rfl
  obtain ⟨qr13, hqr14⟩ := p_recv hO (by rw [hp6]; decide) (rep_5 hp6)
  refine pc_V0 (G := G) (As := [.int (nI k9)]) (rest := []) hx hb hml hown hq hE hX pX0_al hP hD hS hA hl.1 (L_get l G h0 a F R Z B J K w ml 3 nm it k9 hlm.ls (by omega) hO) (gV pw_517 pw_90 pw_91 pw_32 pw_25) hV_Jx4a65c_get_915e3 qr13 10 hqr14 rfl rfl rfl (Nat.le_of_ble_eq_true rfl) dX9_method_20 ⟨Nat.le_of_ble_eq_true rfl, Nat.le_of_ble_eq_true rfl⟩ ⟨Nat.le_of_ble_eq_true rfl, Nat.le_of_ble_eq_true rfl⟩ (fun v12 u10 H locs hw11 hP hD hS => ?_)
  obtain ⟨w, _⟩ := u10
  obtain ⟨hw11, hO⟩ := hw11
  obtain rfl : v12 = some (.ref (it k9)) := hw11
  have hO : OKP G h0 a F R Z B J K w := hO.to rfl
  refine W.widen (k := 0) (n := 0) (Nat.le_of_ble_eq_true rfl) (Nat.le_of_ble_eq_true rfl) ?_
  refine W.eq (g2 := F0 m 23 ls [.ref (it k9)]) rfl ?_
  have hf15 : K.1 (it k9) = 3 := hlm.T (by omega)
  refine p_cast (C := RX6) (Tc := TX6) (N := 12) (ci := 12) hx hb hown (hq _ pw_515) hE hP hO (by rw [hf15]; decide) (rep_3 hf15) rfl dX9_method_23 ?_
  refine lv_goto (tgt := 30) hx hb dX9_method_26 (by decide) ?_
  have hO : OKP G h0 a F R Z B J K w := hO.to rfl
  exact W.aret (v := .ref (it k9)) hx hb hr (Or.inl ⟨_, rfl⟩) (Or.inr ⟨_, rfl⟩) (fun t99 ht99 hW99 => ⟨⟨_, (w, ()), rfl, ⟨rfl, hO⟩, by rw [ht99]; exact hP, hD⟩, hS.F ht99⟩) hS.2.2 dX9_method_30
set_option maxHeartbeats 6000000 in
set_option maxRecDepth 100000 in
theorem Y_cells (l : Launch) (G : pT) (h0 : Nat) (a : Nat → Nat) (F : Nat → Int32) (R : Nat → Value) (Z : Int64) (B : Nat → Nat → Int32) (J : Nat → Nat → Int64) (K : PK) (w : va_W) (d0 : Nat) (lq : Nat) (n9 : Nat) (g : Nat → Nat → Nat) (hd0 : K.1 d0 = 4) (hwp : WPr G K g) (hlq : K.2.2.1 11 d0 = some lq) (hn9 : K.2.1 23 lq = nI n9) (hnb : n9 ≤ 100000) (hO : OKP G h0 a F R Z B J K w) : PM l G pX0 yX2_cells cX2_cells 1 (some .int) ({ frames := 3, cells := 0, slots := 0, locals := 80 }) [.ref d0] w (fun (v : Option Value) (u : va_W × (Unit)) => v = some (.int (nI (1 + n9))) ∧ (OKP G h0 a F R Z B J K u.1)) (fun u => u.1) := by
  intro sz
  refine Met.ofW (cc := cX2_cells) (maxL := 1) (ret := (some .int)) (by decide) rfl ?_
  intro p e s m args below meth c s₁ B9 hml hv
  obtain ⟨rfl, hsz, hP, hD0, hE, hX⟩ := hv
  have hx := B9.exec
  have hb := B9.bytes
  have hr := B9.returns
  have hts := atoms_spec (ws := Cond.code yX2_cells cX2_cells 1 (some .int) :: pw) B9.pre
  have hq : ∀ w ∈ pw, w.before _ s = true := fun w h => hts w (List.mem_cons_of_mem _ h)
  have hown : s.vm.findClass RX2 = some m.cls := findClass_of_methodNamed B9.named
  have hlocks := B9.notSynchronized
  subst hsz
  have hD := hD0.self (sz := s.heap.size)
  have hA : ∀ q : Nat, s.heap.size ≤ q → va_A w s.heap.size q := fun q h => Or.inr h
  generalize va_A w s.heap.size = A at hD hE hA ⊢
  have hS : va_S A s.heap s.heap [] := va_S.rf
  have hl := lv_entry ([.ref d0]) (n := 1) (Nat.le_of_ble_eq_true rfl)
  rw [lg_entry_eq]
  generalize (lg_sl ([.ref d0]) ++ List.replicate (1 - (lg_sl ([.ref d0])).length) Slot.unset).toArray = ls at hl ⊢
  have hl : lv_has ls 1 [(0, .ref d0)] := hl
  obtain ⟨lm, hflm, htlm, hrlm, holm⟩ := (hwp.2.2.1 d0 hd0).2.2.1
  obtain ⟨nlm, itlm, cplm, hlclm, hnblm, hcblm⟩ := hwp.2.1 lm htlm
  rw [hrlm] at hlclm hnblm
  have hnclm := hlclm.2.2.1
  have hnblm : nlm ≤ 5000 := hnblm
  have hlclm : LsC G K lm 1 nlm itlm cplm := hlclm
  refine lv_iconst (v := 1) hx hb dX2_cells_0 (by decide) ?_
  refine lv_aload_n hx hb dX2_cells_1 rfl (lv_at hl 0 rfl) ?_
  refine p_get (v := .ref lm) (C := RX2) (Tc := TX2) (N := 13) (ci := 2) hx hb hq pin_wsX20 hown hE hP hO (by rw [hd0]; decide) (rep_4 hd0) rfl 11 (by decide) (hq _ pw_138) (fun _ h9 => h9) (congrArg (fun z => some (va_rf z)) hflm) dX2_cells_2 ?_
  have hO : OKP G h0 a F R Z B J K w := hO.to rfl
  obtain ⟨qr4, hqr5⟩ := p_recv hO (by rw [htlm]; decide) (rep_5 htlm)
  refine pc_V0 (G := G) (As := []) (rest := [.int 1]) hx hb hml hown hq hE hX pX0_al hP hD hS hA hl.1 (L_size l G h0 a F R Z B J K w lm 1 nlm itlm hlclm.ls hO) (gV pw_123 pw_87 pw_88 pw_32 pw_16) hV_Jx4a65c_size_8abf5 qr4 10 hqr5 rfl rfl rfl (Nat.le_of_ble_eq_true rfl) dX2_cells_5 ⟨Nat.le_of_ble_eq_true rfl, Nat.le_of_ble_eq_true rfl⟩ ⟨Nat.le_of_ble_eq_true rfl, Nat.le_of_ble_eq_true rfl⟩ (fun v3 u1 H locs hw2 hP hD hS => ?_)
  obtain ⟨w, _⟩ := u1
  obtain ⟨hw2, hO⟩ := hw2
  obtain rfl : v3 = some (.int (nI nlm)) := hw2
  have hO : OKP G h0 a F R Z B J K w := hO.to rfl
  refine W.widen (k := 0) (n := 0) (Nat.le_of_ble_eq_true rfl) (Nat.le_of_ble_eq_true rfl) ?_
  refine W.eq (g2 := F0 m 8 ls [.int (nI nlm), .int 1]) rfl ?_
  refine lv_iadd hx hb dX2_cells_8 ?_
  refine lv_topi (fun x6 e7 => ?_)
  obtain rfl : x6 = nI (1 + nlm) := e7.trans (nI_add (1) (nlm))
  have hnl : nlm = n9 := by rw [show lm = lq from Option.some.inj (hflm.symm.trans hlq)] at hlclm; exact (nI_eq (by have := hlclm.2.2.1; omega) (by omega)).mp ((LsC.sz hlclm).symm.trans hn9)
  rw [hnl]
  have hO : OKP G h0 a F R Z B J K w := hO.to rfl
  exact W.iret (v := (nI (1 + n9))) hx hb hr (fun t99 ht99 hW99 => ⟨⟨_, (w, ()), rfl, ⟨rfl, hO⟩, by rw [ht99]; exact hP, hD⟩, hS.F ht99⟩) hS.2.2 dX2_cells_9
set_option maxHeartbeats 6000000 in
set_option maxRecDepth 100000 in
theorem Y_own (l : Launch) (G : pT) (h0 : Nat) (a : Nat → Nat) (F : Nat → Int32) (R : Nat → Value) (Z : Int64) (B : Nat → Nat → Int32) (J : Nat → Nat → Int64) (K : PK) (w : va_W) (d0 : Nat) (x : Int32) (g : Nat → Nat → Nat) (hd0 : K.1 d0 = 4) (hwp : WPr G K g) (hO : OKP G h0 a F R Z B J K w) : PM l G pX0 yX2_own cX2_own 3 (some (.object "JinjaTongue$Method")) ({ frames := 5, cells := 0, slots := 0, locals := 124 }) [.ref d0, .int x] w (fun (v : Option Value) (u : va_W × (Option Nat)) => v = some ((va_rf u.2)) ∧ (OwP K d0 x u.2) ∧ (OKP G h0 a F R Z B J K u.1)) (fun u => u.1) := by
  intro sz
  refine Met.ofW (cc := cX2_own) (maxL := 3) (ret := (some (.object "JinjaTongue$Method"))) (by decide) rfl ?_
  intro p e s m args below meth c s₁ B9 hml hv
  obtain ⟨rfl, hsz, hP, hD0, hE, hX⟩ := hv
  have hx := B9.exec
  have hb := B9.bytes
  have hr := B9.returns
  have hts := atoms_spec (ws := Cond.code yX2_own cX2_own 3 (some (.object "JinjaTongue$Method")) :: pw) B9.pre
  have hq : ∀ w ∈ pw, w.before _ s = true := fun w h => hts w (List.mem_cons_of_mem _ h)
  have hown : s.vm.findClass RX2 = some m.cls := findClass_of_methodNamed B9.named
  have hlocks := B9.notSynchronized
  subst hsz
  have hD := hD0.self (sz := s.heap.size)
  have hA : ∀ q : Nat, s.heap.size ≤ q → va_A w s.heap.size q := fun q h => Or.inr h
  generalize va_A w s.heap.size = A at hD hE hA ⊢
  have hS : va_S A s.heap s.heap [] := va_S.rf
  have hl := lv_entry ([.ref d0, .int x]) (n := 3) (Nat.le_of_ble_eq_true rfl)
  rw [lg_entry_eq]
  generalize (lg_sl ([.ref d0, .int x]) ++ List.replicate (3 - (lg_sl ([.ref d0, .int x])).length) Slot.unset).toArray = ls at hl ⊢
  have hl : lv_has ls 3 [(0, .ref d0), (1, .int x)] := hl
  obtain ⟨lm, hflm, htlm, hrlm, holm⟩ := (hwp.2.2.1 d0 hd0).2.1
  obtain ⟨nlm, itlm, cplm, hlclm, hnblm, hcblm⟩ := hwp.2.1 lm htlm
  rw [hrlm] at hlclm hnblm
  have hnclm := hlclm.2.2.1
  have hnblm : nlm ≤ 30 := hnblm
  have hlclm : LsC G K lm 3 nlm itlm cplm := hlclm
  refine lv_iconst (v := 0) hx hb dX2_own_0 (by decide) ?_
  refine lv_istore_n (lv' := [(2, .int 0), (0, .ref d0), (1, .int x)]) hx hb dX2_own_1 rfl hl (by decide) rfl (fun ls hl => ?_)
  have loop_i : ∀ (n_i : Nat) (i2 : Nat) (H : Heap) (locs : List Loc) (ls : Array Slot) (w : va_W), i2 ≤ nlm → nlm + 1 ≤ i2 + n_i → (∀ i : Nat, i < i2 → ¬ K.2.1 6 (itlm i) = x) → va_P G.1 pCl w H → va_D A w → va_S A s.heap H locs → OKP G h0 a F R Z B J K w → lv_has ls 3 [(2, .int (nI i2)), (1, .int x), (0, .ref d0)] → W p l e (headSpec (Cond.code yX2_own cX2_own 3 (some (.object "JinjaTongue$Method")) :: pw) ({ frames := 5, cells := 0, slots := 0, locals := 124 } : Room)).room s m ([.ref d0, .int x] : List Value).toArray below meth c H locs 0 0 (MQ below (pQ G A (fun (v : Option Value) (u : va_W × (Option Nat)) => v = some ((va_rf u.2)) ∧ (OwP K d0 x u.2) ∧ (OKP G h0 a F R Z B J K u.1)) (fun u => u.1)) ([.ref d0, .int x] : List Value).toArray s ({ frames := 5, cells := 0, slots := 0, locals := 124 } : Room).cells ({ frames := 5, cells := 0, slots := 0, locals := 124 } : Room).slots A) (F0 m 2 ls []) := by
    intro n_i
    induction n_i with
    | zero => intro i2 H locs ls w hk_i hn_i; omega
    | succ n_i ih_i =>
      intro i2 H locs ls w hk_i hn_i hno hP hD hS hO hl
      refine lv_iload_n hx hb dX2_own_2 rfl (lv_at hl 0 rfl) ?_
      refine lv_aload_n hx hb dX2_own_3 rfl (lv_at hl 2 rfl) ?_
      refine p_get (v := .ref lm) (C := RX2) (Tc := TX2) (N := 13) (ci := 2) hx hb hq pin_wsX20 hown hE hP hO (by rw [hd0]; decide) (rep_4 hd0) rfl 8 (by decide) (hq _ pw_148) (fun _ h9 => h9) (congrArg (fun z => some (va_rf z)) hflm) dX2_own_4 ?_
      have hO : OKP G h0 a F R Z B J K w := hO.to rfl
      obtain ⟨qr4, hqr5⟩ := p_recv hO (by rw [htlm]; decide) (rep_5 htlm)
      refine pc_V0 (G := G) (As := []) (rest := [.int (nI i2)]) hx hb hml hown hq hE hX pX0_al hP hD hS hA hl.1 (L_size l G h0 a F R Z B J K w lm 3 nlm itlm hlclm.ls hO) (gV pw_123 pw_87 pw_88 pw_32 pw_16) hV_Jx4a65c_size_8abf5 qr4 10 hqr5 rfl rfl rfl (Nat.le_of_ble_eq_true rfl) dX2_own_7 ⟨Nat.le_of_ble_eq_true rfl, Nat.le_of_ble_eq_true rfl⟩ ⟨Nat.le_of_ble_eq_true rfl, Nat.le_of_ble_eq_true rfl⟩ (fun v3 u1 H locs hw2 hP hD hS => ?_)
      obtain ⟨w, _⟩ := u1
      obtain ⟨hw2, hO⟩ := hw2
      obtain rfl : v3 = some (.int (nI nlm)) := hw2
      have hO : OKP G h0 a F R Z B J K w := hO.to rfl
      refine W.widen (k := 0) (n := 0) (Nat.le_of_ble_eq_true rfl) (Nat.le_of_ble_eq_true rfl) ?_
      refine W.eq (g2 := F0 m 10 ls [.int (nI nlm), .int (nI i2)]) rfl ?_
      refine lv_icmp_ge (tgt := 49) hx hb dX2_own_10 (by decide) (fun c6 => ?_) (fun c6 => ?_)
      · have n7 : nlm ≤ i2 := (nI_leI (a := nlm) (b := i2) (by omega) (by omega)).mp c6
        refine lv_null hx hb dX2_own_49 ?_
        have hz8 : OwP K d0 x none := ⟨lm, nlm, itlm, hflm, LsC.sz hlclm, hlclm.2.2.1, LsC.el hlclm, (Or.inl ⟨rfl, fun i hi => hno i (by omega)⟩)⟩
        have hO : OKP G h0 a F R Z B J K w := hO.to rfl
        exact W.aret (v := .null) hx hb hr (Or.inl ⟨_, rfl⟩) (Or.inl rfl) (fun t99 ht99 hW99 => ⟨⟨_, (w, none), rfl, ⟨rfl, hz8, hO⟩, by rw [ht99]; exact hP, hD⟩, hS.F ht99⟩) hS.2.2 dX2_own_50
      · have n9 : ¬ (nlm ≤ i2) := fun h9 => c6 ((nI_leI (a := nlm) (b := i2) (by omega) (by omega)).mpr h9)
        refine lv_aload_n hx hb dX2_own_13 rfl (lv_at hl 2 rfl) ?_
        refine p_get (v := .ref lm) (C := RX2) (Tc := TX2) (N := 13) (ci := 2) hx hb hq pin_wsX20 hown hE hP hO (by rw [hd0]; decide) (rep_4 hd0) rfl 8 (by decide) (hq _ pw_148) (fun _ h9 => h9) (congrArg (fun z => some (va_rf z)) hflm) dX2_own_14 ?_
        refine lv_iload_n hx hb dX2_own_17 rfl (lv_at hl 0 rfl) ?_
        have hO : OKP G h0 a F R Z B J K w := hO.to rfl
        obtain ⟨qr13, hqr14⟩ := p_recv hO (by rw [htlm]; decide) (rep_5 htlm)
        refine pc_V0 (G := G) (As := [.int (nI i2)]) (rest := []) hx hb hml hown hq hE hX pX0_al hP hD hS hA hl.1 (L_get l G h0 a F R Z B J K w lm 3 nlm itlm i2 hlclm.ls (by omega) hO) (gV pw_124 pw_90 pw_91 pw_32 pw_25) hV_Jx4a65c_get_915e3 qr13 10 hqr14 rfl rfl rfl (Nat.le_of_ble_eq_true rfl) dX2_own_18 ⟨Nat.le_of_ble_eq_true rfl, Nat.le_of_ble_eq_true rfl⟩ ⟨Nat.le_of_ble_eq_true rfl, Nat.le_of_ble_eq_true rfl⟩ (fun v12 u10 H locs hw11 hP hD hS => ?_)
        obtain ⟨w, _⟩ := u10
        obtain ⟨hw11, hO⟩ := hw11
        obtain rfl : v12 = some (.ref (itlm i2)) := hw11
        have hO : OKP G h0 a F R Z B J K w := hO.to rfl
        refine W.widen (k := 0) (n := 0) (Nat.le_of_ble_eq_true rfl) (Nat.le_of_ble_eq_true rfl) ?_
        refine W.eq (g2 := F0 m 21 ls [.ref (itlm i2)]) rfl ?_
        have hf15 : K.1 (itlm i2) = 3 := hlclm.T (by omega)
        refine p_cast (C := RX6) (Tc := TX6) (N := 12) (ci := 12) hx hb hown (hq _ pw_121) hE hP hO (by rw [hf15]; decide) (rep_3 hf15) rfl dX2_own_21 ?_
        refine p_get (v := .int (K.2.1 6 (itlm i2))) (C := RX6) (Tc := TX6) (N := 12) (ci := 12) hx hb hq pin_wsX60 hown hE hP hO (by rw [hf15]; decide) (rep_3 hf15) rfl 1 (by decide) (hq _ pw_122) (fun _ h9 => h9) rfl dX2_own_24 ?_
        refine lv_iload_n hx hb dX2_own_27 rfl (lv_at hl 1 rfl) ?_
        refine lv_icmp_ne (tgt := 43) hx hb dX2_own_28 (by decide) (fun c16 => ?_) (fun c16 => ?_)
        · refine lv_iinc (v := (nI (i2 + 1))) (lv' := [(2, .int (nI (i2 + 1))), (1, .int x), (0, .ref d0)]) hx hb dX2_own_43 hl (k := 0) rfl (nI_1 i2) (by decide) rfl (fun ls hl => ?_)
          refine lv_goto (tgt := 2) hx hb dX2_own_46 (by decide) ?_
          have hO : OKP G h0 a F R Z B J K w := hO.to rfl
          exact ih_i (i2 + 1) _ _ _ _ (by omega) (by omega) (fun i hi => by by_cases z : i = i2; (rw [z]; exact c16); exact hno i (by omega)) hP hD hS hO (lv_sub hl [0, 1, 2] rfl)
        · refine lv_aload_n hx hb dX2_own_31 rfl (lv_at hl 2 rfl) ?_
          refine p_get (v := .ref lm) (C := RX2) (Tc := TX2) (N := 13) (ci := 2) hx hb hq pin_wsX20 hown hE hP hO (by rw [hd0]; decide) (rep_4 hd0) rfl 8 (by decide) (hq _ pw_148) (fun _ h9 => h9) (congrArg (fun z => some (va_rf z)) hflm) dX2_own_32 ?_
          refine lv_iload_n hx hb dX2_own_35 rfl (lv_at hl 0 rfl) ?_
          have hO : OKP G h0 a F R Z B J K w := hO.to rfl
          obtain ⟨qr20, hqr21⟩ := p_recv hO (by rw [htlm]; decide) (rep_5 htlm)
          refine pc_V0 (G := G) (As := [.int (nI i2)]) (rest := []) hx hb hml hown hq hE hX pX0_al hP hD hS hA hl.1 (L_get l G h0 a F R Z B J K w lm 3 nlm itlm i2 hlclm.ls (by omega) hO) (gV pw_124 pw_90 pw_91 pw_32 pw_25) hV_Jx4a65c_get_915e3 qr20 10 hqr21 rfl rfl rfl (Nat.le_of_ble_eq_true rfl) dX2_own_36 ⟨Nat.le_of_ble_eq_true rfl, Nat.le_of_ble_eq_true rfl⟩ ⟨Nat.le_of_ble_eq_true rfl, Nat.le_of_ble_eq_true rfl⟩ (fun v19 u17 H locs hw18 hP hD hS => ?_)
          obtain ⟨w, _⟩ := u17
          obtain ⟨hw18, hO⟩ := hw18
          obtain rfl : v19 = some (.ref (itlm i2)) := hw18
          have hO : OKP G h0 a F R Z B J K w := hO.to rfl
          refine W.widen (k := 0) (n := 0) (Nat.le_of_ble_eq_true rfl) (Nat.le_of_ble_eq_true rfl) ?_
          refine W.eq (g2 := F0 m 39 ls [.ref (itlm i2)]) rfl ?_
          have hf22 : K.1 (itlm i2) = 3 := hlclm.T (by omega)
          refine p_cast (C := RX6) (Tc := TX6) (N := 12) (ci := 12) hx hb hown (hq _ pw_121) hE hP hO (by rw [hf22]; decide) (rep_3 hf22) rfl dX2_own_39 ?_
          have hz23 : OwP K d0 x (some (itlm i2)) := ⟨lm, nlm, itlm, hflm, LsC.sz hlclm, hlclm.2.2.1, LsC.el hlclm, (Or.inr ⟨i2, by omega, rfl, c16, hno⟩)⟩
          have hO : OKP G h0 a F R Z B J K w := hO.to rfl
          exact W.aret (v := .ref (itlm i2)) hx hb hr (Or.inl ⟨_, rfl⟩) (Or.inr ⟨_, rfl⟩) (fun t99 ht99 hW99 => ⟨⟨_, (w, (some (itlm i2))), rfl, ⟨rfl, hz23, hO⟩, by rw [ht99]; exact hP, hD⟩, hS.F ht99⟩) hS.2.2 dX2_own_42
  have hO : OKP G h0 a F R Z B J K w := hO.to rfl
  exact loop_i (nlm + 1) 0 _ _ _ _ (by omega) (by omega) (fun i hi => absurd hi (by omega)) hP hD hS hO (lv_sub hl [0, 2, 1] rfl)
set_option maxHeartbeats 6000000 in
set_option maxRecDepth 100000 in
theorem Y_nearest (l : Launch) (G : pT) (h0 : Nat) (a : Nat → Nat) (F : Nat → Int32) (R : Nat → Value) (Z : Int64) (B : Nat → Nat → Int32) (J : Nat → Nat → Int64) (K : PK) (w : va_W) (d0 : Nat) (m9 : Nat) (x : Int32) (g : Nat → Nat → Nat) (rk : Nat → Nat) (hd0 : K.1 d0 = 4) (hwp : WPr G K g) (hrk : RkO K rk) (hne : NeP K x 101 d0 m9) (hO : OKP G h0 a F R Z B J K w) : PM l G pX0 yX2_nearest cX2_nearest 4 (some (.object "JinjaTongue$Method")) ({ frames := 6, cells := 0, slots := 0, locals := 146 }) [.ref d0, .int x] w (fun (v : Option Value) (u : va_W × (Unit)) => v = some (.ref m9) ∧ (OKP G h0 a F R Z B J K u.1)) (fun u => u.1) := by
  intro sz
  refine Met.ofW (cc := cX2_nearest) (maxL := 4) (ret := (some (.object "JinjaTongue$Method"))) (by decide) rfl ?_
  intro p e s m args below meth c s₁ B9 hml hv
  obtain ⟨rfl, hsz, hP, hD0, hE, hX⟩ := hv
  have hx := B9.exec
  have hb := B9.bytes
  have hr := B9.returns
  have hts := atoms_spec (ws := Cond.code yX2_nearest cX2_nearest 4 (some (.object "JinjaTongue$Method")) :: pw) B9.pre
  have hq : ∀ w ∈ pw, w.before _ s = true := fun w h => hts w (List.mem_cons_of_mem _ h)
  have hown : s.vm.findClass RX2 = some m.cls := findClass_of_methodNamed B9.named
  have hlocks := B9.notSynchronized
  subst hsz
  have hD := hD0.self (sz := s.heap.size)
  have hA : ∀ q : Nat, s.heap.size ≤ q → va_A w s.heap.size q := fun q h => Or.inr h
  generalize va_A w s.heap.size = A at hD hE hA ⊢
  have hS : va_S A s.heap s.heap [] := va_S.rf
  have hl := lv_entry ([.ref d0, .int x]) (n := 4) (Nat.le_of_ble_eq_true rfl)
  rw [lg_entry_eq]
  generalize (lg_sl ([.ref d0, .int x]) ++ List.replicate (4 - (lg_sl ([.ref d0, .int x])).length) Slot.unset).toArray = ls at hl ⊢
  have hl : lv_has ls 4 [(0, .ref d0), (1, .int x)] := hl
  refine lv_aload_n hx hb dX2_nearest_0 rfl (lv_at hl 0 rfl) ?_
  refine lv_astore_n (lv' := [(2, .ref d0), (0, .ref d0), (1, .int x)]) hx hb dX2_nearest_1 rfl hl (by decide) rfl (fun ls hl => ?_)
  have loop_i : ∀ (n_i : Nat) (i2 : Nat) (d2 : Nat) (H : Heap) (locs : List Loc) (ls : Array Slot) (w : va_W), i2 ≤ 101 → 101 + 1 ≤ i2 + n_i → (K.1 d2 = 4) → (NeP K x (101 - i2) d2 m9) → va_P G.1 pCl w H → va_D A w → va_S A s.heap H locs → OKP G h0 a F R Z B J K w → lv_has ls 4 [(2, .ref d2), (1, .int x), (0, .ref d0)] → W p l e (headSpec (Cond.code yX2_nearest cX2_nearest 4 (some (.object "JinjaTongue$Method")) :: pw) ({ frames := 6, cells := 0, slots := 0, locals := 146 } : Room)).room s m ([.ref d0, .int x] : List Value).toArray below meth c H locs 0 0 (MQ below (pQ G A (fun (v : Option Value) (u : va_W × (Unit)) => v = some (.ref m9) ∧ (OKP G h0 a F R Z B J K u.1)) (fun u => u.1)) ([.ref d0, .int x] : List Value).toArray s ({ frames := 6, cells := 0, slots := 0, locals := 146 } : Room).cells ({ frames := 6, cells := 0, slots := 0, locals := 146 } : Room).slots A) (F0 m 2 ls []) := by
    intro n_i
    induction n_i with
    | zero => intro i2 d2 H locs ls w hk_i hn_i; omega
    | succ n_i ih_i =>
      intro i2 d2 H locs ls w hk_i hn_i hT2 hne2 hP hD hS hO hl
      refine lv_aload_n hx hb dX2_nearest_2 rfl (lv_at hl 0 rfl) ?_
      refine lv_ifnull hx hb dX2_nearest_3 ?_
      refine lv_aload_n hx hb dX2_nearest_6 rfl (lv_at hl 0 rfl) ?_
      refine lv_iload_n hx hb dX2_nearest_7 rfl (lv_at hl 1 rfl) ?_
      have hO : OKP G h0 a F R Z B J K w := hO.to rfl
      obtain ⟨qr4, hqr5⟩ := p_recv hO (by rw [hT2]; decide) (rep_4 hT2)
      refine pc_V0 (G := G) (As := [.int x]) (rest := []) hx hb hml hown hq hE hX pX0_al hP hD hS hA hl.1 (Y_own l G h0 a F R Z B J K w d2 x g hT2 hwp hO) (gV pw_151 pw_152 pw_153 pw_146 pw_149) hV_X2_own qr4 2 hqr5 rfl rfl rfl (Nat.le_of_ble_eq_true rfl) dX2_nearest_8 ⟨Nat.le_of_ble_eq_true rfl, Nat.le_of_ble_eq_true rfl⟩ ⟨Nat.le_of_ble_eq_true rfl, Nat.le_of_ble_eq_true rfl⟩ (fun v3 u1 H locs hw2 hP hD hS => ?_)
      obtain ⟨w, o6⟩ := u1
      obtain ⟨hw2, h7, hO⟩ := hw2
      have h7 : OwP K d2 x o6 := h7
      obtain rfl : v3 = some ((va_rf o6)) := hw2
      have hO : OKP G h0 a F R Z B J K w := hO.to rfl
      refine W.widen (k := 0) (n := 0) (Nat.le_of_ble_eq_true rfl) (Nat.le_of_ble_eq_true rfl) ?_
      refine W.eq (g2 := F0 m 11 ls [(va_rf o6)]) rfl ?_
      obtain ⟨hn1, hA | ⟨hA, pp, hpp, hnp⟩⟩ := NeP.nx hne2
      · obtain rfl : o6 = some m9 := OwP.uniq h7 hA
        refine W.eq (g2 := F0 m 11 ls [.ref m9]) rfl ?_
        refine lv_astore_n (lv' := [(3, .ref m9), (2, .ref d2), (1, .int x), (0, .ref d0)]) hx hb dX2_nearest_11 rfl hl (by decide) rfl (fun ls hl => ?_)
        refine lv_aload_n hx hb dX2_nearest_12 rfl (lv_at hl 0 rfl) ?_
        refine lv_ifnull hx hb dX2_nearest_13 ?_
        refine lv_aload_n hx hb dX2_nearest_16 rfl (lv_at hl 0 rfl) ?_
        have hO : OKP G h0 a F R Z B J K w := hO.to rfl
        exact W.aret (v := .ref m9) hx hb hr (Or.inl ⟨_, rfl⟩) (Or.inr ⟨_, rfl⟩) (fun t99 ht99 hW99 => ⟨⟨_, (w, ()), rfl, ⟨rfl, hO⟩, by rw [ht99]; exact hP, hD⟩, hS.F ht99⟩) hS.2.2 dX2_nearest_17
      · obtain rfl : o6 = none := OwP.uniq h7 hA
        refine W.eq (g2 := F0 m 11 ls [.null]) rfl ?_
        refine lv_astore_nN (lv' := [(3, .null), (2, .ref d2), (1, .int x), (0, .ref d0)]) hx hb dX2_nearest_11 rfl hl (by decide) rfl (fun ls hl => ?_)
        refine lv_aload_nN hx hb dX2_nearest_12 rfl (lv_at hl 0 rfl) ?_
        refine lv_ifnullN (tgt := 18) hx hb dX2_nearest_13 (by decide) ?_
        refine lv_aload_n hx hb dX2_nearest_18 rfl (lv_at hl 1 rfl) ?_
        refine p_get (v := .ref pp) (C := RX2) (Tc := TX2) (N := 13) (ci := 2) hx hb hq pin_wsX20 hown hE hP hO (by rw [hT2]; decide) (rep_4 hT2) rfl 9 (by decide) (hq _ pw_150) (fun _ h9 => h9) (congrArg (fun z => some (va_rf z)) hpp) dX2_nearest_19 ?_
        refine lv_astore_n (lv' := [(2, .ref pp), (3, .null), (1, .int x), (0, .ref d0)]) hx hb dX2_nearest_22 rfl hl (by decide) rfl (fun ls hl => ?_)
        refine lv_goto (tgt := 2) hx hb dX2_nearest_23 (by decide) ?_
        have hO : OKP G h0 a F R Z B J K w := hO.to rfl
        exact ih_i (i2 + 1) pp _ _ _ _ (by omega) (by omega) (hrk d2 pp hT2 hpp).1 (by rw [show 101 - (i2 + 1) = 101 - i2 - 1 by omega]; exact hnp) hP hD hS hO (lv_sub hl [0, 2, 3] rfl)
  have hO : OKP G h0 a F R Z B J K w := hO.to rfl
  exact loop_i (101 + 1) 0 d0 _ _ _ _ (by omega) (by omega) hd0 hne hP hD hS hO (lv_sub hl [0, 2, 1] rfl)
