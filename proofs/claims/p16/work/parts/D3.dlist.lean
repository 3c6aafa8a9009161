def Sm (K K1 : PK) (p : Nat) : Prop := K1.1 p = K.1 p ∧ (∀ f : Nat, K1.2.1 f p = K.2.1 f p) ∧ (∀ f : Nat, K1.2.2.1 f p = K.2.2.1 f p) ∧ K1.2.2.2.1 p = K.2.2.2.1 p ∧ K1.2.2.2.2.1 p = K.2.2.2.2.1 p ∧ K1.2.2.2.2.2 p = K.2.2.2.2.2 p
/-- what is new is a row -/
def N6 (K K1 : PK) : Prop := ∀ p : Nat, K.1 p = 0 → K1.1 p = 0 ∨ K1.1 p = 6
def Ext (K K1 : PK) : Prop := ∀ p : Nat, ¬ K.1 p = 0 → Sm K K1 p
def LsI (G : pT) (K : PK) (q es n : Nat) (it : Nat → Nat) : Prop := K.1 q = 5 ∧ K.2.1 23 q = nI n ∧ n ≤ 100000 ∧ ((K.2.2.1 13 q = some G.2.2.2.2 ∧ n = 0) ∨ ∃ e9 : Nat, K.2.2.1 13 q = some e9 ∧ K.1 e9 = 6 ∧ K.2.2.1 17 e9 = some q ∧ 10 ≤ K.2.2.2.2.2 e9 ∧ n ≤ K.2.2.2.2.2 e9 ∧ K.2.2.2.2.2 e9 ≤ 200000 ∧ (∀ i : Nat, i < n → K.2.2.2.2.1 e9 i = some (it i) ∧ K.1 (it i) = es))
/-- the same, with the length of its row -/
def LsC (G : pT) (K : PK) (q es n : Nat) (it : Nat → Nat) (cap : Nat) : Prop := K.1 q = 5 ∧ K.2.1 23 q = nI n ∧ n ≤ 100000 ∧ ((K.2.2.1 13 q = some G.2.2.2.2 ∧ n = 0 ∧ cap = 0) ∨ ∃ e9 : Nat, K.2.2.1 13 q = some e9 ∧ K.1 e9 = 6 ∧ K.2.2.1 17 e9 = some q ∧ K.2.2.2.2.2 e9 = cap ∧ 10 ≤ cap ∧ n ≤ cap ∧ cap ≤ 200000 ∧ (∀ i : Nat, i < n → K.2.2.2.2.1 e9 i = some (it i) ∧ K.1 (it i) = es))
theorem LsC.ls {G : pT} {K : PK} {q es n cap : Nat} {it : Nat → Nat} (h : LsC G K q es n it cap) : LsI G K q es n it := by
  obtain ⟨h1, h2, h3, h4⟩ := h
  refine ⟨h1, h2, h3, ?_⟩
  rcases h4 with ⟨a, b, _⟩ | ⟨e9, a1, a2, a3, a4, a5, a6, a7, a8⟩
  · exact Or.inl ⟨a, b⟩
  · subst a4
    exact Or.inr ⟨e9, a1, a2, a3, a5, a6, a7, a8⟩
theorem LsI.at {G : pT} {K : PK} {q es n i : Nat} {it : Nat → Nat} (h : LsI G K q es n it) (hi : i < n) : ∃ e9 : Nat, K.2.2.1 13 q = some e9 ∧ K.1 e9 = 6 ∧ n ≤ K.2.2.2.2.2 e9 ∧ K.2.2.2.2.2 e9 ≤ 200000 ∧ K.2.2.2.2.1 e9 i = some (it i) ∧ K.1 (it i) = es := by
  obtain ⟨_, _, _, h4⟩ := h
  rcases h4 with ⟨_, h5⟩ | ⟨e9, h5, h6, _, _, h7, h8, h9⟩
  · omega
  · exact ⟨e9, h5, h6, h7, h8, h9 i hi⟩
set_option maxHeartbeats 1000000 in
set_option maxRecDepth 100000 in
/-- checkIndex -/
theorem s_chk3 (l : Launch) (G : pT) (i9 : Nat) (n9 : Nat) (hi9 : i9 < n9 ∧ n9 < 2 ^ 31) : PM l G pX0 yJ3_checkIndex_8e157 cJ3_checkIndex_8e157 3 (some .int) ({ frames := 2, cells := 0, slots := 0, locals := 60 }) [.int (nI i9), .int (nI n9), .null] [] (fun (v : Option Value) (u : Unit) => v = some (.int (nI i9))) (fun u => []) := by
  intro sz
  refine Met.ofW (cc := cJ3_checkIndex_8e157) (maxL := 3) (ret := (some .int)) (by decide) rfl ?_
  intro p e s m args below meth c s₁ B hml hv
  obtain ⟨rfl, hsz, hP, hD0, hE, hX⟩ := hv
  have hx := B.exec
  have hb := B.bytes
  have hr := B.returns
  have hts := atoms_spec (ws := Cond.code yJ3_checkIndex_8e157 cJ3_checkIndex_8e157 3 (some .int) :: pw) B.pre
  have hq : ∀ w ∈ pw, w.before _ s = true := fun w h => hts w (List.mem_cons_of_mem _ h)
  have hown : s.vm.findClass RJ3 = some m.cls := findClass_of_methodNamed B.named
  have hlocks := B.notSynchronized
  subst hsz
  have hD := hD0.self (sz := s.heap.size)
  have hA : ∀ q : Nat, s.heap.size ≤ q → va_A [] s.heap.size q := fun q h => Or.inr h
  have hP : va_P G.1 pCl [] s.heap := hP
  generalize va_A [] s.heap.size = A at hD hE hA ⊢
  have hS : va_S A s.heap s.heap [] := va_S.rf
  have hl := lv_entry ([.int (nI i9), .int (nI n9), .null]) (n := 3) (Nat.le_of_ble_eq_true rfl)
  rw [lg_entry_eq]
  generalize (lg_sl ([.int (nI i9), .int (nI n9), .null]) ++ List.replicate (3 - (lg_sl ([.int (nI i9), .int (nI n9), .null])).length) Slot.unset).toArray = ls at hl ⊢
  have hl : lv_has ls 3 [(0, .int (nI i9)), (1, .int (nI n9)), (2, .null)] := hl
  refine lv_iload_n hx hb dJ3_checkIndex_8e157_0 rfl (lv_at hl 0 rfl) ?_
  refine lv_if_lt (tgt := 9) hx hb dJ3_checkIndex_8e157_1 (by decide) (fun c1 => (absurd c1 (nI_pos (by omega)))) (fun c1 => ?_)
  refine lv_iload_n hx hb dJ3_checkIndex_8e157_4 rfl (lv_at hl 0 rfl) ?_
  refine lv_iload_n hx hb dJ3_checkIndex_8e157_5 rfl (lv_at hl 1 rfl) ?_
  refine lv_icmp_lt (tgt := 16) hx hb dJ3_checkIndex_8e157_6 (by decide) (fun c2 => ?_) (fun c2 => (absurd ((nI_ltI (a := i9) (b := n9) (by omega) (by omega)).mpr (by omega)) c2))
  refine lv_iload_n hx hb dJ3_checkIndex_8e157_16 rfl (lv_at hl 0 rfl) ?_
  refine W.widen (k := 0) (n := 0) (Nat.le_of_ble_eq_true rfl) (Nat.le_of_ble_eq_true rfl) ?_
  exact W.iret (v := (nI i9)) hx hb hr (fun t ht hW => ⟨⟨_, (), rfl, rfl, by rw [ht]; exact hP.sub [] rfl, hD.sub [] (by decide) rfl⟩, hS.F ht⟩) hS.2.2 dJ3_checkIndex_8e157_17
theorem dJ15_checkIndex_7cf53_0 : decode cJ15_checkIndex_7cf53 0 = .ok (.iload_n 0, 1) := by decide +kernel
theorem dJ15_checkIndex_7cf53_1 : decode cJ15_checkIndex_7cf53 1 = .ok (.iload_n 1, 1) := by decide +kernel
theorem dJ15_checkIndex_7cf53_2 : decode cJ15_checkIndex_7cf53 2 = .ok (.aconst_null, 1) := by decide +kernel
theorem dJ15_checkIndex_7cf53_3 : decode cJ15_checkIndex_7cf53 3 = .ok (.invokestatic 105, 3) := by decide +kernel
theorem dJ15_checkIndex_7cf53_6 : decode cJ15_checkIndex_7cf53 6 = .ok (.ireturn, 1) := by decide +kernel
set_option maxHeartbeats 1000000 in
set_option maxRecDepth 100000 in
/-- checkIndex -/
theorem s_chk (l : Launch) (G : pT) (i9 : Nat) (n9 : Nat) (hi9 : i9 < n9 ∧ n9 < 2 ^ 31) : PM l G pX0 yJ15_checkIndex_7cf53 cJ15_checkIndex_7cf53 2 (some .int) ({ frames := 3, cells := 0, slots := 0, locals := 82 }) [.int (nI i9), .int (nI n9)] [] (fun (v : Option Value) (u : Unit) => v = some (.int (nI i9))) (fun u => []) := by
  intro sz
  refine Met.ofW (cc := cJ15_checkIndex_7cf53) (maxL := 2) (ret := (some .int)) (by decide) rfl ?_
  intro p e s m args below meth c s₁ B hml hv
  obtain ⟨rfl, hsz, hP, hD0, hE, hX⟩ := hv
  have hx := B.exec
  have hb := B.bytes
  have hr := B.returns
  have hts := atoms_spec (ws := Cond.code yJ15_checkIndex_7cf53 cJ15_checkIndex_7cf53 2 (some .int) :: pw) B.pre
  have hq : ∀ w ∈ pw, w.before _ s = true := fun w h => hts w (List.mem_cons_of_mem _ h)
  have hown : s.vm.findClass RJ15 = some m.cls := findClass_of_methodNamed B.named
  have hlocks := B.notSynchronized
  subst hsz
  have hD := hD0.self (sz := s.heap.size)
  have hA : ∀ q : Nat, s.heap.size ≤ q → va_A [] s.heap.size q := fun q h => Or.inr h
  have hP : va_P G.1 pCl [] s.heap := hP
  generalize va_A [] s.heap.size = A at hD hE hA ⊢
  have hS : va_S A s.heap s.heap [] := va_S.rf
  have hl := lv_entry ([.int (nI i9), .int (nI n9)]) (n := 2) (Nat.le_of_ble_eq_true rfl)
  rw [lg_entry_eq]
  generalize (lg_sl ([.int (nI i9), .int (nI n9)]) ++ List.replicate (2 - (lg_sl ([.int (nI i9), .int (nI n9)])).length) Slot.unset).toArray = ls at hl ⊢
  have hl : lv_has ls 2 [(0, .int (nI i9)), (1, .int (nI n9))] := hl
  refine lv_iload_n hx hb dJ15_checkIndex_7cf53_0 rfl (lv_at hl 0 rfl) ?_
  refine lv_iload_n hx hb dJ15_checkIndex_7cf53_1 rfl (lv_at hl 1 rfl) ?_
  refine lv_null hx hb dJ15_checkIndex_7cf53_2 ?_
  refine pc_S (G := G) (As := [.int (nI i9), .int (nI n9), .null]) (rest := []) (wr := []) hx hb hml hown hq hE hX pX0_al hP hD hS hA hl.1 (s_chk3 l G i9 n9 hi9) (gS pw_20 pw_21 pw_22 pw_18) hS_J3_checkIndex_8e157 [] [] rfl rfl (by decide) (by decide) (by decide) rfl (Nat.le_of_ble_eq_true rfl) dJ15_checkIndex_7cf53_3 ⟨Nat.le_of_ble_eq_true rfl, Nat.le_of_ble_eq_true rfl⟩ ⟨Nat.le_of_ble_eq_true rfl, Nat.le_of_ble_eq_true rfl⟩ (fun v3 u1 H locs hw2 hP hD hS => ?_)
  obtain rfl : v3 = some (.int (nI i9)) := hw2
  have hP : va_P G.1 pCl [] H := hP
  have hD : va_D A [] := hD
  refine W.widen (k := 0) (n := 0) (Nat.le_of_ble_eq_true rfl) (Nat.le_of_ble_eq_true rfl) ?_
  refine W.eq (g2 := F0 m 6 ls [.int (nI i9)]) rfl ?_
  refine W.widen (k := 0) (n := 0) (Nat.le_of_ble_eq_true rfl) (Nat.le_of_ble_eq_true rfl) ?_
  exact W.iret (v := (nI i9)) hx hb hr (fun t ht hW => ⟨⟨_, (), rfl, rfl, by rw [ht]; exact hP.sub [] rfl, hD.sub [] (by decide) rfl⟩, hS.F ht⟩) hS.2.2 dJ15_checkIndex_7cf53_6
theorem dJx4a65c_size_8abf5_0 : decode cJx4a65c_size_8abf5 0 = .ok (.aload_n 0, 1) := by decide +kernel
theorem dJx4a65c_size_8abf5_1 : decode cJx4a65c_size_8abf5 1 = .ok (.getfield 48, 3) := by decide +kernel
theorem dJx4a65c_size_8abf5_4 : decode cJx4a65c_size_8abf5 4 = .ok (.ireturn, 1) := by decide +kernel
set_option maxHeartbeats 2000000 in
set_option maxRecDepth 100000 in
theorem L_size (l : Launch) (G : pT) (h0 : Nat) (a : Nat → Nat) (F : Nat → Int32) (R : Nat → Value) (Z : Int64) (B : Nat → Nat → Int32) (J : Nat → Nat → Int64) (K : PK) (w : va_W) (q0 : Nat) (es : Nat) (n : Nat) (it : Nat → Nat) (hls : LsI G K q0 es n it) (hO : OKP G h0 a F R Z B J K w) : PM l G pX0 yJx4a65c_size_8abf5 cJx4a65c_size_8abf5 1 (some .int) ({ frames := 2, cells := 0, slots := 0, locals := 60 }) [.ref q0] w (fun (v : Option Value) (u : va_W × (Unit)) => v = some (.int (nI n)) ∧ (OKP G h0 a F R Z B J K u.1)) (fun u => u.1) := by
  intro sz
  refine Met.ofW (cc := cJx4a65c_size_8abf5) (maxL := 1) (ret := (some .int)) (by decide) rfl ?_
  intro p e s m args below meth c s₁ B9 hml hv
  obtain ⟨rfl, hsz, hP, hD0, hE, hX⟩ := hv
  have hx := B9.exec
  have hb := B9.bytes
  have hr := B9.returns
  have hts := atoms_spec (ws := Cond.code yJx4a65c_size_8abf5 cJx4a65c_size_8abf5 1 (some .int) :: pw) B9.pre
  have hq : ∀ w ∈ pw, w.before _ s = true := fun w h => hts w (List.mem_cons_of_mem _ h)
  have hown : s.vm.findClass RJx4a65c = some m.cls := findClass_of_methodNamed B9.named
  have hlocks := B9.notSynchronized
  subst hsz
  have hD := hD0.self (sz := s.heap.size)
  have hA : ∀ q : Nat, s.heap.size ≤ q → va_A w s.heap.size q := fun q h => Or.inr h
  generalize va_A w s.heap.size = A at hD hE hA ⊢
  have hS : va_S A s.heap s.heap [] := va_S.rf
  have hl := lv_entry ([.ref q0]) (n := 1) (Nat.le_of_ble_eq_true rfl)
  rw [lg_entry_eq]
  generalize (lg_sl ([.ref q0]) ++ List.replicate (1 - (lg_sl ([.ref q0])).length) Slot.unset).toArray = ls at hl ⊢
  have hl : lv_has ls 1 [(0, .ref q0)] := hl
  have hT0 := hls.1
  have hsz0 := hls.2.1
  have hn0 := hls.2.2.1
  refine lv_aload_n hx hb dJx4a65c_size_8abf5_0 rfl (lv_at hl 0 rfl) ?_
  refine p_get (v := .int (nI n)) (C := RJx4a65c) (Tc := TJx4a65c) (N := 3) (ci := 10) hx hb hq pin_wsJx4a65c0 hown hE hP hO (by rw [hT0]; decide) (rep_5 hT0) rfl 2 (by decide) (hq _ pw_17) (fun _ h9 => h9) (congrArg (fun z => some (Value.int z)) hsz0) dJx4a65c_size_8abf5_1 ?_
  have hO : OKP G h0 a F R Z B J K w := hO.to rfl
  exact W.iret (v := (nI n)) hx hb hr (fun t99 ht99 hW99 => ⟨⟨_, (w, ()), rfl, ⟨rfl, hO⟩, by rw [ht99]; exact hP, hD⟩, hS.F ht99⟩) hS.2.2 dJx4a65c_size_8abf5_4
theorem dJx4a65c_elementData_915e3_0 : decode cJx4a65c_elementData_915e3 0 = .ok (.aload_n 0, 1) := by decide +kernel
theorem dJx4a65c_elementData_915e3_1 : decode cJx4a65c_elementData_915e3 1 = .ok (.getfield 9, 3) := by decide +kernel
theorem dJx4a65c_elementData_915e3_4 : decode cJx4a65c_elementData_915e3 4 = .ok (.iload_n 1, 1) := by decide +kernel
theorem dJx4a65c_elementData_915e3_5 : decode cJx4a65c_elementData_915e3 5 = .ok (.aaload, 1) := by decide +kernel
theorem dJx4a65c_elementData_915e3_6 : decode cJx4a65c_elementData_915e3 6 = .ok (.areturn, 1) := by decide +kernel
set_option maxHeartbeats 2000000 in
set_option maxRecDepth 100000 in
theorem L_elem (l : Launch) (G : pT) (h0 : Nat) (a : Nat → Nat) (F : Nat → Int32) (R : Nat → Value) (Z : Int64) (B : Nat → Nat → Int32) (J : Nat → Nat → Int64) (K : PK) (w : va_W) (q0 : Nat) (es : Nat) (n : Nat) (it : Nat → Nat) (i9 : Nat) (hls : LsI G K q0 es n it) (hi9 : i9 < n) (hO : OKP G h0 a F R Z B J K w) : PM l G pX0 yJx4a65c_elementData_915e3 cJx4a65c_elementData_915e3 2 (some (.object "java/lang/Object")) ({ frames := 2, cells := 0, slots := 0, locals := 60 }) [.ref q0, .int (nI i9)] w (fun (v : Option Value) (u : va_W × (Unit)) => v = some (.ref (it i9)) ∧ (OKP G h0 a F R Z B J K u.1)) (fun u => u.1) := by
  intro sz
  refine Met.ofW (cc := cJx4a65c_elementData_915e3) (maxL := 2) (ret := (some (.object "java/lang/Object"))) (by decide) rfl ?_
  intro p e s m args below meth c s₁ B9 hml hv
  obtain ⟨rfl, hsz, hP, hD0, hE, hX⟩ := hv
  have hx := B9.exec
  have hb := B9.bytes
  have hr := B9.returns
  have hts := atoms_spec (ws := Cond.code yJx4a65c_elementData_915e3 cJx4a65c_elementData_915e3 2 (some (.object "java/lang/Object")) :: pw) B9.pre
  have hq : ∀ w ∈ pw, w.before _ s = true := fun w h => hts w (List.mem_cons_of_mem _ h)
  have hown : s.vm.findClass RJx4a65c = some m.cls := findClass_of_methodNamed B9.named
  have hlocks := B9.notSynchronized
  subst hsz
  have hD := hD0.self (sz := s.heap.size)
  have hA : ∀ q : Nat, s.heap.size ≤ q → va_A w s.heap.size q := fun q h => Or.inr h
  generalize va_A w s.heap.size = A at hD hE hA ⊢
  have hS : va_S A s.heap s.heap [] := va_S.rf
  have hl := lv_entry ([.ref q0, .int (nI i9)]) (n := 2) (Nat.le_of_ble_eq_true rfl)
  rw [lg_entry_eq]
  generalize (lg_sl ([.ref q0, .int (nI i9)]) ++ List.replicate (2 - (lg_sl ([.ref q0, .int (nI i9)])).length) Slot.unset).toArray = ls at hl ⊢
  have hl : lv_has ls 2 [(0, .ref q0), (1, .int (nI i9))] := hl
  have hT0 := hls.1
  have hsz0 := hls.2.1
  have hn0 := hls.2.2.1
  obtain ⟨e9, he1, he2, he3, he4, he5, he6⟩ := hls.at hi9
  refine lv_aload_n hx hb dJx4a65c_elementData_915e3_0 rfl (lv_at hl 0 rfl) ?_
  refine p_get (v := .ref e9) (C := RJx4a65c) (Tc := TJx4a65c) (N := 3) (ci := 10) hx hb hq pin_wsJx4a65c0 hown hE hP hO (by rw [hT0]; decide) (rep_5 hT0) rfl 1 (by decide) (hq _ pw_24) (fun _ h9 => h9) (congrArg (fun z => some (va_rf z)) he1) dJx4a65c_elementData_915e3_1 ?_
  refine lv_iload_n hx hb dJx4a65c_elementData_915e3_4 rfl (lv_at hl 1 rfl) ?_
  refine p_ald hx hb hE hP hO he2 (vp_in_nI (by omega) (by omega)) dJx4a65c_elementData_915e3_5 ?_
  rw [nI_clamp (show i9 < 2 ^ 31 by omega)]
  rw [he5]
  refine W.eq (g2 := F0 m 6 ls [.ref (it i9)]) rfl ?_
  have hO : OKP G h0 a F R Z B J K w := hO.to rfl
  exact W.aret (v := .ref (it i9)) hx hb hr (Or.inl ⟨_, rfl⟩) (Or.inr ⟨_, rfl⟩) (fun t99 ht99 hW99 => ⟨⟨_, (w, ()), rfl, ⟨rfl, hO⟩, by rw [ht99]; exact hP, hD⟩, hS.F ht99⟩) hS.2.2 dJx4a65c_elementData_915e3_6
theorem dJx4a65c_get_915e3_0 : decode cJx4a65c_get_915e3 0 = .ok (.iload_n 1, 1) := by decide +kernel
theorem dJx4a65c_get_915e3_1 : decode cJx4a65c_get_915e3 1 = .ok (.aload_n 0, 1) := by decide +kernel
theorem dJx4a65c_get_915e3_2 : decode cJx4a65c_get_915e3 2 = .ok (.getfield 48, 3) := by decide +kernel
theorem dJx4a65c_get_915e3_5 : decode cJx4a65c_get_915e3 5 = .ok (.invokestatic 118, 3) := by decide +kernel
theorem dJx4a65c_get_915e3_8 : decode cJx4a65c_get_915e3 8 = .ok (.pop, 1) := by decide +kernel
theorem dJx4a65c_get_915e3_9 : decode cJx4a65c_get_915e3 9 = .ok (.aload_n 0, 1) := by decide +kernel
theorem dJx4a65c_get_915e3_10 : decode cJx4a65c_get_915e3 10 = .ok (.iload_n 1, 1) := by decide +kernel
theorem dJx4a65c_get_915e3_11 : decode cJx4a65c_get_915e3 11 = .ok (.invokevirtual 123, 3) := by decide +kernel
theorem dJx4a65c_get_915e3_14 : decode cJx4a65c_get_915e3 14 = .ok (.areturn, 1) := by decide +kernel
theorem hS_J15_checkIndex_7cf53 : yJ15_checkIndex_7cf53.cls ≠ "java/lang/invoke/MethodHandle" ∧ yJ15_checkIndex_7cf53.cls ≠ "java/lang/invoke/VarHandle" ∧ (parseMethodDescriptor yJ15_checkIndex_7cf53.desc).map (fun d => d.parameters.length) = some 2 := by decide +kernel
theorem hV_Jx4a65c_elementData_915e3 : yJx4a65c_elementData_915e3.cls = RJx4a65c ∧ yJx4a65c_elementData_915e3.cls ≠ "java/lang/invoke/MethodHandle" ∧ yJx4a65c_elementData_915e3.cls ≠ "java/lang/invoke/VarHandle" ∧ (parseMethodDescriptor yJx4a65c_elementData_915e3.desc).map (fun d => d.parameters.length) = some 1 := by decide +kernel
set_option maxHeartbeats 2000000 in
set_option maxRecDepth 100000 in
theorem L_get (l : Launch) (G : pT) (h0 : Nat) (a : Nat → Nat) (F : Nat → Int32) (R : Nat → Value) (Z : Int64) (B : Nat → Nat → Int32) (J : Nat → Nat → Int64) (K : PK) (w : va_W) (q0 : Nat) (es : Nat) (n : Nat) (it : Nat → Nat) (i9 : Nat) (hls : LsI G K q0 es n it) (hi9 : i9 < n) (hO : OKP G h0 a F R Z B J K w) : PM l G pX0 yJx4a65c_get_915e3 cJx4a65c_get_915e3 2 (some (.object "java/lang/Object")) ({ frames := 4, cells := 0, slots := 0, locals := 103 }) [.ref q0, .int (nI i9)] w (fun (v : Option Value) (u : va_W × (Unit)) => v = some (.ref (it i9)) ∧ (OKP G h0 a F R Z B J K u.1)) (fun u => u.1) := by
  intro sz
  refine Met.ofW (cc := cJx4a65c_get_915e3) (maxL := 2) (ret := (some (.object "java/lang/Object"))) (by decide) rfl ?_
  intro p e s m args below meth c s₁ B9 hml hv
  obtain ⟨rfl, hsz, hP, hD0, hE, hX⟩ := hv
  have hx := B9.exec
  have hb := B9.bytes
  have hr := B9.returns
  have hts := atoms_spec (ws := Cond.code yJx4a65c_get_915e3 cJx4a65c_get_915e3 2 (some (.object "java/lang/Object")) :: pw) B9.pre
  have hq : ∀ w ∈ pw, w.before _ s = true := fun w h => hts w (List.mem_cons_of_mem _ h)
  have hown : s.vm.findClass RJx4a65c = some m.cls := findClass_of_methodNamed B9.named
  have hlocks := B9.notSynchronized
  subst hsz
  have hD := hD0.self (sz := s.heap.size)
  have hA : ∀ q : Nat, s.heap.size ≤ q → va_A w s.heap.size q := fun q h => Or.inr h
  generalize va_A w s.heap.size = A at hD hE hA ⊢
  have hS : va_S A s.heap s.heap [] := va_S.rf
  have hl := lv_entry ([.ref q0, .int (nI i9)]) (n := 2) (Nat.le_of_ble_eq_true rfl)
  rw [lg_entry_eq]
  generalize (lg_sl ([.ref q0, .int (nI i9)]) ++ List.replicate (2 - (lg_sl ([.ref q0, .int (nI i9)])).length) Slot.unset).toArray = ls at hl ⊢
  have hl : lv_has ls 2 [(0, .ref q0), (1, .int (nI i9))] := hl
  have hT0 := hls.1
  have hsz0 := hls.2.1
  have hn0 := hls.2.2.1
  refine lv_iload_n hx hb dJx4a65c_get_915e3_0 rfl (lv_at hl 1 rfl) ?_
  refine lv_aload_n hx hb dJx4a65c_get_915e3_1 rfl (lv_at hl 0 rfl) ?_
  refine p_get (v := .int (nI n)) (C := RJx4a65c) (Tc := TJx4a65c) (N := 3) (ci := 10) hx hb hq pin_wsJx4a65c0 hown hE hP hO (by rw [hT0]; decide) (rep_5 hT0) rfl 2 (by decide) (hq _ pw_17) (fun _ h9 => h9) (congrArg (fun z => some (Value.int z)) hsz0) dJx4a65c_get_915e3_2 ?_
  refine pc_SN (G := G) (As := [.int (nI i9), .int (nI n)]) (rest := []) hx hb hml hown hq hE hX pX0_al hP hS hA hl.1 (s_chk l G i9 n ⟨hi9, by omega⟩) (gS pw_26 pw_27 pw_28 pw_19) hS_J15_checkIndex_7cf53 rfl (Nat.le_of_ble_eq_true rfl) dJx4a65c_get_915e3_5 ⟨Nat.le_of_ble_eq_true rfl, Nat.le_of_ble_eq_true rfl⟩ ⟨Nat.le_of_ble_eq_true rfl, Nat.le_of_ble_eq_true rfl⟩ (fun v3 u1 H locs hw2 hP hS => ?_)
  obtain rfl : v3 = some (.int (nI i9)) := hw2
  refine W.widen (k := 0) (n := 0) (Nat.le_of_ble_eq_true rfl) (Nat.le_of_ble_eq_true rfl) ?_
  refine W.eq (g2 := F0 m 8 ls [.int (nI i9)]) rfl ?_
  refine lv_pop hx hb dJx4a65c_get_915e3_8 rfl ?_
  refine lv_aload_n hx hb dJx4a65c_get_915e3_9 rfl (lv_at hl 0 rfl) ?_
  refine lv_iload_n hx hb dJx4a65c_get_915e3_10 rfl (lv_at hl 1 rfl) ?_
  have hO : OKP G h0 a F R Z B J K w := hO.to rfl
  obtain ⟨qr7, hqr8⟩ := p_recv hO (by rw [hT0]; decide) (rep_5 hT0)
  refine pc_V0 (G := G) (As := [.int (nI i9)]) (rest := []) hx hb hml hown hq hE hX pX0_al hP hD hS hA hl.1 (L_elem l G h0 a F R Z B J K w q0 es n it i9 hls hi9 hO) (gV pw_29 pw_30 pw_31 pw_32 pw_23) hV_Jx4a65c_elementData_915e3 qr7 10 hqr8 rfl rfl rfl (Nat.le_of_ble_eq_true rfl) dJx4a65c_get_915e3_11 ⟨Nat.le_of_ble_eq_true rfl, Nat.le_of_ble_eq_true rfl⟩ ⟨Nat.le_of_ble_eq_true rfl, Nat.le_of_ble_eq_true rfl⟩ (fun v6 u4 H locs hw5 hP hD hS => ?_)
  obtain ⟨w, _⟩ := u4
  obtain ⟨hw5, hO⟩ := hw5
  obtain rfl : v6 = some (.ref (it i9)) := hw5
  have hO : OKP G h0 a F R Z B J K w := hO.to rfl
  refine W.widen (k := 0) (n := 0) (Nat.le_of_ble_eq_true rfl) (Nat.le_of_ble_eq_true rfl) ?_
  refine W.eq (g2 := F0 m 14 ls [.ref (it i9)]) rfl ?_
  have hO : OKP G h0 a F R Z B J K w := hO.to rfl
  exact W.aret (v := .ref (it i9)) hx hb hr (Or.inl ⟨_, rfl⟩) (Or.inr ⟨_, rfl⟩) (fun t99 ht99 hW99 => ⟨⟨_, (w, ()), rfl, ⟨rfl, hO⟩, by rw [ht99]; exact hP, hD⟩, hS.F ht99⟩) hS.2.2 dJx4a65c_get_915e3_14
