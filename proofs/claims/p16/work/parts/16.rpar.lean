/-- an implication that arithmetic does not look into -/
def If (p q : Prop) : Prop := p → q
/-- a token that is neither the end nor bad lies ahead of the last one -/
theorem tk_lt {K : Nat → Int32} {at0 T : Nat} {x : Int32} (h : at0 ≤ T) (hk : K T = 0 ∨ K T = 3) (e : K at0 = x) (h0 : ¬ x = 0) (h3 : ¬ x = 3) : at0 < T :=
  Nat.lt_of_le_of_ne h (fun q => by
    rw [← q] at hk
    exact hk.elim (fun z => h0 (e.symm.trans z)) (fun z => h3 (e.symm.trans z)))
/-- a row of tokens' places -/
def tkRow (y : Nat → Int32) (n T : Nat) : Prop := ∀ i : Nat, i < n → ∃ j : Nat, j ≤ T ∧ y i = nI j
theorem tkRow_up {y : Nat → Int32} {n T j : Nat} (h : tkRow y n T) (hj : j ≤ T) : tkRow (upd y n (nI j)) (n + 1) T := fun i hi => by
  unfold upd
  by_cases e : i = n
  · rw [if_pos e]; exact ⟨j, hj, rfl⟩
  · rw [if_neg e]; exact h i (by omega)
theorem upd_lt {y : Nat → Int32} {n : Nat} {v : Int32} : ∀ i : Nat, i < n → upd y n v i = y i := fun i hi => by
  unfold upd
  rw [if_neg (by omega)]
theorem nI_nar {r : Nat} (h : r ≤ 1) : narrow .boolean (.int (nI r)) = .int (nI r) := by
  rcases (show r = 0 ∨ r = 1 by omega) with e | e <;> rw [e] <;> rfl
theorem dX12_kind_0 : decode cX12_kind 0 = .ok (.aload_n 0, 1) := by decide +kernel
theorem dX12_kind_1 : decode cX12_kind 1 = .ok (.getfield 16, 3) := by decide +kernel
theorem dX12_kind_4 : decode cX12_kind 4 = .ok (.aload_n 0, 1) := by decide +kernel
theorem dX12_kind_5 : decode cX12_kind 5 = .ok (.getfield 343, 3) := by decide +kernel
theorem dX12_kind_8 : decode cX12_kind 8 = .ok (.iaload, 1) := by decide +kernel
theorem dX12_kind_9 : decode cX12_kind 9 = .ok (.ireturn, 1) := by decide +kernel
set_option maxHeartbeats 2000000 in
set_option maxRecDepth 100000 in
/-- kind() -/
theorem R_kind (l : Launch) (G : pT) (h0 : Nat) (a : Nat → Nat) (F : Nat → Int32) (B : Nat → Nat → Int32) (at0 : Nat) (T : Nat) (fa : Nat) (K : Nat → Int32) (hat : at0 ≤ T) (hT : T ≤ 5000) (hK : K T = 0 ∨ K T = 3) (hfa : fa ≤ 100) : PM l G pX0 yX12_kind cX12_kind 1 (some .int) ({ frames := 2, cells := 0, slots := 0, locals := 60 }) [.ref h0] (mW G h0 a (upd (upd F 15 (nI fa)) 64 (nI at0)) (updA B 2 K)) (fun (v : Option Value) (u : Unit) => v = some (.int (K at0))) (fun u => (mW G h0 a (upd (upd F 15 (nI fa)) 64 (nI at0)) (updA B 2 K))) := by
  intro sz
  refine Met.ofW (cc := cX12_kind) (maxL := 1) (ret := (some .int)) (by decide) rfl ?_
  intro p e s m args below meth c s₁ B9 hml hv
  obtain ⟨rfl, hsz, hP, hD0, hE, hX⟩ := hv
  have hx := B9.exec
  have hb := B9.bytes
  have hr := B9.returns
  have hts := atoms_spec (ws := Cond.code yX12_kind cX12_kind 1 (some .int) :: pw) B9.pre
  have hq : ∀ w ∈ pw, w.before _ s = true := fun w h => hts w (List.mem_cons_of_mem _ h)
  have hown : s.vm.findClass RX12 = some m.cls := findClass_of_methodNamed B9.named
  have hlocks := B9.notSynchronized
  subst hsz
  have hD := hD0.self (sz := s.heap.size)
  have hA : ∀ q : Nat, s.heap.size ≤ q → va_A (mW G h0 a (upd (upd F 15 (nI fa)) 64 (nI at0)) (updA B 2 K)) s.heap.size q := fun q h => Or.inr h
  have hP : va_P G.1 pCl (mW G h0 a (upd (upd F 15 (nI fa)) 64 (nI at0)) (updA B 2 K)) s.heap := hP
  generalize va_A (mW G h0 a (upd (upd F 15 (nI fa)) 64 (nI at0)) (updA B 2 K)) s.heap.size = A at hD hE hA ⊢
  have hS : va_S A s.heap s.heap [] := va_S.rf
  have hl := lv_entry ([.ref h0]) (n := 1) (Nat.le_of_ble_eq_true rfl)
  rw [lg_entry_eq]
  generalize (lg_sl ([.ref h0]) ++ List.replicate (1 - (lg_sl ([.ref h0])).length) Slot.unset).toArray = ls at hl ⊢
  have hl : lv_has ls 1 [(0, .ref h0)] := hl
  refine lv_aload_n hx hb dX12_kind_0 rfl (lv_at hl 0 rfl) ?_
  refine r_get (v := .ref (a 2)) hx hb hown hq hE hP 5 16 tFX12_5 (by decide) pw_1432 rfl dX12_kind_1 ?_
  refine lv_aload_n hx hb dX12_kind_4 rfl (lv_at hl 0 rfl) ?_
  refine r_get (v := .int (nI at0)) hx hb hown hq hE hP 64 343 tFX12_64 (by decide) pw_1592 rfl dX12_kind_5 ?_
  refine r_ldi (f := K) (j := at0) hx hb hE hP 2 (ma_2 G a _) rfl (by omega) (by decide) dX12_kind_8 ?_
  have hP : va_P G.1 pCl (mW G h0 a (upd (upd F 15 (nI fa)) 64 (nI at0)) (updA B 2 K)) _ := hP
  have hD : va_D A (mW G h0 a (upd (upd F 15 (nI fa)) 64 (nI at0)) (updA B 2 K)) := mW_D hD
  exact W.iret (v := (K at0)) hx hb hr (fun t9 ht9 hW9 => ⟨⟨_, (), rfl, rfl, by rw [ht9]; exact hP, hD⟩, hS.F ht9⟩) hS.2.2 dX12_kind_9
theorem dX12_badAt_0 : decode cX12_badAt 0 = .ok (.aload_n 0, 1) := by decide +kernel
theorem dX12_badAt_1 : decode cX12_badAt 1 = .ok (.getfield 350, 3) := by decide +kernel
theorem dX12_badAt_4 : decode cX12_badAt 4 = .ok (.ifCond .ne 18, 3) := by decide +kernel
theorem dX12_badAt_22 : decode cX12_badAt 22 = .ok (.return_, 1) := by decide +kernel
theorem dX12_badAt_7 : decode cX12_badAt 7 = .ok (.aload_n 0, 1) := by decide +kernel
theorem dX12_badAt_8 : decode cX12_badAt 8 = .ok (.iload_n 1, 1) := by decide +kernel
theorem dX12_badAt_9 : decode cX12_badAt 9 = .ok (.putfield 350, 3) := by decide +kernel
theorem dX12_badAt_12 : decode cX12_badAt 12 = .ok (.aload_n 0, 1) := by decide +kernel
theorem dX12_badAt_13 : decode cX12_badAt 13 = .ok (.aload_n 0, 1) := by decide +kernel
theorem dX12_badAt_14 : decode cX12_badAt 14 = .ok (.getfield 19, 3) := by decide +kernel
theorem dX12_badAt_17 : decode cX12_badAt 17 = .ok (.iload_n 2, 1) := by decide +kernel
theorem dX12_badAt_18 : decode cX12_badAt 18 = .ok (.iaload, 1) := by decide +kernel
theorem dX12_badAt_19 : decode cX12_badAt 19 = .ok (.putfield 353, 3) := by decide +kernel
set_option maxHeartbeats 2000000 in
set_option maxRecDepth 100000 in
/-- badAt(what, token) -/
theorem R_badAt (l : Launch) (G : pT) (h0 : Nat) (a : Nat → Nat) (F : Nat → Int32) (B : Nat → Nat → Int32) (x : Nat) (i : Nat) (fa : Nat) (hi : i ≤ 5000) (hfa : fa ≤ 100) (hx : 0 < x) : PM l G pX0 yX12_badAt cX12_badAt 3 none ({ frames := 2, cells := 0, slots := 0, locals := 60 }) [.ref h0, .int (nI x), .int (nI i)] (mW G h0 a (upd F 15 (nI fa)) B) (fun (v : Option Value) (u : Nat × Int32) => v = none ∧ (fa ≤ u.1) ∧ (u.1 ≤ fa + x) ∧ (0 < u.1) ∧ (If (0 < fa) (u.1 = fa))) (fun u => (mW G h0 a (upd (upd F 15 (nI u.1)) 16 u.2) B)) := by
  intro sz
  refine Met.ofW (cc := cX12_badAt) (maxL := 3) (ret := none) (by decide) rfl ?_
  intro p e s m args below meth c s₁ B9 hml hv
  obtain ⟨rfl, hsz, hP, hD0, hE, hX⟩ := hv
  have hx := B9.exec
  have hb := B9.bytes
  have hr := B9.returns
  have hts := atoms_spec (ws := Cond.code yX12_badAt cX12_badAt 3 none :: pw) B9.pre
  have hq : ∀ w ∈ pw, w.before _ s = true := fun w h => hts w (List.mem_cons_of_mem _ h)
  have hown : s.vm.findClass RX12 = some m.cls := findClass_of_methodNamed B9.named
  have hlocks := B9.notSynchronized
  subst hsz
  have hD := hD0.self (sz := s.heap.size)
  have hA : ∀ q : Nat, s.heap.size ≤ q → va_A (mW G h0 a (upd F 15 (nI fa)) B) s.heap.size q := fun q h => Or.inr h
  have hP : va_P G.1 pCl (mW G h0 a (upd F 15 (nI fa)) B) s.heap := hP
  generalize va_A (mW G h0 a (upd F 15 (nI fa)) B) s.heap.size = A at hD hE hA ⊢
  have hS : va_S A s.heap s.heap [] := va_S.rf
  have hl := lv_entry ([.ref h0, .int (nI x), .int (nI i)]) (n := 3) (Nat.le_of_ble_eq_true rfl)
  rw [lg_entry_eq]
  generalize (lg_sl ([.ref h0, .int (nI x), .int (nI i)]) ++ List.replicate (3 - (lg_sl ([.ref h0, .int (nI x), .int (nI i)])).length) Slot.unset).toArray = ls at hl ⊢
  have hl : lv_has ls 3 [(0, .ref h0), (1, .int (nI x)), (2, .int (nI i))] := hl
  refine lv_aload_n hx hb dX12_badAt_0 rfl (lv_at hl 0 rfl) ?_
  refine r_get (v := .int (nI fa)) hx hb hown hq hE hP 15 350 tFX12_15 (by decide) pw_1594 rfl dX12_badAt_1 ?_
  refine lv_if_ne (tgt := 22) hx hb dX12_badAt_4 (by decide) (fun c1 => ?_) (fun c1 => ?_)
  · have n2 : ¬ (fa = 0) := fun h9 => c1 ((nI_eq (a := fa) (b := 0) (by omega) (by omega)).mpr h9)
    have hz3 : fa ≤ fa := (by omega)
    have hz4 : fa ≤ fa + x := (by omega)
    have hz5 : 0 < fa := (by omega)
    have hz6 : If (0 < fa) (fa = fa) := (fun h9 => by omega)
    have hP : va_P G.1 pCl (mW G h0 a (upd (upd F 15 (nI fa)) 16 (F 16)) B) _ := mW_to (F := F) (l1 := [(15, (nI fa))]) (l2 := [(15, (nI fa)), (16, (F 16))]) (V := [(nI fa), (nI fa), (F 16)]) rfl rfl rfl hP
    have hD : va_D A (mW G h0 a (upd (upd F 15 (nI fa)) 16 (F 16)) B) := mW_D hD
    exact W.vret hx hb hr (fun t9 ht9 hW9 => ⟨⟨_, (fa, (F 16)), rfl, ⟨rfl, hz3, hz4, hz5, hz6⟩, by rw [ht9]; exact hP, hD⟩, hS.F ht9⟩) hS.2.2 dX12_badAt_22
  · have n7 : fa = 0 := (nI_eq (a := fa) (b := 0) (by omega) (by omega)).mp c1
    refine lv_aload_n hx hb dX12_badAt_7 rfl (lv_at hl 0 rfl) ?_
    refine lv_iload_n hx hb dX12_badAt_8 rfl (lv_at hl 1 rfl) ?_
    refine r_put (v := (nI x)) (ty := .int) hx hb hown hq hE hP hD hS 15 350 tFX12_15 (by decide) pw_1594 (by decide) rfl rfl (ms_15 a _ _) dX12_badAt_9 (fun H locs hP hD hS => ?_)
    refine lv_aload_n hx hb dX12_badAt_12 rfl (lv_at hl 0 rfl) ?_
    refine lv_aload_n hx hb dX12_badAt_13 rfl (lv_at hl 0 rfl) ?_
    refine r_get (v := .ref (a 3)) hx hb hown hq hE hP 6 19 tFX12_6 (by decide) pw_1433 rfl dX12_badAt_14 ?_
    refine lv_iload_n hx hb dX12_badAt_17 rfl (lv_at hl 2 rfl) ?_
    refine r_ldi (f := (B 3)) (j := i) hx hb hE hP 3 (ma_3 G a _) rfl (by omega) (by decide) dX12_badAt_18 ?_
    refine lv_topi (fun x8 e9 => ?_)
    refine r_put (v := x8) (ty := .int) hx hb hown hq hE hP hD hS 16 353 tFX12_16 (by decide) pw_1595 (by decide) rfl rfl (ms_16 a _ _) dX12_badAt_19 (fun H locs hP hD hS => ?_)
    have hz10 : fa ≤ x := (by omega)
    have hz11 : x ≤ fa + x := (by omega)
    have hz12 : 0 < x := (by omega)
    have hz13 : If (0 < fa) (x = fa) := (fun h9 => by omega)
    have hP : va_P G.1 pCl (mW G h0 a (upd (upd F 15 (nI x)) 16 x8) B) _ := mW_to (F := F) (l1 := [(15, (nI fa)), (15, (nI x)), (16, x8)]) (l2 := [(15, (nI x)), (16, x8)]) (V := [(nI x), (nI x), x8, (nI x), x8]) rfl rfl rfl hP
    have hD : va_D A (mW G h0 a (upd (upd F 15 (nI x)) 16 x8) B) := mW_D hD
    exact W.vret hx hb hr (fun t9 ht9 hW9 => ⟨⟨_, (x, x8), rfl, ⟨rfl, hz10, hz11, hz12, hz13⟩, by rw [ht9]; exact hP, hD⟩, hS.F ht9⟩) hS.2.2 dX12_badAt_22
theorem dX12_bad_0 : decode cX12_bad 0 = .ok (.aload_n 0, 1) := by decide +kernel
theorem dX12_bad_1 : decode cX12_bad 1 = .ok (.iload_n 1, 1) := by decide +kernel
theorem dX12_bad_2 : decode cX12_bad 2 = .ok (.aload_n 0, 1) := by decide +kernel
theorem dX12_bad_3 : decode cX12_bad 3 = .ok (.getfield 343, 3) := by decide +kernel
theorem dX12_bad_6 : decode cX12_bad 6 = .ok (.invokevirtual 346, 3) := by decide +kernel
theorem dX12_bad_9 : decode cX12_bad 9 = .ok (.return_, 1) := by decide +kernel
theorem hV_X12_badAt : yX12_badAt.cls = RX12 ∧ yX12_badAt.cls ≠ "java/lang/invoke/MethodHandle" ∧ yX12_badAt.cls ≠ "java/lang/invoke/VarHandle" ∧ (parseMethodDescriptor yX12_badAt.desc).map (fun d => d.parameters.length) = some 2 := by decide +kernel
set_option maxHeartbeats 2000000 in
set_option maxRecDepth 100000 in
/-- bad(what) -/
theorem R_bad (l : Launch) (G : pT) (h0 : Nat) (a : Nat → Nat) (F : Nat → Int32) (B : Nat → Nat → Int32) (at0 : Nat) (T : Nat) (fa : Nat) (K : Nat → Int32) (x : Nat) (hat : at0 ≤ T) (hT : T ≤ 5000) (hK : K T = 0 ∨ K T = 3) (hfa : fa ≤ 100) (hx : 0 < x) (hx9 : x ≤ 100) : PM l G pX0 yX12_bad cX12_bad 2 none ({ frames := 3, cells := 0, slots := 0, locals := 82 }) [.ref h0, .int (nI x)] (mW G h0 a (upd (upd F 15 (nI fa)) 64 (nI at0)) (updA B 2 K)) (fun (v : Option Value) (u : Nat × Int32) => v = none ∧ (fa ≤ u.1) ∧ (u.1 ≤ fa + x) ∧ (0 < u.1) ∧ (If (0 < fa) (u.1 = fa))) (fun u => (mW G h0 a (upd (upd (upd F 15 (nI u.1)) 16 u.2) 64 (nI at0)) (updA B 2 K))) := by
  intro sz
  refine Met.ofW (cc := cX12_bad) (maxL := 2) (ret := none) (by decide) rfl ?_
  intro p e s m args below meth c s₁ B9 hml hv
  obtain ⟨rfl, hsz, hP, hD0, hE, hX⟩ := hv
  have hx := B9.exec
  have hb := B9.bytes
  have hr := B9.returns
  have hts := atoms_spec (ws := Cond.code yX12_bad cX12_bad 2 none :: pw) B9.pre
  have hq : ∀ w ∈ pw, w.before _ s = true := fun w h => hts w (List.mem_cons_of_mem _ h)
  have hown : s.vm.findClass RX12 = some m.cls := findClass_of_methodNamed B9.named
  have hlocks := B9.notSynchronized
  subst hsz
  have hD := hD0.self (sz := s.heap.size)
  have hA : ∀ q : Nat, s.heap.size ≤ q → va_A (mW G h0 a (upd (upd F 15 (nI fa)) 64 (nI at0)) (updA B 2 K)) s.heap.size q := fun q h => Or.inr h
  have hP : va_P G.1 pCl (mW G h0 a (upd (upd F 15 (nI fa)) 64 (nI at0)) (updA B 2 K)) s.heap := hP
  generalize va_A (mW G h0 a (upd (upd F 15 (nI fa)) 64 (nI at0)) (updA B 2 K)) s.heap.size = A at hD hE hA ⊢
  have hS : va_S A s.heap s.heap [] := va_S.rf
  have hl := lv_entry ([.ref h0, .int (nI x)]) (n := 2) (Nat.le_of_ble_eq_true rfl)
  rw [lg_entry_eq]
  generalize (lg_sl ([.ref h0, .int (nI x)]) ++ List.replicate (2 - (lg_sl ([.ref h0, .int (nI x)])).length) Slot.unset).toArray = ls at hl ⊢
  have hl : lv_has ls 2 [(0, .ref h0), (1, .int (nI x))] := hl
  refine lv_aload_n hx hb dX12_bad_0 rfl (lv_at hl 0 rfl) ?_
  refine lv_iload_n hx hb dX12_bad_1 rfl (lv_at hl 1 rfl) ?_
  refine lv_aload_n hx hb dX12_bad_2 rfl (lv_at hl 0 rfl) ?_
  refine r_get (v := .int (nI at0)) hx hb hown hq hE hP 64 343 tFX12_64 (by decide) pw_1592 rfl dX12_bad_3 ?_
  have hP : va_P G.1 pCl (mW G h0 a (upd (upd (upd F 15 (nI fa)) 64 (nI at0)) 15 (nI fa)) (updA B 2 K)) _ := mW_to (F := F) (l1 := [(15, (nI fa)), (64, (nI at0))]) (l2 := [(15, (nI fa)), (64, (nI at0)), (15, (nI fa))]) (V := [(nI fa), (nI at0), (nI fa), (nI at0), (nI fa)]) rfl rfl rfl hP
  have hD : va_D A (mW G h0 a (upd (upd (upd F 15 (nI fa)) 64 (nI at0)) 15 (nI fa)) (updA B 2 K)) := mW_D hD
  refine pc_V0 (G := G) (As := [.int (nI x), .int (nI at0)]) (rest := []) hx hb hml hown hq hE hX pX0_al hP hD hS hA hl.1 (R_badAt l G h0 a (upd (upd F 15 (nI fa)) 64 (nI at0)) (updA B 2 K) x at0 fa (by omega) (by omega) (by omega)) (gV pw_1597 pw_1598 pw_1599 pw_1523 pw_1593) hV_X12_badAt 0 9 rfl rfl rfl rfl (Nat.le_of_ble_eq_true rfl) dX12_bad_6 ⟨Nat.le_of_ble_eq_true rfl, Nat.le_of_ble_eq_true rfl⟩ ⟨Nat.le_of_ble_eq_true rfl, Nat.le_of_ble_eq_true rfl⟩ (fun v3 u1 H locs hw2 hP hD hS => ?_)
  obtain ⟨fa4, pl5⟩ := u1
  obtain ⟨hw2, h6, h7, h8, h9⟩ := hw2
  have h6 : fa ≤ fa4 := h6
  have h7 : fa4 ≤ fa + x := h7
  have h8 : 0 < fa4 := h8
  have h9 : If (0 < fa) (fa4 = fa) := h9
  obtain rfl : v3 = none := hw2
  have hP : va_P G.1 pCl (mW G h0 a (upd (upd (upd F 15 (nI fa4)) 16 pl5) 64 (nI at0)) (updA B 2 K)) _ := mW_to (F := F) (l1 := [(15, (nI fa)), (64, (nI at0)), (15, (nI fa4)), (16, pl5)]) (l2 := [(15, (nI fa4)), (16, pl5), (64, (nI at0))]) (V := [(nI fa4), (nI at0), (nI fa4), pl5, (nI fa4), pl5, (nI at0)]) rfl rfl rfl hP
  have hD : va_D A (mW G h0 a (upd (upd (upd F 15 (nI fa4)) 16 pl5) 64 (nI at0)) (updA B 2 K)) := mW_D hD
  refine W.widen (k := 0) (n := 0) (Nat.le_of_ble_eq_true rfl) (Nat.le_of_ble_eq_true rfl) ?_
  refine W.eq (g2 := F0 m 9 ls []) rfl ?_
  have hz10 : fa ≤ fa4 := (by omega)
  have hz11 : fa4 ≤ fa + x := (by omega)
  have hz12 : 0 < fa4 := (by omega)
  have hz13 : If (0 < fa) (fa4 = fa) := h9
  have hP : va_P G.1 pCl (mW G h0 a (upd (upd (upd F 15 (nI fa4)) 16 pl5) 64 (nI at0)) (updA B 2 K)) _ := hP
  have hD : va_D A (mW G h0 a (upd (upd (upd F 15 (nI fa4)) 16 pl5) 64 (nI at0)) (updA B 2 K)) := mW_D hD
  exact W.vret hx hb hr (fun t9 ht9 hW9 => ⟨⟨_, (fa4, pl5), rfl, ⟨rfl, hz10, hz11, hz12, hz13⟩, by rw [ht9]; exact hP, hD⟩, hS.F ht9⟩) hS.2.2 dX12_bad_9
theorem dX12_is_0 : decode cX12_is 0 = .ok (.aload_n 0, 1) := by decide +kernel
theorem dX12_is_1 : decode cX12_is 1 = .ok (.getfield 350, 3) := by decide +kernel
theorem dX12_is_4 : decode cX12_is 4 = .ok (.ifCond .ne 20, 3) := by decide +kernel
theorem dX12_is_24 : decode cX12_is 24 = .ok (.iconst 0, 1) := by decide +kernel
theorem dX12_is_25 : decode cX12_is 25 = .ok (.ireturn, 1) := by decide +kernel
theorem dX12_is_7 : decode cX12_is 7 = .ok (.aload_n 0, 1) := by decide +kernel
theorem dX12_is_8 : decode cX12_is 8 = .ok (.getfield 16, 3) := by decide +kernel
theorem dX12_is_11 : decode cX12_is 11 = .ok (.aload_n 0, 1) := by decide +kernel
theorem dX12_is_12 : decode cX12_is 12 = .ok (.getfield 343, 3) := by decide +kernel
theorem dX12_is_15 : decode cX12_is 15 = .ok (.iaload, 1) := by decide +kernel
theorem dX12_is_16 : decode cX12_is 16 = .ok (.iload_n 1, 1) := by decide +kernel
theorem dX12_is_17 : decode cX12_is 17 = .ok (.if_icmp .ne 7, 3) := by decide +kernel
theorem dX12_is_20 : decode cX12_is 20 = .ok (.iconst 1, 1) := by decide +kernel
theorem dX12_is_21 : decode cX12_is 21 = .ok (.goto 4, 3) := by decide +kernel
set_option maxHeartbeats 2000000 in
set_option maxRecDepth 100000 in
/-- is(kind) -/
theorem R_is (l : Launch) (G : pT) (h0 : Nat) (a : Nat → Nat) (F : Nat → Int32) (B : Nat → Nat → Int32) (at0 : Nat) (T : Nat) (fa : Nat) (K : Nat → Int32) (x : Int32) (hat : at0 ≤ T) (hT : T ≤ 5000) (hK : K T = 0 ∨ K T = 3) (hfa : fa ≤ 100) : PM l G pX0 yX12_is cX12_is 2 (some .boolean) ({ frames := 2, cells := 0, slots := 0, locals := 60 }) [.ref h0, .int x] (mW G h0 a (upd (upd F 15 (nI fa)) 64 (nI at0)) (updA B 2 K)) (fun (v : Option Value) (u : Nat) => v = some (.int (nI u)) ∧ (u ≤ 1) ∧ (fa + 100 * u ≤ 100) ∧ (If (u = 1) (K at0 = x)) ∧ (If (u = 0) (fa = 0 → ¬ K at0 = x))) (fun u => (mW G h0 a (upd (upd F 15 (nI fa)) 64 (nI at0)) (updA B 2 K))) := by
  intro sz
  refine Met.ofW (cc := cX12_is) (maxL := 2) (ret := (some .boolean)) (by decide) rfl ?_
  intro p e s m args below meth c s₁ B9 hml hv
  obtain ⟨rfl, hsz, hP, hD0, hE, hX⟩ := hv
  have hx := B9.exec
  have hb := B9.bytes
  have hr := B9.returns
  have hts := atoms_spec (ws := Cond.code yX12_is cX12_is 2 (some .boolean) :: pw) B9.pre
  have hq : ∀ w ∈ pw, w.before _ s = true := fun w h => hts w (List.mem_cons_of_mem _ h)
  have hown : s.vm.findClass RX12 = some m.cls := findClass_of_methodNamed B9.named
  have hlocks := B9.notSynchronized
  subst hsz
  have hD := hD0.self (sz := s.heap.size)
  have hA : ∀ q : Nat, s.heap.size ≤ q → va_A (mW G h0 a (upd (upd F 15 (nI fa)) 64 (nI at0)) (updA B 2 K)) s.heap.size q := fun q h => Or.inr h
  have hP : va_P G.1 pCl (mW G h0 a (upd (upd F 15 (nI fa)) 64 (nI at0)) (updA B 2 K)) s.heap := hP
  generalize va_A (mW G h0 a (upd (upd F 15 (nI fa)) 64 (nI at0)) (updA B 2 K)) s.heap.size = A at hD hE hA ⊢
  have hS : va_S A s.heap s.heap [] := va_S.rf
  have hl := lv_entry ([.ref h0, .int x]) (n := 2) (Nat.le_of_ble_eq_true rfl)
  rw [lg_entry_eq]
  generalize (lg_sl ([.ref h0, .int x]) ++ List.replicate (2 - (lg_sl ([.ref h0, .int x])).length) Slot.unset).toArray = ls at hl ⊢
  have hl : lv_has ls 2 [(0, .ref h0), (1, .int x)] := hl
  refine lv_aload_n hx hb dX12_is_0 rfl (lv_at hl 0 rfl) ?_
  refine r_get (v := .int (nI fa)) hx hb hown hq hE hP 15 350 tFX12_15 (by decide) pw_1594 rfl dX12_is_1 ?_
  refine lv_if_ne (tgt := 24) hx hb dX12_is_4 (by decide) (fun c1 => ?_) (fun c1 => ?_)
  · have n2 : ¬ (fa = 0) := fun h9 => c1 ((nI_eq (a := fa) (b := 0) (by omega) (by omega)).mpr h9)
    refine lv_iconst (v := 0) hx hb dX12_is_24 (by decide) ?_
    have hz3 : 0 ≤ 1 := (by omega)
    have hz4 : fa + 100 * 0 ≤ 100 := (by omega)
    have hz5 : If (0 = 1) (K at0 = x) := (fun e => absurd e (by decide))
    have hz6 : If (0 = 0) (fa = 0 → ¬ K at0 = x) := (fun _ e => by omega)
    have hP : va_P G.1 pCl (mW G h0 a (upd (upd F 15 (nI fa)) 64 (nI at0)) (updA B 2 K)) _ := hP
    have hD : va_D A (mW G h0 a (upd (upd F 15 (nI fa)) 64 (nI at0)) (updA B 2 K)) := mW_D hD
    exact W.zret (v := 0) hx hb hr rfl (fun t9 ht9 hW9 => ⟨⟨_, 0, rfl, ⟨rfl, hz3, hz4, hz5, hz6⟩, by rw [ht9]; exact hP, hD⟩, hS.F ht9⟩) hS.2.2 dX12_is_25
  · have n7 : fa = 0 := (nI_eq (a := fa) (b := 0) (by omega) (by omega)).mp c1
    refine lv_aload_n hx hb dX12_is_7 rfl (lv_at hl 0 rfl) ?_
    refine r_get (v := .ref (a 2)) hx hb hown hq hE hP 5 16 tFX12_5 (by decide) pw_1432 rfl dX12_is_8 ?_
    refine lv_aload_n hx hb dX12_is_11 rfl (lv_at hl 0 rfl) ?_
    refine r_get (v := .int (nI at0)) hx hb hown hq hE hP 64 343 tFX12_64 (by decide) pw_1592 rfl dX12_is_12 ?_
    refine r_ldi (f := K) (j := at0) hx hb hE hP 2 (ma_2 G a _) rfl (by omega) (by decide) dX12_is_15 ?_
    refine lv_iload_n hx hb dX12_is_16 rfl (lv_at hl 1 rfl) ?_
    refine lv_icmp_ne (tgt := 24) hx hb dX12_is_17 (by decide) (fun c8 => ?_) (fun c8 => ?_)
    · refine lv_iconst (v := 0) hx hb dX12_is_24 (by decide) ?_
      have hz9 : 0 ≤ 1 := (by omega)
      have hz10 : fa + 100 * 0 ≤ 100 := (by omega)
      have hz11 : If (0 = 1) (K at0 = x) := (fun e => absurd e (by decide))
      have hz12 : If (0 = 0) (fa = 0 → ¬ K at0 = x) := (fun _ e => c8)
      have hP : va_P G.1 pCl (mW G h0 a (upd (upd F 15 (nI fa)) 64 (nI at0)) (updA B 2 K)) _ := hP
      have hD : va_D A (mW G h0 a (upd (upd F 15 (nI fa)) 64 (nI at0)) (updA B 2 K)) := mW_D hD
      exact W.zret (v := 0) hx hb hr rfl (fun t9 ht9 hW9 => ⟨⟨_, 0, rfl, ⟨rfl, hz9, hz10, hz11, hz12⟩, by rw [ht9]; exact hP, hD⟩, hS.F ht9⟩) hS.2.2 dX12_is_25
    · refine lv_iconst (v := 1) hx hb dX12_is_20 (by decide) ?_
      refine lv_goto (tgt := 25) hx hb dX12_is_21 (by decide) ?_
      have hz13 : 1 ≤ 1 := (by omega)
      have hz14 : fa + 100 * 1 ≤ 100 := (by omega)
      have hz15 : If (1 = 1) (K at0 = x) := (fun _ => c8)
      have hz16 : If (1 = 0) (fa = 0 → ¬ K at0 = x) := (fun e => absurd e (by decide))
      have hP : va_P G.1 pCl (mW G h0 a (upd (upd F 15 (nI fa)) 64 (nI at0)) (updA B 2 K)) _ := hP
      have hD : va_D A (mW G h0 a (upd (upd F 15 (nI fa)) 64 (nI at0)) (updA B 2 K)) := mW_D hD
      exact W.zret (v := 1) hx hb hr rfl (fun t9 ht9 hW9 => ⟨⟨_, 1, rfl, ⟨rfl, hz13, hz14, hz15, hz16⟩, by rw [ht9]; exact hP, hD⟩, hS.F ht9⟩) hS.2.2 dX12_is_25
theorem dX12_take_0 : decode cX12_take 0 = .ok (.aload_n 0, 1) := by decide +kernel
theorem dX12_take_1 : decode cX12_take 1 = .ok (.getfield 350, 3) := by decide +kernel
theorem dX12_take_4 : decode cX12_take 4 = .ok (.ifCond .le 4, 3) := by decide +kernel
theorem dX12_take_8 : decode cX12_take 8 = .ok (.aload_n 0, 1) := by decide +kernel
theorem dX12_take_9 : decode cX12_take 9 = .ok (.getfield 16, 3) := by decide +kernel
theorem dX12_take_12 : decode cX12_take 12 = .ok (.aload_n 0, 1) := by decide +kernel
theorem dX12_take_13 : decode cX12_take 13 = .ok (.getfield 343, 3) := by decide +kernel
theorem dX12_take_16 : decode cX12_take 16 = .ok (.iaload, 1) := by decide +kernel
theorem dX12_take_17 : decode cX12_take 17 = .ok (.iload_n 1, 1) := by decide +kernel
theorem dX12_take_18 : decode cX12_take 18 = .ok (.if_icmp .eq 9, 3) := by decide +kernel
theorem dX12_take_27 : decode cX12_take 27 = .ok (.aload_n 0, 1) := by decide +kernel
theorem dX12_take_28 : decode cX12_take 28 = .ok (.dup, 1) := by decide +kernel
theorem dX12_take_29 : decode cX12_take 29 = .ok (.getfield 343, 3) := by decide +kernel
theorem dX12_take_32 : decode cX12_take 32 = .ok (.iconst 1, 1) := by decide +kernel
theorem dX12_take_33 : decode cX12_take 33 = .ok (.iadd, 1) := by decide +kernel
theorem dX12_take_34 : decode cX12_take 34 = .ok (.putfield 343, 3) := by decide +kernel
theorem dX12_take_37 : decode cX12_take 37 = .ok (.return_, 1) := by decide +kernel
theorem dX12_take_21 : decode cX12_take 21 = .ok (.aload_n 0, 1) := by decide +kernel
theorem dX12_take_22 : decode cX12_take 22 = .ok (.iconst 1, 1) := by decide +kernel
theorem dX12_take_23 : decode cX12_take 23 = .ok (.invokevirtual 356, 3) := by decide +kernel
theorem dX12_take_26 : decode cX12_take 26 = .ok (.return_, 1) := by decide +kernel
theorem dX12_take_7 : decode cX12_take 7 = .ok (.return_, 1) := by decide +kernel
theorem hV_X12_bad : yX12_bad.cls = RX12 ∧ yX12_bad.cls ≠ "java/lang/invoke/MethodHandle" ∧ yX12_bad.cls ≠ "java/lang/invoke/VarHandle" ∧ (parseMethodDescriptor yX12_bad.desc).map (fun d => d.parameters.length) = some 1 := by decide +kernel
set_option maxHeartbeats 2000000 in
set_option maxRecDepth 100000 in
/-- take(kind) -/
theorem R_take (l : Launch) (G : pT) (h0 : Nat) (a : Nat → Nat) (F : Nat → Int32) (B : Nat → Nat → Int32) (at0 : Nat) (T : Nat) (fa : Nat) (K : Nat → Int32) (x : Int32) (hat : at0 ≤ T) (hT : T ≤ 5000) (hK : K T = 0 ∨ K T = 3) (hfa : fa ≤ 100) (hn0 : ¬ x = 0) (hn3 : ¬ x = 3) : PM l G pX0 yX12_take cX12_take 2 none ({ frames := 4, cells := 0, slots := 0, locals := 103 }) [.ref h0, .int x] (mW G h0 a (upd (upd F 15 (nI fa)) 64 (nI at0)) (updA B 2 K)) (fun (v : Option Value) (u : Nat × Nat × Int32) => v = none ∧ (at0 ≤ u.1) ∧ (u.1 ≤ T) ∧ (fa ≤ u.2.1) ∧ (u.2.1 ≤ 100) ∧ (If (0 < fa) (u.1 = at0 ∧ u.2.1 = fa)) ∧ (u.1 ≤ at0 + 1) ∧ (at0 + 1 ≤ u.1 + u.2.1) ∧ (If (u.2.1 = 0) (K at0 = x))) (fun u => (mW G h0 a (upd (upd (upd F 15 (nI u.2.1)) 16 u.2.2) 64 (nI u.1)) (updA B 2 K))) := by
  intro sz
  refine Met.ofW (cc := cX12_take) (maxL := 2) (ret := none) (by decide) rfl ?_
  intro p e s m args below meth c s₁ B9 hml hv
  obtain ⟨rfl, hsz, hP, hD0, hE, hX⟩ := hv
  have hx := B9.exec
  have hb := B9.bytes
  have hr := B9.returns
  have hts := atoms_spec (ws := Cond.code yX12_take cX12_take 2 none :: pw) B9.pre
  have hq : ∀ w ∈ pw, w.before _ s = true := fun w h => hts w (List.mem_cons_of_mem _ h)
  have hown : s.vm.findClass RX12 = some m.cls := findClass_of_methodNamed B9.named
  have hlocks := B9.notSynchronized
  subst hsz
  have hD := hD0.self (sz := s.heap.size)
  have hA : ∀ q : Nat, s.heap.size ≤ q → va_A (mW G h0 a (upd (upd F 15 (nI fa)) 64 (nI at0)) (updA B 2 K)) s.heap.size q := fun q h => Or.inr h
  have hP : va_P G.1 pCl (mW G h0 a (upd (upd F 15 (nI fa)) 64 (nI at0)) (updA B 2 K)) s.heap := hP
  generalize va_A (mW G h0 a (upd (upd F 15 (nI fa)) 64 (nI at0)) (updA B 2 K)) s.heap.size = A at hD hE hA ⊢
  have hS : va_S A s.heap s.heap [] := va_S.rf
  have hl := lv_entry ([.ref h0, .int x]) (n := 2) (Nat.le_of_ble_eq_true rfl)
  rw [lg_entry_eq]
  generalize (lg_sl ([.ref h0, .int x]) ++ List.replicate (2 - (lg_sl ([.ref h0, .int x])).length) Slot.unset).toArray = ls at hl ⊢
  have hl : lv_has ls 2 [(0, .ref h0), (1, .int x)] := hl
  refine lv_aload_n hx hb dX12_take_0 rfl (lv_at hl 0 rfl) ?_
  refine r_get (v := .int (nI fa)) hx hb hown hq hE hP 15 350 tFX12_15 (by decide) pw_1594 rfl dX12_take_1 ?_
  refine lv_if_le (tgt := 8) hx hb dX12_take_4 (by decide) (fun c1 => ?_) (fun c1 => ?_)
  · have n2 : fa ≤ 0 := (nI_leI (a := fa) (b := 0) (by omega) (by omega)).mp c1
    refine lv_aload_n hx hb dX12_take_8 rfl (lv_at hl 0 rfl) ?_
    refine r_get (v := .ref (a 2)) hx hb hown hq hE hP 5 16 tFX12_5 (by decide) pw_1432 rfl dX12_take_9 ?_
    refine lv_aload_n hx hb dX12_take_12 rfl (lv_at hl 0 rfl) ?_
    refine r_get (v := .int (nI at0)) hx hb hown hq hE hP 64 343 tFX12_64 (by decide) pw_1592 rfl dX12_take_13 ?_
    refine r_ldi (f := K) (j := at0) hx hb hE hP 2 (ma_2 G a _) rfl (by omega) (by decide) dX12_take_16 ?_
    refine lv_iload_n hx hb dX12_take_17 rfl (lv_at hl 1 rfl) ?_
    refine lv_icmp_eq (tgt := 27) hx hb dX12_take_18 (by decide) (fun c3 => ?_) (fun c3 => ?_)
    · have hlt : at0 < T := tk_lt hat hK c3 hn0 hn3
      refine lv_aload_n hx hb dX12_take_27 rfl (lv_at hl 0 rfl) ?_
      refine lv_dup hx hb dX12_take_28 rfl ?_
      refine r_get (v := .int (nI at0)) hx hb hown hq hE hP 64 343 tFX12_64 (by decide) pw_1592 rfl dX12_take_29 ?_
      refine lv_iconst (v := 1) hx hb dX12_take_32 (by decide) ?_
      refine lv_iadd hx hb dX12_take_33 ?_
      refine lv_topi (fun x4 e5 => ?_)
      obtain rfl : x4 = nI (at0 + 1) := e5.trans (nI_add (at0) (1))
      refine r_put (v := (nI (at0 + 1))) (ty := .int) hx hb hown hq hE hP hD hS 64 343 tFX12_64 (by decide) pw_1592 (by decide) rfl rfl (ms_64 a _ _) dX12_take_34 (fun H locs hP hD hS => ?_)
      have hz6 : at0 ≤ (at0 + 1) := (by omega)
      have hz7 : (at0 + 1) ≤ T := (by omega)
      have hz8 : fa ≤ fa := (by omega)
      have hz9 : fa ≤ 100 := (by omega)
      have hz10 : If (0 < fa) ((at0 + 1) = at0 ∧ fa = fa) := (fun h9 => by omega)
      have hz11 : (at0 + 1) ≤ at0 + 1 := (by omega)
      have hz12 : at0 + 1 ≤ (at0 + 1) + fa := (by omega)
      have hz13 : If (fa = 0) (K at0 = x) := (fun _ => c3)
      have hP : va_P G.1 pCl (mW G h0 a (upd (upd (upd F 15 (nI fa)) 16 (F 16)) 64 (nI (at0 + 1))) (updA B 2 K)) _ := mW_to (F := F) (l1 := [(15, (nI fa)), (64, (nI at0)), (64, (nI (at0 + 1)))]) (l2 := [(15, (nI fa)), (16, (F 16)), (64, (nI (at0 + 1)))]) (V := [(nI fa), (nI (at0 + 1)), (nI (at0 + 1)), (nI fa), (F 16), (nI (at0 + 1))]) rfl rfl rfl hP
      have hD : va_D A (mW G h0 a (upd (upd (upd F 15 (nI fa)) 16 (F 16)) 64 (nI (at0 + 1))) (updA B 2 K)) := mW_D hD
      exact W.vret hx hb hr (fun t9 ht9 hW9 => ⟨⟨_, ((at0 + 1), fa, (F 16)), rfl, ⟨rfl, hz6, hz7, hz8, hz9, hz10, hz11, hz12, hz13⟩, by rw [ht9]; exact hP, hD⟩, hS.F ht9⟩) hS.2.2 dX12_take_37
    · refine lv_aload_n hx hb dX12_take_21 rfl (lv_at hl 0 rfl) ?_
      refine lv_iconst (v := 1) hx hb dX12_take_22 (by decide) ?_
      have hP : va_P G.1 pCl (mW G h0 a (upd (upd (upd (upd F 15 (nI fa)) 64 (nI at0)) 15 (nI fa)) 64 (nI at0)) (updA (updA B 2 K) 2 K)) _ := mW_to (F := F) (l1 := [(15, (nI fa)), (64, (nI at0))]) (l2 := [(15, (nI fa)), (64, (nI at0)), (15, (nI fa)), (64, (nI at0))]) (V := [(nI fa), (nI at0), (nI fa), (nI at0), (nI fa), (nI at0)]) rfl rfl (show (updA B 2 K) = (updA (updA B 2 K) 2 K) from updsA_eq2 (F := B) (l1 := [(2, K)]) (l2 := [(2, K), (2, K)]) (V := [K, K, K]) rfl rfl) hP
      have hD : va_D A (mW G h0 a (upd (upd (upd (upd F 15 (nI fa)) 64 (nI at0)) 15 (nI fa)) 64 (nI at0)) (updA (updA B 2 K) 2 K)) := mW_D hD
      refine pc_V0 (G := G) (As := [.int (nI 1)]) (rest := []) hx hb hml hown hq hE hX pX0_al hP hD hS hA hl.1 (R_bad l G h0 a (upd (upd F 15 (nI fa)) 64 (nI at0)) (updA B 2 K) at0 T fa K 1 (by omega) (by omega) hK (by omega) (by omega) (by omega)) (gV pw_1602 pw_1603 pw_1604 pw_1523 pw_1596) hV_X12_bad 0 9 rfl rfl rfl rfl (Nat.le_of_ble_eq_true rfl) dX12_take_23 ⟨Nat.le_of_ble_eq_true rfl, Nat.le_of_ble_eq_true rfl⟩ ⟨Nat.le_of_ble_eq_true rfl, Nat.le_of_ble_eq_true rfl⟩ (fun v16 u14 H locs hw15 hP hD hS => ?_)
      obtain ⟨fa17, pl18⟩ := u14
      obtain ⟨hw15, h19, h20, h21, h22⟩ := hw15
      have h19 : fa ≤ fa17 := h19
      have h20 : fa17 ≤ fa + 1 := h20
      have h21 : 0 < fa17 := h21
      have h22 : If (0 < fa) (fa17 = fa) := h22
      obtain rfl : v16 = none := hw15
      have hP : va_P G.1 pCl (mW G h0 a (upd (upd (upd F 15 (nI fa17)) 16 pl18) 64 (nI at0)) (updA B 2 K)) _ := mW_to (F := F) (l1 := [(15, (nI fa)), (64, (nI at0)), (15, (nI fa17)), (16, pl18), (64, (nI at0))]) (l2 := [(15, (nI fa17)), (16, pl18), (64, (nI at0))]) (V := [(nI fa17), (nI at0), (nI fa17), pl18, (nI at0), (nI fa17), pl18, (nI at0)]) rfl rfl (show (updA (updA B 2 K) 2 K) = (updA B 2 K) from updsA_eq2 (F := B) (l1 := [(2, K), (2, K)]) (l2 := [(2, K)]) (V := [K, K, K]) rfl rfl) hP
      have hD : va_D A (mW G h0 a (upd (upd (upd F 15 (nI fa17)) 16 pl18) 64 (nI at0)) (updA B 2 K)) := mW_D hD
      refine W.widen (k := 0) (n := 0) (Nat.le_of_ble_eq_true rfl) (Nat.le_of_ble_eq_true rfl) ?_
      refine W.eq (g2 := F0 m 26 ls []) rfl ?_
      have hz23 : at0 ≤ at0 := (by omega)
      have hz24 : at0 ≤ T := (by omega)
      have hz25 : fa ≤ fa17 := (by omega)
      have hz26 : fa17 ≤ 100 := (by omega)
      have hz27 : If (0 < fa) (at0 = at0 ∧ fa17 = fa) := (fun h9 => ⟨rfl, h22 h9⟩)
      have hz28 : at0 ≤ at0 + 1 := (by omega)
      have hz29 : at0 + 1 ≤ at0 + fa17 := (by omega)
      have hz30 : If (fa17 = 0) (K at0 = x) := (fun _ => absurd (show False by omega) id)
      have hP : va_P G.1 pCl (mW G h0 a (upd (upd (upd F 15 (nI fa17)) 16 pl18) 64 (nI at0)) (updA B 2 K)) _ := hP
      have hD : va_D A (mW G h0 a (upd (upd (upd F 15 (nI fa17)) 16 pl18) 64 (nI at0)) (updA B 2 K)) := mW_D hD
      exact W.vret hx hb hr (fun t9 ht9 hW9 => ⟨⟨_, (at0, fa17, pl18), rfl, ⟨rfl, hz23, hz24, hz25, hz26, hz27, hz28, hz29, hz30⟩, by rw [ht9]; exact hP, hD⟩, hS.F ht9⟩) hS.2.2 dX12_take_26
  · have n31 : ¬ (fa ≤ 0) := fun h9 => c1 ((nI_leI (a := fa) (b := 0) (by omega) (by omega)).mpr h9)
    have hz32 : at0 ≤ at0 := (by omega)
    have hz33 : at0 ≤ T := (by omega)
    have hz34 : fa ≤ fa := (by omega)
    have hz35 : fa ≤ 100 := (by omega)
    have hz36 : If (0 < fa) (at0 = at0 ∧ fa = fa) := (fun h9 => by omega)
    have hz37 : at0 ≤ at0 + 1 := (by omega)
    have hz38 : at0 + 1 ≤ at0 + fa := (by omega)
    have hz39 : If (fa = 0) (K at0 = x) := (fun _ => absurd (show False by omega) id)
    have hP : va_P G.1 pCl (mW G h0 a (upd (upd (upd F 15 (nI fa)) 16 (F 16)) 64 (nI at0)) (updA B 2 K)) _ := mW_to (F := F) (l1 := [(15, (nI fa)), (64, (nI at0))]) (l2 := [(15, (nI fa)), (16, (F 16)), (64, (nI at0))]) (V := [(nI fa), (nI at0), (nI fa), (F 16), (nI at0)]) rfl rfl rfl hP
    have hD : va_D A (mW G h0 a (upd (upd (upd F 15 (nI fa)) 16 (F 16)) 64 (nI at0)) (updA B 2 K)) := mW_D hD
    exact W.vret hx hb hr (fun t9 ht9 hW9 => ⟨⟨_, (at0, fa, (F 16)), rfl, ⟨rfl, hz32, hz33, hz34, hz35, hz36, hz37, hz38, hz39⟩, by rw [ht9]; exact hP, hD⟩, hS.F ht9⟩) hS.2.2 dX12_take_7
theorem dX12_may_0 : decode cX12_may 0 = .ok (.aload_n 0, 1) := by decide +kernel
theorem dX12_may_1 : decode cX12_may 1 = .ok (.iload_n 1, 1) := by decide +kernel
theorem dX12_may_2 : decode cX12_may 2 = .ok (.invokevirtual 360, 3) := by decide +kernel
theorem dX12_may_5 : decode cX12_may 5 = .ok (.istore_n 2, 1) := by decide +kernel
theorem dX12_may_6 : decode cX12_may 6 = .ok (.aload_n 0, 1) := by decide +kernel
theorem dX12_may_7 : decode cX12_may 7 = .ok (.dup, 1) := by decide +kernel
theorem dX12_may_8 : decode cX12_may 8 = .ok (.getfield 343, 3) := by decide +kernel
theorem dX12_may_11 : decode cX12_may 11 = .ok (.iload_n 2, 1) := by decide +kernel
theorem dX12_may_12 : decode cX12_may 12 = .ok (.ifCond .eq 7, 3) := by decide +kernel
theorem dX12_may_19 : decode cX12_may 19 = .ok (.iconst 0, 1) := by decide +kernel
theorem dX12_may_20 : decode cX12_may 20 = .ok (.iadd, 1) := by decide +kernel
theorem dX12_may_21 : decode cX12_may 21 = .ok (.putfield 343, 3) := by decide +kernel
theorem dX12_may_24 : decode cX12_may 24 = .ok (.iload_n 2, 1) := by decide +kernel
theorem dX12_may_25 : decode cX12_may 25 = .ok (.ireturn, 1) := by decide +kernel
theorem dX12_may_15 : decode cX12_may 15 = .ok (.iconst 1, 1) := by decide +kernel
theorem dX12_may_16 : decode cX12_may 16 = .ok (.goto 4, 3) := by decide +kernel
theorem hV_X12_is : yX12_is.cls = RX12 ∧ yX12_is.cls ≠ "java/lang/invoke/MethodHandle" ∧ yX12_is.cls ≠ "java/lang/invoke/VarHandle" ∧ (parseMethodDescriptor yX12_is.desc).map (fun d => d.parameters.length) = some 1 := by decide +kernel
set_option maxHeartbeats 2000000 in
set_option maxRecDepth 100000 in
/-- may(kind) -/
theorem R_may (l : Launch) (G : pT) (h0 : Nat) (a : Nat → Nat) (F : Nat → Int32) (B : Nat → Nat → Int32) (at0 : Nat) (T : Nat) (fa : Nat) (K : Nat → Int32) (x : Int32) (hat : at0 ≤ T) (hT : T ≤ 5000) (hK : K T = 0 ∨ K T = 3) (hfa : fa ≤ 100) (hn0 : ¬ x = 0) (hn3 : ¬ x = 3) : PM l G pX0 yX12_may cX12_may 3 (some .boolean) ({ frames := 3, cells := 0, slots := 0, locals := 81 }) [.ref h0, .int x] (mW G h0 a (upd (upd F 15 (nI fa)) 64 (nI at0)) (updA B 2 K)) (fun (v : Option Value) (u : Nat × Nat) => v = some (.int (nI u.2)) ∧ (u.2 ≤ 1) ∧ (fa + 100 * u.2 ≤ 100) ∧ (u.1 = at0 + u.2) ∧ (u.1 ≤ T) ∧ (If (u.2 = 1) (K at0 = x)) ∧ (If (u.2 = 0) (fa = 0 → ¬ K at0 = x))) (fun u => (mW G h0 a (upd (upd F 15 (nI fa)) 64 (nI u.1)) (updA B 2 K))) := by
  intro sz
  refine Met.ofW (cc := cX12_may) (maxL := 3) (ret := (some .boolean)) (by decide) rfl ?_
  intro p e s m args below meth c s₁ B9 hml hv
  obtain ⟨rfl, hsz, hP, hD0, hE, hX⟩ := hv
  have hx := B9.exec
  have hb := B9.bytes
  have hr := B9.returns
  have hts := atoms_spec (ws := Cond.code yX12_may cX12_may 3 (some .boolean) :: pw) B9.pre
  have hq : ∀ w ∈ pw, w.before _ s = true := fun w h => hts w (List.mem_cons_of_mem _ h)
  have hown : s.vm.findClass RX12 = some m.cls := findClass_of_methodNamed B9.named
  have hlocks := B9.notSynchronized
  subst hsz
  have hD := hD0.self (sz := s.heap.size)
  have hA : ∀ q : Nat, s.heap.size ≤ q → va_A (mW G h0 a (upd (upd F 15 (nI fa)) 64 (nI at0)) (updA B 2 K)) s.heap.size q := fun q h => Or.inr h
  have hP : va_P G.1 pCl (mW G h0 a (upd (upd F 15 (nI fa)) 64 (nI at0)) (updA B 2 K)) s.heap := hP
  generalize va_A (mW G h0 a (upd (upd F 15 (nI fa)) 64 (nI at0)) (updA B 2 K)) s.heap.size = A at hD hE hA ⊢
  have hS : va_S A s.heap s.heap [] := va_S.rf
  have hl := lv_entry ([.ref h0, .int x]) (n := 3) (Nat.le_of_ble_eq_true rfl)
  rw [lg_entry_eq]
  generalize (lg_sl ([.ref h0, .int x]) ++ List.replicate (3 - (lg_sl ([.ref h0, .int x])).length) Slot.unset).toArray = ls at hl ⊢
  have hl : lv_has ls 3 [(0, .ref h0), (1, .int x)] := hl
  refine lv_aload_n hx hb dX12_may_0 rfl (lv_at hl 0 rfl) ?_
  refine lv_iload_n hx hb dX12_may_1 rfl (lv_at hl 1 rfl) ?_
  have hP : va_P G.1 pCl (mW G h0 a (upd (upd (upd (upd F 15 (nI fa)) 64 (nI at0)) 15 (nI fa)) 64 (nI at0)) (updA (updA B 2 K) 2 K)) _ := mW_to (F := F) (l1 := [(15, (nI fa)), (64, (nI at0))]) (l2 := [(15, (nI fa)), (64, (nI at0)), (15, (nI fa)), (64, (nI at0))]) (V := [(nI fa), (nI at0), (nI fa), (nI at0), (nI fa), (nI at0)]) rfl rfl (show (updA B 2 K) = (updA (updA B 2 K) 2 K) from updsA_eq2 (F := B) (l1 := [(2, K)]) (l2 := [(2, K), (2, K)]) (V := [K, K, K]) rfl rfl) hP
  have hD : va_D A (mW G h0 a (upd (upd (upd (upd F 15 (nI fa)) 64 (nI at0)) 15 (nI fa)) 64 (nI at0)) (updA (updA B 2 K) 2 K)) := mW_D hD
  refine pc_V0 (G := G) (As := [.int x]) (rest := []) hx hb hml hown hq hE hX pX0_al hP hD hS hA hl.1 (R_is l G h0 a (upd (upd F 15 (nI fa)) 64 (nI at0)) (updA B 2 K) at0 T fa K x (by omega) (by omega) hK (by omega)) (gV pw_1606 pw_1607 pw_1608 pw_1523 pw_1600) hV_X12_is 0 9 rfl rfl rfl rfl (Nat.le_of_ble_eq_true rfl) dX12_may_2 ⟨Nat.le_of_ble_eq_true rfl, Nat.le_of_ble_eq_true rfl⟩ ⟨Nat.le_of_ble_eq_true rfl, Nat.le_of_ble_eq_true rfl⟩ (fun v3 u1 H locs hw2 hP hD hS => ?_)
  obtain ⟨r4, rfl⟩ : ∃ z, z = u1 := ⟨_, rfl⟩
  obtain ⟨hw2, h5, h6, h7, h8⟩ := hw2
  have h5 : r4 ≤ 1 := h5
  have h6 : fa + 100 * r4 ≤ 100 := h6
  have h7 : If (r4 = 1) (K at0 = x) := h7
  have h8 : If (r4 = 0) (fa = 0 → ¬ K at0 = x) := h8
  obtain rfl : v3 = some (.int (nI r4)) := hw2
  have hP : va_P G.1 pCl (mW G h0 a (upd (upd F 15 (nI fa)) 64 (nI at0)) (updA B 2 K)) _ := mW_to (F := F) (l1 := [(15, (nI fa)), (64, (nI at0)), (15, (nI fa)), (64, (nI at0))]) (l2 := [(15, (nI fa)), (64, (nI at0))]) (V := [(nI fa), (nI at0), (nI fa), (nI at0), (nI fa), (nI at0)]) rfl rfl (show (updA (updA B 2 K) 2 K) = (updA B 2 K) from updsA_eq2 (F := B) (l1 := [(2, K), (2, K)]) (l2 := [(2, K)]) (V := [K, K, K]) rfl rfl) hP
  have hD : va_D A (mW G h0 a (upd (upd F 15 (nI fa)) 64 (nI at0)) (updA B 2 K)) := mW_D hD
  refine W.widen (k := 0) (n := 0) (Nat.le_of_ble_eq_true rfl) (Nat.le_of_ble_eq_true rfl) ?_
  refine W.eq (g2 := F0 m 5 ls [.int (nI r4)]) rfl ?_
  refine lv_istore_n (lv' := [(2, .int (nI r4)), (0, .ref h0), (1, .int x)]) hx hb dX12_may_5 rfl hl (by decide) rfl (fun ls hl => ?_)
  refine lv_aload_n hx hb dX12_may_6 rfl (lv_at hl 1 rfl) ?_
  refine lv_dup hx hb dX12_may_7 rfl ?_
  refine r_get (v := .int (nI at0)) hx hb hown hq hE hP 64 343 tFX12_64 (by decide) pw_1592 rfl dX12_may_8 ?_
  refine lv_iload_n hx hb dX12_may_11 rfl (lv_at hl 0 rfl) ?_
  refine lv_if_eq (tgt := 19) hx hb dX12_may_12 (by decide) (fun c9 => ?_) (fun c9 => ?_)
  · have n10 : r4 = 0 := (nI_eq (a := r4) (b := 0) (by omega) (by omega)).mp c9
    refine lv_iconst (v := 0) hx hb dX12_may_19 (by decide) ?_
    refine lv_iadd hx hb dX12_may_20 ?_
    refine lv_topi (fun x11 e12 => ?_)
    obtain rfl : x11 = nI (at0 + 0) := e12.trans (nI_add (at0) (0))
    refine r_put (v := (nI (at0 + 0))) (ty := .int) hx hb hown hq hE hP hD hS 64 343 tFX12_64 (by decide) pw_1592 (by decide) rfl rfl (ms_64 a _ _) dX12_may_21 (fun H locs hP hD hS => ?_)
    refine lv_iload_n hx hb dX12_may_24 rfl (lv_at hl 0 rfl) ?_
    have hz13 : r4 ≤ 1 := (by omega)
    have hz14 : fa + 100 * r4 ≤ 100 := (by omega)
    have hz15 : (at0 + 0) = at0 + r4 := (by omega)
    have hz16 : (at0 + 0) ≤ T := (by omega)
    have hz17 : If (r4 = 1) (K at0 = x) := h7
    have hz18 : If (r4 = 0) (fa = 0 → ¬ K at0 = x) := h8
    have hP : va_P G.1 pCl (mW G h0 a (upd (upd F 15 (nI fa)) 64 (nI (at0 + 0))) (updA B 2 K)) _ := mW_to (F := F) (l1 := [(15, (nI fa)), (64, (nI at0)), (64, (nI (at0 + 0)))]) (l2 := [(15, (nI fa)), (64, (nI (at0 + 0)))]) (V := [(nI fa), (nI (at0 + 0)), (nI (at0 + 0)), (nI fa), (nI (at0 + 0))]) rfl rfl rfl hP
    have hD : va_D A (mW G h0 a (upd (upd F 15 (nI fa)) 64 (nI (at0 + 0))) (updA B 2 K)) := mW_D hD
    exact W.zret (v := (nI r4)) hx hb hr (nI_nar h5) (fun t9 ht9 hW9 => ⟨⟨_, ((at0 + 0), r4), rfl, ⟨rfl, hz13, hz14, hz15, hz16, hz17, hz18⟩, by rw [ht9]; exact hP, hD⟩, hS.F ht9⟩) hS.2.2 dX12_may_25
  · have n19 : ¬ (r4 = 0) := fun h9 => c9 ((nI_eq (a := r4) (b := 0) (by omega) (by omega)).mpr h9)
    have hlt : at0 < T := tk_lt hat hK (h7 (by omega)) hn0 hn3
    refine lv_iconst (v := 1) hx hb dX12_may_15 (by decide) ?_
    refine lv_goto (tgt := 20) hx hb dX12_may_16 (by decide) ?_
    refine lv_iadd hx hb dX12_may_20 ?_
    refine lv_topi (fun x20 e21 => ?_)
    obtain rfl : x20 = nI (at0 + 1) := e21.trans (nI_add (at0) (1))
    refine r_put (v := (nI (at0 + 1))) (ty := .int) hx hb hown hq hE hP hD hS 64 343 tFX12_64 (by decide) pw_1592 (by decide) rfl rfl (ms_64 a _ _) dX12_may_21 (fun H locs hP hD hS => ?_)
    refine lv_iload_n hx hb dX12_may_24 rfl (lv_at hl 0 rfl) ?_
    have hz22 : r4 ≤ 1 := (by omega)
    have hz23 : fa + 100 * r4 ≤ 100 := (by omega)
    have hz24 : (at0 + 1) = at0 + r4 := (by omega)
    have hz25 : (at0 + 1) ≤ T := (by omega)
    have hz26 : If (r4 = 1) (K at0 = x) := h7
    have hz27 : If (r4 = 0) (fa = 0 → ¬ K at0 = x) := h8
    have hP : va_P G.1 pCl (mW G h0 a (upd (upd F 15 (nI fa)) 64 (nI (at0 + 1))) (updA B 2 K)) _ := mW_to (F := F) (l1 := [(15, (nI fa)), (64, (nI at0)), (64, (nI (at0 + 1)))]) (l2 := [(15, (nI fa)), (64, (nI (at0 + 1)))]) (V := [(nI fa), (nI (at0 + 1)), (nI (at0 + 1)), (nI fa), (nI (at0 + 1))]) rfl rfl rfl hP
    have hD : va_D A (mW G h0 a (upd (upd F 15 (nI fa)) 64 (nI (at0 + 1))) (updA B 2 K)) := mW_D hD
    exact W.zret (v := (nI r4)) hx hb hr (nI_nar h5) (fun t9 ht9 hW9 => ⟨⟨_, ((at0 + 1), r4), rfl, ⟨rfl, hz22, hz23, hz24, hz25, hz26, hz27⟩, by rw [ht9]; exact hP, hD⟩, hS.F ht9⟩) hS.2.2 dX12_may_25
theorem dX12_linked_0 : decode cX12_linked 0 = .ok (.aload_n 0, 1) := by decide +kernel
theorem dX12_linked_1 : decode cX12_linked 1 = .ok (.getfield 350, 3) := by decide +kernel
theorem dX12_linked_4 : decode cX12_linked 4 = .ok (.ifCond .ne 17, 3) := by decide +kernel
theorem dX12_linked_21 : decode cX12_linked 21 = .ok (.aload_n 0, 1) := by decide +kernel
theorem dX12_linked_22 : decode cX12_linked 22 = .ok (.dup, 1) := by decide +kernel
theorem dX12_linked_23 : decode cX12_linked 23 = .ok (.getfield 363, 3) := by decide +kernel
theorem dX12_linked_26 : decode cX12_linked 26 = .ok (.iconst 1, 1) := by decide +kernel
theorem dX12_linked_27 : decode cX12_linked 27 = .ok (.iadd, 1) := by decide +kernel
theorem dX12_linked_28 : decode cX12_linked 28 = .ok (.putfield 363, 3) := by decide +kernel
theorem dX12_linked_31 : decode cX12_linked 31 = .ok (.return_, 1) := by decide +kernel
theorem dX12_linked_7 : decode cX12_linked 7 = .ok (.aload_n 0, 1) := by decide +kernel
theorem dX12_linked_8 : decode cX12_linked 8 = .ok (.getfield 363, 3) := by decide +kernel
theorem dX12_linked_11 : decode cX12_linked 11 = .ok (.bipush 60, 2) := by decide +kernel
theorem dX12_linked_13 : decode cX12_linked 13 = .ok (.if_icmp .ne 8, 3) := by decide +kernel
theorem dX12_linked_16 : decode cX12_linked 16 = .ok (.aload_n 0, 1) := by decide +kernel
theorem dX12_linked_17 : decode cX12_linked 17 = .ok (.iconst 2, 1) := by decide +kernel
theorem dX12_linked_18 : decode cX12_linked 18 = .ok (.invokevirtual 356, 3) := by decide +kernel
set_option maxHeartbeats 2000000 in
set_option maxRecDepth 100000 in
/-- linked() -/
theorem R_linked (l : Launch) (G : pT) (h0 : Nat) (a : Nat → Nat) (F : Nat → Int32) (B : Nat → Nat → Int32) (at0 : Nat) (T : Nat) (fa : Nat) (K : Nat → Int32) (lk : Int32) (hat : at0 ≤ T) (hT : T ≤ 5000) (hK : K T = 0 ∨ K T = 3) (hfa : fa ≤ 100) : PM l G pX0 yX12_linked cX12_linked 1 none ({ frames := 4, cells := 0, slots := 0, locals := 103 }) [.ref h0] (mW G h0 a (upd (upd (upd F 15 (nI fa)) 64 (nI at0)) 66 lk) (updA B 2 K)) (fun (v : Option Value) (u : Nat × Int32 × Int32) => v = none ∧ (fa ≤ u.1) ∧ (u.1 ≤ 100) ∧ (If (0 < fa) (u.1 = fa))) (fun u => (mW G h0 a (upd (upd (upd (upd F 15 (nI u.1)) 16 u.2.1) 64 (nI at0)) 66 u.2.2) (updA B 2 K))) := by
  intro sz
  refine Met.ofW (cc := cX12_linked) (maxL := 1) (ret := none) (by decide) rfl ?_
  intro p e s m args below meth c s₁ B9 hml hv
  obtain ⟨rfl, hsz, hP, hD0, hE, hX⟩ := hv
  have hx := B9.exec
  have hb := B9.bytes
  have hr := B9.returns
  have hts := atoms_spec (ws := Cond.code yX12_linked cX12_linked 1 none :: pw) B9.pre
  have hq : ∀ w ∈ pw, w.before _ s = true := fun w h => hts w (List.mem_cons_of_mem _ h)
  have hown : s.vm.findClass RX12 = some m.cls := findClass_of_methodNamed B9.named
  have hlocks := B9.notSynchronized
  subst hsz
  have hD := hD0.self (sz := s.heap.size)
  have hA : ∀ q : Nat, s.heap.size ≤ q → va_A (mW G h0 a (upd (upd (upd F 15 (nI fa)) 64 (nI at0)) 66 lk) (updA B 2 K)) s.heap.size q := fun q h => Or.inr h
  have hP : va_P G.1 pCl (mW G h0 a (upd (upd (upd F 15 (nI fa)) 64 (nI at0)) 66 lk) (updA B 2 K)) s.heap := hP
  generalize va_A (mW G h0 a (upd (upd (upd F 15 (nI fa)) 64 (nI at0)) 66 lk) (updA B 2 K)) s.heap.size = A at hD hE hA ⊢
  have hS : va_S A s.heap s.heap [] := va_S.rf
  have hl := lv_entry ([.ref h0]) (n := 1) (Nat.le_of_ble_eq_true rfl)
  rw [lg_entry_eq]
  generalize (lg_sl ([.ref h0]) ++ List.replicate (1 - (lg_sl ([.ref h0])).length) Slot.unset).toArray = ls at hl ⊢
  have hl : lv_has ls 1 [(0, .ref h0)] := hl
  refine lv_aload_n hx hb dX12_linked_0 rfl (lv_at hl 0 rfl) ?_
  refine r_get (v := .int (nI fa)) hx hb hown hq hE hP 15 350 tFX12_15 (by decide) pw_1594 rfl dX12_linked_1 ?_
  refine lv_if_ne (tgt := 21) hx hb dX12_linked_4 (by decide) (fun c1 => ?_) (fun c1 => ?_)
  · have n2 : ¬ (fa = 0) := fun h9 => c1 ((nI_eq (a := fa) (b := 0) (by omega) (by omega)).mpr h9)
    refine lv_aload_n hx hb dX12_linked_21 rfl (lv_at hl 0 rfl) ?_
    refine lv_dup hx hb dX12_linked_22 rfl ?_
    refine r_get (v := .int lk) hx hb hown hq hE hP 66 363 tFX12_66 (by decide) pw_1610 rfl dX12_linked_23 ?_
    refine lv_iconst (v := 1) hx hb dX12_linked_26 (by decide) ?_
    refine lv_iadd hx hb dX12_linked_27 ?_
    refine lv_topi (fun x3 e4 => ?_)
    refine r_put (v := x3) (ty := .int) hx hb hown hq hE hP hD hS 66 363 tFX12_66 (by decide) pw_1610 (by decide) rfl rfl (ms_66 a _ _) dX12_linked_28 (fun H locs hP hD hS => ?_)
    have hz5 : fa ≤ fa := (by omega)
    have hz6 : fa ≤ 100 := (by omega)
    have hz7 : If (0 < fa) (fa = fa) := (fun h9 => by omega)
    have hP : va_P G.1 pCl (mW G h0 a (upd (upd (upd (upd F 15 (nI fa)) 16 (F 16)) 64 (nI at0)) 66 x3) (updA B 2 K)) _ := mW_to (F := F) (l1 := [(15, (nI fa)), (64, (nI at0)), (66, lk), (66, x3)]) (l2 := [(15, (nI fa)), (16, (F 16)), (64, (nI at0)), (66, x3)]) (V := [(nI fa), (nI at0), x3, x3, (nI fa), (F 16), (nI at0), x3]) rfl rfl rfl hP
    have hD : va_D A (mW G h0 a (upd (upd (upd (upd F 15 (nI fa)) 16 (F 16)) 64 (nI at0)) 66 x3) (updA B 2 K)) := mW_D hD
    exact W.vret hx hb hr (fun t9 ht9 hW9 => ⟨⟨_, (fa, (F 16), x3), rfl, ⟨rfl, hz5, hz6, hz7⟩, by rw [ht9]; exact hP, hD⟩, hS.F ht9⟩) hS.2.2 dX12_linked_31
  · have n8 : fa = 0 := (nI_eq (a := fa) (b := 0) (by omega) (by omega)).mp c1
    refine lv_aload_n hx hb dX12_linked_7 rfl (lv_at hl 0 rfl) ?_
    refine r_get (v := .int lk) hx hb hown hq hE hP 66 363 tFX12_66 (by decide) pw_1610 rfl dX12_linked_8 ?_
    refine lv_bipush (v := 60) hx hb dX12_linked_11 (by decide) ?_
    refine lv_icmp_ne (tgt := 21) hx hb dX12_linked_13 (by decide) (fun c9 => ?_) (fun c9 => ?_)
    · refine lv_aload_n hx hb dX12_linked_21 rfl (lv_at hl 0 rfl) ?_
      refine lv_dup hx hb dX12_linked_22 rfl ?_
      refine r_get (v := .int lk) hx hb hown hq hE hP 66 363 tFX12_66 (by decide) pw_1610 rfl dX12_linked_23 ?_
      refine lv_iconst (v := 1) hx hb dX12_linked_26 (by decide) ?_
      refine lv_iadd hx hb dX12_linked_27 ?_
      refine lv_topi (fun x10 e11 => ?_)
      refine r_put (v := x10) (ty := .int) hx hb hown hq hE hP hD hS 66 363 tFX12_66 (by decide) pw_1610 (by decide) rfl rfl (ms_66 a _ _) dX12_linked_28 (fun H locs hP hD hS => ?_)
      have hz12 : fa ≤ fa := (by omega)
      have hz13 : fa ≤ 100 := (by omega)
      have hz14 : If (0 < fa) (fa = fa) := (fun h9 => by omega)
      have hP : va_P G.1 pCl (mW G h0 a (upd (upd (upd (upd F 15 (nI fa)) 16 (F 16)) 64 (nI at0)) 66 x10) (updA B 2 K)) _ := mW_to (F := F) (l1 := [(15, (nI fa)), (64, (nI at0)), (66, lk), (66, x10)]) (l2 := [(15, (nI fa)), (16, (F 16)), (64, (nI at0)), (66, x10)]) (V := [(nI fa), (nI at0), x10, x10, (nI fa), (F 16), (nI at0), x10]) rfl rfl rfl hP
      have hD : va_D A (mW G h0 a (upd (upd (upd (upd F 15 (nI fa)) 16 (F 16)) 64 (nI at0)) 66 x10) (updA B 2 K)) := mW_D hD
      exact W.vret hx hb hr (fun t9 ht9 hW9 => ⟨⟨_, (fa, (F 16), x10), rfl, ⟨rfl, hz12, hz13, hz14⟩, by rw [ht9]; exact hP, hD⟩, hS.F ht9⟩) hS.2.2 dX12_linked_31
    · refine lv_aload_n hx hb dX12_linked_16 rfl (lv_at hl 0 rfl) ?_
      refine lv_iconst (v := 2) hx hb dX12_linked_17 (by decide) ?_
      have hP : va_P G.1 pCl (mW G h0 a (upd (upd (upd (upd (upd F 15 (nI fa)) 64 (nI at0)) 66 lk) 15 (nI fa)) 64 (nI at0)) (updA (updA B 2 K) 2 K)) _ := mW_to (F := F) (l1 := [(15, (nI fa)), (64, (nI at0)), (66, lk)]) (l2 := [(15, (nI fa)), (64, (nI at0)), (66, lk), (15, (nI fa)), (64, (nI at0))]) (V := [(nI fa), (nI at0), lk, (nI fa), (nI at0), lk, (nI fa), (nI at0)]) rfl rfl (show (updA B 2 K) = (updA (updA B 2 K) 2 K) from updsA_eq2 (F := B) (l1 := [(2, K)]) (l2 := [(2, K), (2, K)]) (V := [K, K, K]) rfl rfl) hP
      have hD : va_D A (mW G h0 a (upd (upd (upd (upd (upd F 15 (nI fa)) 64 (nI at0)) 66 lk) 15 (nI fa)) 64 (nI at0)) (updA (updA B 2 K) 2 K)) := mW_D hD
      refine pc_V0 (G := G) (As := [.int (nI 2)]) (rest := []) hx hb hml hown hq hE hX pX0_al hP hD hS hA hl.1 (R_bad l G h0 a (upd (upd (upd F 15 (nI fa)) 64 (nI at0)) 66 lk) (updA B 2 K) at0 T fa K 2 (by omega) (by omega) hK (by omega) (by omega) (by omega)) (gV pw_1602 pw_1603 pw_1604 pw_1523 pw_1596) hV_X12_bad 0 9 rfl rfl rfl rfl (Nat.le_of_ble_eq_true rfl) dX12_linked_18 ⟨Nat.le_of_ble_eq_true rfl, Nat.le_of_ble_eq_true rfl⟩ ⟨Nat.le_of_ble_eq_true rfl, Nat.le_of_ble_eq_true rfl⟩ (fun v17 u15 H locs hw16 hP hD hS => ?_)
      obtain ⟨fa18, pl19⟩ := u15
      obtain ⟨hw16, h20, h21, h22, h23⟩ := hw16
      have h20 : fa ≤ fa18 := h20
      have h21 : fa18 ≤ fa + 2 := h21
      have h22 : 0 < fa18 := h22
      have h23 : If (0 < fa) (fa18 = fa) := h23
      obtain rfl : v17 = none := hw16
      have hP : va_P G.1 pCl (mW G h0 a (upd (upd (upd (upd F 15 (nI fa18)) 16 pl19) 64 (nI at0)) 66 lk) (updA B 2 K)) _ := mW_to (F := F) (l1 := [(15, (nI fa)), (64, (nI at0)), (66, lk), (15, (nI fa18)), (16, pl19), (64, (nI at0))]) (l2 := [(15, (nI fa18)), (16, pl19), (64, (nI at0)), (66, lk)]) (V := [(nI fa18), (nI at0), lk, (nI fa18), pl19, (nI at0), (nI fa18), pl19, (nI at0), lk]) rfl rfl (show (updA (updA B 2 K) 2 K) = (updA B 2 K) from updsA_eq2 (F := B) (l1 := [(2, K), (2, K)]) (l2 := [(2, K)]) (V := [K, K, K]) rfl rfl) hP
      have hD : va_D A (mW G h0 a (upd (upd (upd (upd F 15 (nI fa18)) 16 pl19) 64 (nI at0)) 66 lk) (updA B 2 K)) := mW_D hD
      refine W.widen (k := 0) (n := 0) (Nat.le_of_ble_eq_true rfl) (Nat.le_of_ble_eq_true rfl) ?_
      refine W.eq (g2 := F0 m 21 ls []) rfl ?_
      refine lv_aload_n hx hb dX12_linked_21 rfl (lv_at hl 0 rfl) ?_
      refine lv_dup hx hb dX12_linked_22 rfl ?_
      refine r_get (v := .int lk) hx hb hown hq hE hP 66 363 tFX12_66 (by decide) pw_1610 rfl dX12_linked_23 ?_
      refine lv_iconst (v := 1) hx hb dX12_linked_26 (by decide) ?_
      refine lv_iadd hx hb dX12_linked_27 ?_
      refine lv_topi (fun x24 e25 => ?_)
      refine r_put (v := x24) (ty := .int) hx hb hown hq hE hP hD hS 66 363 tFX12_66 (by decide) pw_1610 (by decide) rfl rfl (ms_66 a _ _) dX12_linked_28 (fun H locs hP hD hS => ?_)
      have hz26 : fa ≤ fa18 := (by omega)
      have hz27 : fa18 ≤ 100 := (by omega)
      have hz28 : If (0 < fa) (fa18 = fa) := (fun h9 => by omega)
      have hP : va_P G.1 pCl (mW G h0 a (upd (upd (upd (upd F 15 (nI fa18)) 16 pl19) 64 (nI at0)) 66 x24) (updA B 2 K)) _ := mW_to (F := F) (l1 := [(15, (nI fa18)), (16, pl19), (64, (nI at0)), (66, lk), (66, x24)]) (l2 := [(15, (nI fa18)), (16, pl19), (64, (nI at0)), (66, x24)]) (V := [(nI fa18), pl19, (nI at0), x24, x24, (nI fa18), pl19, (nI at0), x24]) rfl rfl rfl hP
      have hD : va_D A (mW G h0 a (upd (upd (upd (upd F 15 (nI fa18)) 16 pl19) 64 (nI at0)) 66 x24) (updA B 2 K)) := mW_D hD
      exact W.vret hx hb hr (fun t9 ht9 hW9 => ⟨⟨_, (fa18, pl19, x24), rfl, ⟨rfl, hz26, hz27, hz28⟩, by rw [ht9]; exact hP, hD⟩, hS.F ht9⟩) hS.2.2 dX12_linked_31
theorem dX12_deeper_0 : decode cX12_deeper 0 = .ok (.aload_n 0, 1) := by decide +kernel
theorem dX12_deeper_1 : decode cX12_deeper 1 = .ok (.getfield 350, 3) := by decide +kernel
theorem dX12_deeper_4 : decode cX12_deeper 4 = .ok (.ifCond .ne 17, 3) := by decide +kernel
theorem dX12_deeper_21 : decode cX12_deeper 21 = .ok (.aload_n 0, 1) := by decide +kernel
theorem dX12_deeper_22 : decode cX12_deeper 22 = .ok (.dup, 1) := by decide +kernel
theorem dX12_deeper_23 : decode cX12_deeper 23 = .ok (.getfield 366, 3) := by decide +kernel
theorem dX12_deeper_26 : decode cX12_deeper 26 = .ok (.iconst 1, 1) := by decide +kernel
theorem dX12_deeper_27 : decode cX12_deeper 27 = .ok (.iadd, 1) := by decide +kernel
theorem dX12_deeper_28 : decode cX12_deeper 28 = .ok (.putfield 366, 3) := by decide +kernel
theorem dX12_deeper_31 : decode cX12_deeper 31 = .ok (.return_, 1) := by decide +kernel
theorem dX12_deeper_7 : decode cX12_deeper 7 = .ok (.aload_n 0, 1) := by decide +kernel
theorem dX12_deeper_8 : decode cX12_deeper 8 = .ok (.getfield 366, 3) := by decide +kernel
theorem dX12_deeper_11 : decode cX12_deeper 11 = .ok (.bipush 20, 2) := by decide +kernel
theorem dX12_deeper_13 : decode cX12_deeper 13 = .ok (.if_icmp .ne 8, 3) := by decide +kernel
theorem dX12_deeper_16 : decode cX12_deeper 16 = .ok (.aload_n 0, 1) := by decide +kernel
theorem dX12_deeper_17 : decode cX12_deeper 17 = .ok (.iconst 2, 1) := by decide +kernel
theorem dX12_deeper_18 : decode cX12_deeper 18 = .ok (.invokevirtual 356, 3) := by decide +kernel
set_option maxHeartbeats 2000000 in
set_option maxRecDepth 100000 in
/-- deeper() -/
theorem R_deeper (l : Launch) (G : pT) (h0 : Nat) (a : Nat → Nat) (F : Nat → Int32) (B : Nat → Nat → Int32) (at0 : Nat) (T : Nat) (fa : Nat) (K : Nat → Int32) (ne : Nat) (hat : at0 ≤ T) (hT : T ≤ 5000) (hK : K T = 0 ∨ K T = 3) (hfa : fa ≤ 100) (hne : ne ≤ 1000) : PM l G pX0 yX12_deeper cX12_deeper 1 none ({ frames := 4, cells := 0, slots := 0, locals := 103 }) [.ref h0] (mW G h0 a (upd (upd (upd F 15 (nI fa)) 64 (nI at0)) 65 (nI ne)) (updA B 2 K)) (fun (v : Option Value) (u : Nat × Int32) => v = none ∧ (fa ≤ u.1) ∧ (u.1 ≤ 100) ∧ (If (0 < fa) (u.1 = fa)) ∧ (If (ne ≤ 20) (ne + 1 ≤ 20 + u.1))) (fun u => (mW G h0 a (upd (upd (upd (upd F 15 (nI u.1)) 16 u.2) 64 (nI at0)) 65 (nI (ne + 1))) (updA B 2 K))) := by
  intro sz
  refine Met.ofW (cc := cX12_deeper) (maxL := 1) (ret := none) (by decide) rfl ?_
  intro p e s m args below meth c s₁ B9 hml hv
  obtain ⟨rfl, hsz, hP, hD0, hE, hX⟩ := hv
  have hx := B9.exec
  have hb := B9.bytes
  have hr := B9.returns
  have hts := atoms_spec (ws := Cond.code yX12_deeper cX12_deeper 1 none :: pw) B9.pre
  have hq : ∀ w ∈ pw, w.before _ s = true := fun w h => hts w (List.mem_cons_of_mem _ h)
  have hown : s.vm.findClass RX12 = some m.cls := findClass_of_methodNamed B9.named
  have hlocks := B9.notSynchronized
  subst hsz
  have hD := hD0.self (sz := s.heap.size)
  have hA : ∀ q : Nat, s.heap.size ≤ q → va_A (mW G h0 a (upd (upd (upd F 15 (nI fa)) 64 (nI at0)) 65 (nI ne)) (updA B 2 K)) s.heap.size q := fun q h => Or.inr h
  have hP : va_P G.1 pCl (mW G h0 a (upd (upd (upd F 15 (nI fa)) 64 (nI at0)) 65 (nI ne)) (updA B 2 K)) s.heap := hP
  generalize va_A (mW G h0 a (upd (upd (upd F 15 (nI fa)) 64 (nI at0)) 65 (nI ne)) (updA B 2 K)) s.heap.size = A at hD hE hA ⊢
  have hS : va_S A s.heap s.heap [] := va_S.rf
  have hl := lv_entry ([.ref h0]) (n := 1) (Nat.le_of_ble_eq_true rfl)
  rw [lg_entry_eq]
  generalize (lg_sl ([.ref h0]) ++ List.replicate (1 - (lg_sl ([.ref h0])).length) Slot.unset).toArray = ls at hl ⊢
  have hl : lv_has ls 1 [(0, .ref h0)] := hl
  refine lv_aload_n hx hb dX12_deeper_0 rfl (lv_at hl 0 rfl) ?_
  refine r_get (v := .int (nI fa)) hx hb hown hq hE hP 15 350 tFX12_15 (by decide) pw_1594 rfl dX12_deeper_1 ?_
  refine lv_if_ne (tgt := 21) hx hb dX12_deeper_4 (by decide) (fun c1 => ?_) (fun c1 => ?_)
  · have n2 : ¬ (fa = 0) := fun h9 => c1 ((nI_eq (a := fa) (b := 0) (by omega) (by omega)).mpr h9)
    refine lv_aload_n hx hb dX12_deeper_21 rfl (lv_at hl 0 rfl) ?_
    refine lv_dup hx hb dX12_deeper_22 rfl ?_
    refine r_get (v := .int (nI ne)) hx hb hown hq hE hP 65 366 tFX12_65 (by decide) pw_1612 rfl dX12_deeper_23 ?_
    refine lv_iconst (v := 1) hx hb dX12_deeper_26 (by decide) ?_
    refine lv_iadd hx hb dX12_deeper_27 ?_
    refine lv_topi (fun x3 e4 => ?_)
    obtain rfl : x3 = nI (ne + 1) := e4.trans (nI_add (ne) (1))
    refine r_put (v := (nI (ne + 1))) (ty := .int) hx hb hown hq hE hP hD hS 65 366 tFX12_65 (by decide) pw_1612 (by decide) rfl rfl (ms_65 a _ _) dX12_deeper_28 (fun H locs hP hD hS => ?_)
    have hz5 : fa ≤ fa := (by omega)
    have hz6 : fa ≤ 100 := (by omega)
    have hz7 : If (0 < fa) (fa = fa) := (fun h9 => by omega)
    have hz8 : If (ne ≤ 20) (ne + 1 ≤ 20 + fa) := (fun h9 => by omega)
    have hP : va_P G.1 pCl (mW G h0 a (upd (upd (upd (upd F 15 (nI fa)) 16 (F 16)) 64 (nI at0)) 65 (nI (ne + 1))) (updA B 2 K)) _ := mW_to (F := F) (l1 := [(15, (nI fa)), (64, (nI at0)), (65, (nI ne)), (65, (nI (ne + 1)))]) (l2 := [(15, (nI fa)), (16, (F 16)), (64, (nI at0)), (65, (nI (ne + 1)))]) (V := [(nI fa), (nI at0), (nI (ne + 1)), (nI (ne + 1)), (nI fa), (F 16), (nI at0), (nI (ne + 1))]) rfl rfl rfl hP
    have hD : va_D A (mW G h0 a (upd (upd (upd (upd F 15 (nI fa)) 16 (F 16)) 64 (nI at0)) 65 (nI (ne + 1))) (updA B 2 K)) := mW_D hD
    exact W.vret hx hb hr (fun t9 ht9 hW9 => ⟨⟨_, (fa, (F 16)), rfl, ⟨rfl, hz5, hz6, hz7, hz8⟩, by rw [ht9]; exact hP, hD⟩, hS.F ht9⟩) hS.2.2 dX12_deeper_31
  · have n9 : fa = 0 := (nI_eq (a := fa) (b := 0) (by omega) (by omega)).mp c1
    refine lv_aload_n hx hb dX12_deeper_7 rfl (lv_at hl 0 rfl) ?_
    refine r_get (v := .int (nI ne)) hx hb hown hq hE hP 65 366 tFX12_65 (by decide) pw_1612 rfl dX12_deeper_8 ?_
    refine lv_bipush (v := 20) hx hb dX12_deeper_11 (by decide) ?_
    refine lv_icmp_ne (tgt := 21) hx hb dX12_deeper_13 (by decide) (fun c10 => ?_) (fun c10 => ?_)
    · have n11 : ¬ (ne = 20) := fun h9 => c10 ((nI_eq (a := ne) (b := 20) (by omega) (by omega)).mpr h9)
      refine lv_aload_n hx hb dX12_deeper_21 rfl (lv_at hl 0 rfl) ?_
      refine lv_dup hx hb dX12_deeper_22 rfl ?_
      refine r_get (v := .int (nI ne)) hx hb hown hq hE hP 65 366 tFX12_65 (by decide) pw_1612 rfl dX12_deeper_23 ?_
      refine lv_iconst (v := 1) hx hb dX12_deeper_26 (by decide) ?_
      refine lv_iadd hx hb dX12_deeper_27 ?_
      refine lv_topi (fun x12 e13 => ?_)
      obtain rfl : x12 = nI (ne + 1) := e13.trans (nI_add (ne) (1))
      refine r_put (v := (nI (ne + 1))) (ty := .int) hx hb hown hq hE hP hD hS 65 366 tFX12_65 (by decide) pw_1612 (by decide) rfl rfl (ms_65 a _ _) dX12_deeper_28 (fun H locs hP hD hS => ?_)
      have hz14 : fa ≤ fa := (by omega)
      have hz15 : fa ≤ 100 := (by omega)
      have hz16 : If (0 < fa) (fa = fa) := (fun h9 => by omega)
      have hz17 : If (ne ≤ 20) (ne + 1 ≤ 20 + fa) := (fun h9 => by omega)
      have hP : va_P G.1 pCl (mW G h0 a (upd (upd (upd (upd F 15 (nI fa)) 16 (F 16)) 64 (nI at0)) 65 (nI (ne + 1))) (updA B 2 K)) _ := mW_to (F := F) (l1 := [(15, (nI fa)), (64, (nI at0)), (65, (nI ne)), (65, (nI (ne + 1)))]) (l2 := [(15, (nI fa)), (16, (F 16)), (64, (nI at0)), (65, (nI (ne + 1)))]) (V := [(nI fa), (nI at0), (nI (ne + 1)), (nI (ne + 1)), (nI fa), (F 16), (nI at0), (nI (ne + 1))]) rfl rfl rfl hP
      have hD : va_D A (mW G h0 a (upd (upd (upd (upd F 15 (nI fa)) 16 (F 16)) 64 (nI at0)) 65 (nI (ne + 1))) (updA B 2 K)) := mW_D hD
      exact W.vret hx hb hr (fun t9 ht9 hW9 => ⟨⟨_, (fa, (F 16)), rfl, ⟨rfl, hz14, hz15, hz16, hz17⟩, by rw [ht9]; exact hP, hD⟩, hS.F ht9⟩) hS.2.2 dX12_deeper_31
    · have n18 : ne = 20 := (nI_eq (a := ne) (b := 20) (by omega) (by omega)).mp c10
      refine lv_aload_n hx hb dX12_deeper_16 rfl (lv_at hl 0 rfl) ?_
      refine lv_iconst (v := 2) hx hb dX12_deeper_17 (by decide) ?_
      have hP : va_P G.1 pCl (mW G h0 a (upd (upd (upd (upd (upd F 15 (nI fa)) 64 (nI at0)) 65 (nI ne)) 15 (nI fa)) 64 (nI at0)) (updA (updA B 2 K) 2 K)) _ := mW_to (F := F) (l1 := [(15, (nI fa)), (64, (nI at0)), (65, (nI ne))]) (l2 := [(15, (nI fa)), (64, (nI at0)), (65, (nI ne)), (15, (nI fa)), (64, (nI at0))]) (V := [(nI fa), (nI at0), (nI ne), (nI fa), (nI at0), (nI ne), (nI fa), (nI at0)]) rfl rfl (show (updA B 2 K) = (updA (updA B 2 K) 2 K) from updsA_eq2 (F := B) (l1 := [(2, K)]) (l2 := [(2, K), (2, K)]) (V := [K, K, K]) rfl rfl) hP
      have hD : va_D A (mW G h0 a (upd (upd (upd (upd (upd F 15 (nI fa)) 64 (nI at0)) 65 (nI ne)) 15 (nI fa)) 64 (nI at0)) (updA (updA B 2 K) 2 K)) := mW_D hD
      refine pc_V0 (G := G) (As := [.int (nI 2)]) (rest := []) hx hb hml hown hq hE hX pX0_al hP hD hS hA hl.1 (R_bad l G h0 a (upd (upd (upd F 15 (nI fa)) 64 (nI at0)) 65 (nI ne)) (updA B 2 K) at0 T fa K 2 (by omega) (by omega) hK (by omega) (by omega) (by omega)) (gV pw_1602 pw_1603 pw_1604 pw_1523 pw_1596) hV_X12_bad 0 9 rfl rfl rfl rfl (Nat.le_of_ble_eq_true rfl) dX12_deeper_18 ⟨Nat.le_of_ble_eq_true rfl, Nat.le_of_ble_eq_true rfl⟩ ⟨Nat.le_of_ble_eq_true rfl, Nat.le_of_ble_eq_true rfl⟩ (fun v21 u19 H locs hw20 hP hD hS => ?_)
      obtain ⟨fa22, pl23⟩ := u19
      obtain ⟨hw20, h24, h25, h26, h27⟩ := hw20
      have h24 : fa ≤ fa22 := h24
      have h25 : fa22 ≤ fa + 2 := h25
      have h26 : 0 < fa22 := h26
      have h27 : If (0 < fa) (fa22 = fa) := h27
      obtain rfl : v21 = none := hw20
      have hP : va_P G.1 pCl (mW G h0 a (upd (upd (upd (upd F 15 (nI fa22)) 16 pl23) 64 (nI at0)) 65 (nI ne)) (updA B 2 K)) _ := mW_to (F := F) (l1 := [(15, (nI fa)), (64, (nI at0)), (65, (nI ne)), (15, (nI fa22)), (16, pl23), (64, (nI at0))]) (l2 := [(15, (nI fa22)), (16, pl23), (64, (nI at0)), (65, (nI ne))]) (V := [(nI fa22), (nI at0), (nI ne), (nI fa22), pl23, (nI at0), (nI fa22), pl23, (nI at0), (nI ne)]) rfl rfl (show (updA (updA B 2 K) 2 K) = (updA B 2 K) from updsA_eq2 (F := B) (l1 := [(2, K), (2, K)]) (l2 := [(2, K)]) (V := [K, K, K]) rfl rfl) hP
      have hD : va_D A (mW G h0 a (upd (upd (upd (upd F 15 (nI fa22)) 16 pl23) 64 (nI at0)) 65 (nI ne)) (updA B 2 K)) := mW_D hD
      refine W.widen (k := 0) (n := 0) (Nat.le_of_ble_eq_true rfl) (Nat.le_of_ble_eq_true rfl) ?_
      refine W.eq (g2 := F0 m 21 ls []) rfl ?_
      refine lv_aload_n hx hb dX12_deeper_21 rfl (lv_at hl 0 rfl) ?_
      refine lv_dup hx hb dX12_deeper_22 rfl ?_
      refine r_get (v := .int (nI ne)) hx hb hown hq hE hP 65 366 tFX12_65 (by decide) pw_1612 rfl dX12_deeper_23 ?_
      refine lv_iconst (v := 1) hx hb dX12_deeper_26 (by decide) ?_
      refine lv_iadd hx hb dX12_deeper_27 ?_
      refine lv_topi (fun x28 e29 => ?_)
      obtain rfl : x28 = nI (ne + 1) := e29.trans (nI_add (ne) (1))
      refine r_put (v := (nI (ne + 1))) (ty := .int) hx hb hown hq hE hP hD hS 65 366 tFX12_65 (by decide) pw_1612 (by decide) rfl rfl (ms_65 a _ _) dX12_deeper_28 (fun H locs hP hD hS => ?_)
      have hz30 : fa ≤ fa22 := (by omega)
      have hz31 : fa22 ≤ 100 := (by omega)
      have hz32 : If (0 < fa) (fa22 = fa) := (fun h9 => by omega)
      have hz33 : If (ne ≤ 20) (ne + 1 ≤ 20 + fa22) := (fun h9 => by omega)
      have hP : va_P G.1 pCl (mW G h0 a (upd (upd (upd (upd F 15 (nI fa22)) 16 pl23) 64 (nI at0)) 65 (nI (ne + 1))) (updA B 2 K)) _ := mW_to (F := F) (l1 := [(15, (nI fa22)), (16, pl23), (64, (nI at0)), (65, (nI ne)), (65, (nI (ne + 1)))]) (l2 := [(15, (nI fa22)), (16, pl23), (64, (nI at0)), (65, (nI (ne + 1)))]) (V := [(nI fa22), pl23, (nI at0), (nI (ne + 1)), (nI (ne + 1)), (nI fa22), pl23, (nI at0), (nI (ne + 1))]) rfl rfl rfl hP
      have hD : va_D A (mW G h0 a (upd (upd (upd (upd F 15 (nI fa22)) 16 pl23) 64 (nI at0)) 65 (nI (ne + 1))) (updA B 2 K)) := mW_D hD
      exact W.vret hx hb hr (fun t9 ht9 hW9 => ⟨⟨_, (fa22, pl23), rfl, ⟨rfl, hz30, hz31, hz32, hz33⟩, by rw [ht9]; exact hP, hD⟩, hS.F ht9⟩) hS.2.2 dX12_deeper_31
theorem dX12_name_0 : decode cX12_name 0 = .ok (.aload_n 0, 1) := by decide +kernel
theorem dX12_name_1 : decode cX12_name 1 = .ok (.getfield 343, 3) := by decide +kernel
theorem dX12_name_4 : decode cX12_name 4 = .ok (.istore_n 1, 1) := by decide +kernel
theorem dX12_name_5 : decode cX12_name 5 = .ok (.aload_n 0, 1) := by decide +kernel
theorem dX12_name_6 : decode cX12_name 6 = .ok (.iconst 1, 1) := by decide +kernel
theorem dX12_name_7 : decode cX12_name 7 = .ok (.invokevirtual 369, 3) := by decide +kernel
theorem dX12_name_10 : decode cX12_name 10 = .ok (.iload_n 1, 1) := by decide +kernel
theorem dX12_name_11 : decode cX12_name 11 = .ok (.ireturn, 1) := by decide +kernel
theorem hV_X12_take : yX12_take.cls = RX12 ∧ yX12_take.cls ≠ "java/lang/invoke/MethodHandle" ∧ yX12_take.cls ≠ "java/lang/invoke/VarHandle" ∧ (parseMethodDescriptor yX12_take.desc).map (fun d => d.parameters.length) = some 1 := by decide +kernel
set_option maxHeartbeats 2000000 in
set_option maxRecDepth 100000 in
/-- name() -/
theorem R_name (l : Launch) (G : pT) (h0 : Nat) (a : Nat → Nat) (F : Nat → Int32) (B : Nat → Nat → Int32) (at0 : Nat) (T : Nat) (fa : Nat) (K : Nat → Int32) (hat : at0 ≤ T) (hT : T ≤ 5000) (hK : K T = 0 ∨ K T = 3) (hfa : fa ≤ 100) : PM l G pX0 yX12_name cX12_name 2 (some .int) ({ frames := 5, cells := 0, slots := 0, locals := 124 }) [.ref h0] (mW G h0 a (upd (upd F 15 (nI fa)) 64 (nI at0)) (updA B 2 K)) (fun (v : Option Value) (u : Nat × Nat × Int32) => v = some (.int (nI at0)) ∧ (at0 ≤ u.1) ∧ (u.1 ≤ T) ∧ (fa ≤ u.2.1) ∧ (u.2.1 ≤ 100) ∧ (If (0 < fa) (u.1 = at0 ∧ u.2.1 = fa)) ∧ (u.1 ≤ at0 + 1) ∧ (at0 + 1 ≤ u.1 + u.2.1) ∧ (If (u.2.1 = 0) (K at0 = 1))) (fun u => (mW G h0 a (upd (upd (upd F 15 (nI u.2.1)) 16 u.2.2) 64 (nI u.1)) (updA B 2 K))) := by
  intro sz
  refine Met.ofW (cc := cX12_name) (maxL := 2) (ret := (some .int)) (by decide) rfl ?_
  intro p e s m args below meth c s₁ B9 hml hv
  obtain ⟨rfl, hsz, hP, hD0, hE, hX⟩ := hv
  have hx := B9.exec
  have hb := B9.bytes
  have hr := B9.returns
  have hts := atoms_spec (ws := Cond.code yX12_name cX12_name 2 (some .int) :: pw) B9.pre
  have hq : ∀ w ∈ pw, w.before _ s = true := fun w h => hts w (List.mem_cons_of_mem _ h)
  have hown : s.vm.findClass RX12 = some m.cls := findClass_of_methodNamed B9.named
  have hlocks := B9.notSynchronized
  subst hsz
  have hD := hD0.self (sz := s.heap.size)
  have hA : ∀ q : Nat, s.heap.size ≤ q → va_A (mW G h0 a (upd (upd F 15 (nI fa)) 64 (nI at0)) (updA B 2 K)) s.heap.size q := fun q h => Or.inr h
  have hP : va_P G.1 pCl (mW G h0 a (upd (upd F 15 (nI fa)) 64 (nI at0)) (updA B 2 K)) s.heap := hP
  generalize va_A (mW G h0 a (upd (upd F 15 (nI fa)) 64 (nI at0)) (updA B 2 K)) s.heap.size = A at hD hE hA ⊢
  have hS : va_S A s.heap s.heap [] := va_S.rf
  have hl := lv_entry ([.ref h0]) (n := 2) (Nat.le_of_ble_eq_true rfl)
  rw [lg_entry_eq]
  generalize (lg_sl ([.ref h0]) ++ List.replicate (2 - (lg_sl ([.ref h0])).length) Slot.unset).toArray = ls at hl ⊢
  have hl : lv_has ls 2 [(0, .ref h0)] := hl
  refine lv_aload_n hx hb dX12_name_0 rfl (lv_at hl 0 rfl) ?_
  refine r_get (v := .int (nI at0)) hx hb hown hq hE hP 64 343 tFX12_64 (by decide) pw_1592 rfl dX12_name_1 ?_
  refine lv_istore_n (lv' := [(1, .int (nI at0)), (0, .ref h0)]) hx hb dX12_name_4 rfl hl (by decide) rfl (fun ls hl => ?_)
  refine lv_aload_n hx hb dX12_name_5 rfl (lv_at hl 1 rfl) ?_
  refine lv_iconst (v := 1) hx hb dX12_name_6 (by decide) ?_
  have hP : va_P G.1 pCl (mW G h0 a (upd (upd (upd (upd F 15 (nI fa)) 64 (nI at0)) 15 (nI fa)) 64 (nI at0)) (updA (updA B 2 K) 2 K)) _ := mW_to (F := F) (l1 := [(15, (nI fa)), (64, (nI at0))]) (l2 := [(15, (nI fa)), (64, (nI at0)), (15, (nI fa)), (64, (nI at0))]) (V := [(nI fa), (nI at0), (nI fa), (nI at0), (nI fa), (nI at0)]) rfl rfl (show (updA B 2 K) = (updA (updA B 2 K) 2 K) from updsA_eq2 (F := B) (l1 := [(2, K)]) (l2 := [(2, K), (2, K)]) (V := [K, K, K]) rfl rfl) hP
  have hD : va_D A (mW G h0 a (upd (upd (upd (upd F 15 (nI fa)) 64 (nI at0)) 15 (nI fa)) 64 (nI at0)) (updA (updA B 2 K) 2 K)) := mW_D hD
  refine pc_V0 (G := G) (As := [.int 1]) (rest := []) hx hb hml hown hq hE hX pX0_al hP hD hS hA hl.1 (R_take l G h0 a (upd (upd F 15 (nI fa)) 64 (nI at0)) (updA B 2 K) at0 T fa K 1 (by omega) (by omega) hK (by omega) (by decide) (by decide)) (gV pw_1614 pw_1615 pw_1616 pw_1523 pw_1601) hV_X12_take 0 9 rfl rfl rfl rfl (Nat.le_of_ble_eq_true rfl) dX12_name_7 ⟨Nat.le_of_ble_eq_true rfl, Nat.le_of_ble_eq_true rfl⟩ ⟨Nat.le_of_ble_eq_true rfl, Nat.le_of_ble_eq_true rfl⟩ (fun v3 u1 H locs hw2 hP hD hS => ?_)
  obtain ⟨at4, fa5, pl6⟩ := u1
  obtain ⟨hw2, h7, h8, h9, h10, h11, h12, h13, h14⟩ := hw2
  have h7 : at0 ≤ at4 := h7
  have h8 : at4 ≤ T := h8
  have h9 : fa ≤ fa5 := h9
  have h10 : fa5 ≤ 100 := h10
  have h11 : If (0 < fa) (at4 = at0 ∧ fa5 = fa) := h11
  have h12 : at4 ≤ at0 + 1 := h12
  have h13 : at0 + 1 ≤ at4 + fa5 := h13
  have h14 : If (fa5 = 0) (K at0 = 1) := h14
  obtain rfl : v3 = none := hw2
  have hP : va_P G.1 pCl (mW G h0 a (upd (upd (upd F 15 (nI fa5)) 16 pl6) 64 (nI at4)) (updA B 2 K)) _ := mW_to (F := F) (l1 := [(15, (nI fa)), (64, (nI at0)), (15, (nI fa5)), (16, pl6), (64, (nI at4))]) (l2 := [(15, (nI fa5)), (16, pl6), (64, (nI at4))]) (V := [(nI fa5), (nI at4), (nI fa5), pl6, (nI at4), (nI fa5), pl6, (nI at4)]) rfl rfl (show (updA (updA B 2 K) 2 K) = (updA B 2 K) from updsA_eq2 (F := B) (l1 := [(2, K), (2, K)]) (l2 := [(2, K)]) (V := [K, K, K]) rfl rfl) hP
  have hD : va_D A (mW G h0 a (upd (upd (upd F 15 (nI fa5)) 16 pl6) 64 (nI at4)) (updA B 2 K)) := mW_D hD
  refine W.widen (k := 0) (n := 0) (Nat.le_of_ble_eq_true rfl) (Nat.le_of_ble_eq_true rfl) ?_
  refine W.eq (g2 := F0 m 10 ls []) rfl ?_
  refine lv_iload_n hx hb dX12_name_10 rfl (lv_at hl 0 rfl) ?_
  have hz15 : at0 ≤ at4 := (by omega)
  have hz16 : at4 ≤ T := (by omega)
  have hz17 : fa ≤ fa5 := (by omega)
  have hz18 : fa5 ≤ 100 := (by omega)
  have hz19 : If (0 < fa) (at4 = at0 ∧ fa5 = fa) := h11
  have hz20 : at4 ≤ at0 + 1 := (by omega)
  have hz21 : at0 + 1 ≤ at4 + fa5 := (by omega)
  have hz22 : If (fa5 = 0) (K at0 = 1) := h14
  have hP : va_P G.1 pCl (mW G h0 a (upd (upd (upd F 15 (nI fa5)) 16 pl6) 64 (nI at4)) (updA B 2 K)) _ := hP
  have hD : va_D A (mW G h0 a (upd (upd (upd F 15 (nI fa5)) 16 pl6) 64 (nI at4)) (updA B 2 K)) := mW_D hD
  exact W.iret (v := (nI at0)) hx hb hr (fun t9 ht9 hW9 => ⟨⟨_, (at4, fa5, pl6), rfl, ⟨rfl, hz15, hz16, hz17, hz18, hz19, hz20, hz21, hz22⟩, by rw [ht9]; exact hP, hD⟩, hS.F ht9⟩) hS.2.2 dX12_name_11
theorem dX12_node_0 : decode cX12_node 0 = .ok (.aload_n 0, 1) := by decide +kernel
theorem dX12_node_1 : decode cX12_node 1 = .ok (.getfield 340, 3) := by decide +kernel
theorem dX12_node_4 : decode cX12_node 4 = .ok (.istore 6, 2) := by decide +kernel
theorem dX12_node_6 : decode cX12_node 6 = .ok (.aload_n 0, 1) := by decide +kernel
theorem dX12_node_7 : decode cX12_node 7 = .ok (.dup, 1) := by decide +kernel
theorem dX12_node_8 : decode cX12_node 8 = .ok (.getfield 340, 3) := by decide +kernel
theorem dX12_node_11 : decode cX12_node 11 = .ok (.iconst 1, 1) := by decide +kernel
theorem dX12_node_12 : decode cX12_node 12 = .ok (.iadd, 1) := by decide +kernel
theorem dX12_node_13 : decode cX12_node 13 = .ok (.putfield 340, 3) := by decide +kernel
theorem dX12_node_16 : decode cX12_node 16 = .ok (.aload_n 0, 1) := by decide +kernel
theorem dX12_node_17 : decode cX12_node 17 = .ok (.getfield 38, 3) := by decide +kernel
theorem dX12_node_20 : decode cX12_node 20 = .ok (.iload 6, 2) := by decide +kernel
theorem dX12_node_22 : decode cX12_node 22 = .ok (.iload_n 1, 1) := by decide +kernel
theorem dX12_node_23 : decode cX12_node 23 = .ok (.iastore, 1) := by decide +kernel
theorem dX12_node_24 : decode cX12_node 24 = .ok (.aload_n 0, 1) := by decide +kernel
theorem dX12_node_25 : decode cX12_node 25 = .ok (.getfield 41, 3) := by decide +kernel
theorem dX12_node_28 : decode cX12_node 28 = .ok (.iload 6, 2) := by decide +kernel
theorem dX12_node_30 : decode cX12_node 30 = .ok (.iload_n 2, 1) := by decide +kernel
theorem dX12_node_31 : decode cX12_node 31 = .ok (.iastore, 1) := by decide +kernel
theorem dX12_node_32 : decode cX12_node 32 = .ok (.aload_n 0, 1) := by decide +kernel
theorem dX12_node_33 : decode cX12_node 33 = .ok (.getfield 44, 3) := by decide +kernel
theorem dX12_node_36 : decode cX12_node 36 = .ok (.iload 6, 2) := by decide +kernel
theorem dX12_node_38 : decode cX12_node 38 = .ok (.iload_n 3, 1) := by decide +kernel
theorem dX12_node_39 : decode cX12_node 39 = .ok (.iastore, 1) := by decide +kernel
theorem dX12_node_40 : decode cX12_node 40 = .ok (.aload_n 0, 1) := by decide +kernel
theorem dX12_node_41 : decode cX12_node 41 = .ok (.getfield 47, 3) := by decide +kernel
theorem dX12_node_44 : decode cX12_node 44 = .ok (.iload 6, 2) := by decide +kernel
theorem dX12_node_46 : decode cX12_node 46 = .ok (.iload 4, 2) := by decide +kernel
theorem dX12_node_48 : decode cX12_node 48 = .ok (.iastore, 1) := by decide +kernel
theorem dX12_node_49 : decode cX12_node 49 = .ok (.aload_n 0, 1) := by decide +kernel
theorem dX12_node_50 : decode cX12_node 50 = .ok (.getfield 50, 3) := by decide +kernel
theorem dX12_node_53 : decode cX12_node 53 = .ok (.iload 6, 2) := by decide +kernel
theorem dX12_node_55 : decode cX12_node 55 = .ok (.iload 5, 2) := by decide +kernel
theorem dX12_node_57 : decode cX12_node 57 = .ok (.iastore, 1) := by decide +kernel
theorem dX12_node_58 : decode cX12_node 58 = .ok (.aload_n 0, 1) := by decide +kernel
theorem dX12_node_59 : decode cX12_node 59 = .ok (.getfield 53, 3) := by decide +kernel
theorem dX12_node_62 : decode cX12_node 62 = .ok (.iload 6, 2) := by decide +kernel
theorem dX12_node_64 : decode cX12_node 64 = .ok (.iconst (-1), 1) := by decide +kernel
theorem dX12_node_65 : decode cX12_node 65 = .ok (.iastore, 1) := by decide +kernel
theorem dX12_node_66 : decode cX12_node 66 = .ok (.aload_n 0, 1) := by decide +kernel
theorem dX12_node_67 : decode cX12_node 67 = .ok (.getfield 56, 3) := by decide +kernel
theorem dX12_node_70 : decode cX12_node 70 = .ok (.iload 6, 2) := by decide +kernel
theorem dX12_node_72 : decode cX12_node 72 = .ok (.iconst (-1), 1) := by decide +kernel
theorem dX12_node_73 : decode cX12_node 73 = .ok (.iastore, 1) := by decide +kernel
theorem dX12_node_74 : decode cX12_node 74 = .ok (.aload_n 0, 1) := by decide +kernel
theorem dX12_node_75 : decode cX12_node 75 = .ok (.getfield 59, 3) := by decide +kernel
theorem dX12_node_78 : decode cX12_node 78 = .ok (.iload 6, 2) := by decide +kernel
theorem dX12_node_80 : decode cX12_node 80 = .ok (.iconst (-1), 1) := by decide +kernel
theorem dX12_node_81 : decode cX12_node 81 = .ok (.iastore, 1) := by decide +kernel
theorem dX12_node_82 : decode cX12_node 82 = .ok (.aload_n 0, 1) := by decide +kernel
theorem dX12_node_83 : decode cX12_node 83 = .ok (.getfield 62, 3) := by decide +kernel
theorem dX12_node_86 : decode cX12_node 86 = .ok (.iload 6, 2) := by decide +kernel
theorem dX12_node_88 : decode cX12_node 88 = .ok (.iconst 0, 1) := by decide +kernel
theorem dX12_node_89 : decode cX12_node 89 = .ok (.iastore, 1) := by decide +kernel
theorem dX12_node_90 : decode cX12_node 90 = .ok (.aload_n 0, 1) := by decide +kernel
theorem dX12_node_91 : decode cX12_node 91 = .ok (.getfield 65, 3) := by decide +kernel
theorem dX12_node_94 : decode cX12_node 94 = .ok (.iload 6, 2) := by decide +kernel
theorem dX12_node_96 : decode cX12_node 96 = .ok (.iconst (-1), 1) := by decide +kernel
theorem dX12_node_97 : decode cX12_node 97 = .ok (.iastore, 1) := by decide +kernel
theorem dX12_node_98 : decode cX12_node 98 = .ok (.iload 6, 2) := by decide +kernel
theorem dX12_node_100 : decode cX12_node 100 = .ok (.ireturn, 1) := by decide +kernel
set_option maxHeartbeats 2000000 in
set_option maxRecDepth 100000 in
/-- node(kind, first, token, a, b) -/
theorem R_node (l : Launch) (G : pT) (h0 : Nat) (a : Nat → Nat) (F : Nat → Int32) (B : Nat → Nat → Int32) (kd : Int32) (fi : Int32) (tk : Int32) (xa : Int32) (xb : Int32) (nd : Nat) (hnd : nd < 12000) : PM l G pX0 yX12_node cX12_node 7 (some .int) ({ frames := 2, cells := 0, slots := 0, locals := 60 }) [.ref h0, .int kd, .int fi, .int tk, .int xa, .int xb] (mW G h0 a (upd F 27 (nI nd)) B) (fun (v : Option Value) (u : Unit) => v = some (.int (nI nd))) (fun u => (mW G h0 a (upd F 27 (nI (nd + 1))) (updA (updA (updA (updA (updA (updA (updA (updA (updA (updA B 9 (upd (B 9) nd kd)) 10 (upd (B 10) nd fi)) 11 (upd (B 11) nd tk)) 12 (upd (B 12) nd xa)) 13 (upd (B 13) nd xb)) 14 (upd (B 14) nd (-1))) 15 (upd (B 15) nd (-1))) 16 (upd (B 16) nd (-1))) 17 (upd (B 17) nd 0)) 18 (upd (B 18) nd (-1))))) := by
  intro sz
  refine Met.ofW (cc := cX12_node) (maxL := 7) (ret := (some .int)) (by decide) rfl ?_
  intro p e s m args below meth c s₁ B9 hml hv
  obtain ⟨rfl, hsz, hP, hD0, hE, hX⟩ := hv
  have hx := B9.exec
  have hb := B9.bytes
  have hr := B9.returns
  have hts := atoms_spec (ws := Cond.code yX12_node cX12_node 7 (some .int) :: pw) B9.pre
  have hq : ∀ w ∈ pw, w.before _ s = true := fun w h => hts w (List.mem_cons_of_mem _ h)
  have hown : s.vm.findClass RX12 = some m.cls := findClass_of_methodNamed B9.named
  have hlocks := B9.notSynchronized
  subst hsz
  have hD := hD0.self (sz := s.heap.size)
  have hA : ∀ q : Nat, s.heap.size ≤ q → va_A (mW G h0 a (upd F 27 (nI nd)) B) s.heap.size q := fun q h => Or.inr h
  have hP : va_P G.1 pCl (mW G h0 a (upd F 27 (nI nd)) B) s.heap := hP
  generalize va_A (mW G h0 a (upd F 27 (nI nd)) B) s.heap.size = A at hD hE hA ⊢
  have hS : va_S A s.heap s.heap [] := va_S.rf
  have hl := lv_entry ([.ref h0, .int kd, .int fi, .int tk, .int xa, .int xb]) (n := 7) (Nat.le_of_ble_eq_true rfl)
  rw [lg_entry_eq]
  generalize (lg_sl ([.ref h0, .int kd, .int fi, .int tk, .int xa, .int xb]) ++ List.replicate (7 - (lg_sl ([.ref h0, .int kd, .int fi, .int tk, .int xa, .int xb])).length) Slot.unset).toArray = ls at hl ⊢
  have hl : lv_has ls 7 [(0, .ref h0), (1, .int kd), (2, .int fi), (3, .int tk), (4, .int xa), (5, .int xb)] := hl
  refine lv_aload_n hx hb dX12_node_0 rfl (lv_at hl 0 rfl) ?_
  refine r_get (v := .int (nI nd)) hx hb hown hq hE hP 27 340 tFX12_27 (by decide) pw_1590 rfl dX12_node_1 ?_
  refine lv_istore (lv' := [(6, .int (nI nd)), (0, .ref h0), (1, .int kd), (2, .int fi), (3, .int tk), (4, .int xa), (5, .int xb)]) hx hb dX12_node_4 hl (by decide) rfl (fun ls hl => ?_)
  refine lv_aload_n hx hb dX12_node_6 rfl (lv_at hl 1 rfl) ?_
  refine lv_dup hx hb dX12_node_7 rfl ?_
  refine r_get (v := .int (nI nd)) hx hb hown hq hE hP 27 340 tFX12_27 (by decide) pw_1590 rfl dX12_node_8 ?_
  refine lv_iconst (v := 1) hx hb dX12_node_11 (by decide) ?_
  refine lv_iadd hx hb dX12_node_12 ?_
  refine lv_topi (fun x1 e2 => ?_)
  obtain rfl : x1 = nI (nd + 1) := e2.trans (nI_add (nd) (1))
  refine r_put (v := (nI (nd + 1))) (ty := .int) hx hb hown hq hE hP hD hS 27 340 tFX12_27 (by decide) pw_1590 (by decide) rfl rfl (ms_27 a _ _) dX12_node_13 (fun H locs hP hD hS => ?_)
  refine lv_aload_n hx hb dX12_node_16 rfl (lv_at hl 1 rfl) ?_
  refine r_get (v := .ref (a 9)) hx hb hown hq hE hP 17 38 tFX12_17 (by decide) pw_1439 rfl dX12_node_17 ?_
  refine lv_iload hx hb dX12_node_20 (lv_at hl 0 rfl) ?_
  refine lv_iload_n hx hb dX12_node_22 rfl (lv_at hl 2 rfl) ?_
  refine r_sti (f := (B 9)) (j := nd) hx hb hE hP hD hS 9 (ma_9 G a _) rfl (mas_9 G a _) (by omega) (by decide) dX12_node_23 (fun H locs hP hD hS => ?_)
  refine lv_aload_n hx hb dX12_node_24 rfl (lv_at hl 1 rfl) ?_
  refine r_get (v := .ref (a 10)) hx hb hown hq hE hP 18 41 tFX12_18 (by decide) pw_1440 rfl dX12_node_25 ?_
  refine lv_iload hx hb dX12_node_28 (lv_at hl 0 rfl) ?_
  refine lv_iload_n hx hb dX12_node_30 rfl (lv_at hl 3 rfl) ?_
  refine r_sti (f := (B 10)) (j := nd) hx hb hE hP hD hS 10 (ma_10 G a _) rfl (mas_10 G a _) (by omega) (by decide) dX12_node_31 (fun H locs hP hD hS => ?_)
  refine lv_aload_n hx hb dX12_node_32 rfl (lv_at hl 1 rfl) ?_
  refine r_get (v := .ref (a 11)) hx hb hown hq hE hP 19 44 tFX12_19 (by decide) pw_1441 rfl dX12_node_33 ?_
  refine lv_iload hx hb dX12_node_36 (lv_at hl 0 rfl) ?_
  refine lv_iload_n hx hb dX12_node_38 rfl (lv_at hl 4 rfl) ?_
  refine r_sti (f := (B 11)) (j := nd) hx hb hE hP hD hS 11 (ma_11 G a _) rfl (mas_11 G a _) (by omega) (by decide) dX12_node_39 (fun H locs hP hD hS => ?_)
  refine lv_aload_n hx hb dX12_node_40 rfl (lv_at hl 1 rfl) ?_
  refine r_get (v := .ref (a 12)) hx hb hown hq hE hP 20 47 tFX12_20 (by decide) pw_1442 rfl dX12_node_41 ?_
  refine lv_iload hx hb dX12_node_44 (lv_at hl 0 rfl) ?_
  refine lv_iload hx hb dX12_node_46 (lv_at hl 5 rfl) ?_
  refine r_sti (f := (B 12)) (j := nd) hx hb hE hP hD hS 12 (ma_12 G a _) rfl (mas_12 G a _) (by omega) (by decide) dX12_node_48 (fun H locs hP hD hS => ?_)
  refine lv_aload_n hx hb dX12_node_49 rfl (lv_at hl 1 rfl) ?_
  refine r_get (v := .ref (a 13)) hx hb hown hq hE hP 21 50 tFX12_21 (by decide) pw_1443 rfl dX12_node_50 ?_
  refine lv_iload hx hb dX12_node_53 (lv_at hl 0 rfl) ?_
  refine lv_iload hx hb dX12_node_55 (lv_at hl 6 rfl) ?_
  refine r_sti (f := (B 13)) (j := nd) hx hb hE hP hD hS 13 (ma_13 G a _) rfl (mas_13 G a _) (by omega) (by decide) dX12_node_57 (fun H locs hP hD hS => ?_)
  refine lv_aload_n hx hb dX12_node_58 rfl (lv_at hl 1 rfl) ?_
  refine r_get (v := .ref (a 14)) hx hb hown hq hE hP 22 53 tFX12_22 (by decide) pw_1444 rfl dX12_node_59 ?_
  refine lv_iload hx hb dX12_node_62 (lv_at hl 0 rfl) ?_
  refine lv_iconst (v := (-1)) hx hb dX12_node_64 (by decide) ?_
  refine r_sti (f := (B 14)) (j := nd) hx hb hE hP hD hS 14 (ma_14 G a _) rfl (mas_14 G a _) (by omega) (by decide) dX12_node_65 (fun H locs hP hD hS => ?_)
  refine lv_aload_n hx hb dX12_node_66 rfl (lv_at hl 1 rfl) ?_
  refine r_get (v := .ref (a 15)) hx hb hown hq hE hP 23 56 tFX12_23 (by decide) pw_1445 rfl dX12_node_67 ?_
  refine lv_iload hx hb dX12_node_70 (lv_at hl 0 rfl) ?_
  refine lv_iconst (v := (-1)) hx hb dX12_node_72 (by decide) ?_
  refine r_sti (f := (B 15)) (j := nd) hx hb hE hP hD hS 15 (ma_15 G a _) rfl (mas_15 G a _) (by omega) (by decide) dX12_node_73 (fun H locs hP hD hS => ?_)
  refine lv_aload_n hx hb dX12_node_74 rfl (lv_at hl 1 rfl) ?_
  refine r_get (v := .ref (a 16)) hx hb hown hq hE hP 24 59 tFX12_24 (by decide) pw_1446 rfl dX12_node_75 ?_
  refine lv_iload hx hb dX12_node_78 (lv_at hl 0 rfl) ?_
  refine lv_iconst (v := (-1)) hx hb dX12_node_80 (by decide) ?_
  refine r_sti (f := (B 16)) (j := nd) hx hb hE hP hD hS 16 (ma_16 G a _) rfl (mas_16 G a _) (by omega) (by decide) dX12_node_81 (fun H locs hP hD hS => ?_)
  refine lv_aload_n hx hb dX12_node_82 rfl (lv_at hl 1 rfl) ?_
  refine r_get (v := .ref (a 17)) hx hb hown hq hE hP 25 62 tFX12_25 (by decide) pw_1447 rfl dX12_node_83 ?_
  refine lv_iload hx hb dX12_node_86 (lv_at hl 0 rfl) ?_
  refine lv_iconst (v := 0) hx hb dX12_node_88 (by decide) ?_
  refine r_sti (f := (B 17)) (j := nd) hx hb hE hP hD hS 17 (ma_17 G a _) rfl (mas_17 G a _) (by omega) (by decide) dX12_node_89 (fun H locs hP hD hS => ?_)
  refine lv_aload_n hx hb dX12_node_90 rfl (lv_at hl 1 rfl) ?_
  refine r_get (v := .ref (a 18)) hx hb hown hq hE hP 26 65 tFX12_26 (by decide) pw_1448 rfl dX12_node_91 ?_
  refine lv_iload hx hb dX12_node_94 (lv_at hl 0 rfl) ?_
  refine lv_iconst (v := (-1)) hx hb dX12_node_96 (by decide) ?_
  refine r_sti (f := (B 18)) (j := nd) hx hb hE hP hD hS 18 (ma_18 G a _) rfl (mas_18 G a _) (by omega) (by decide) dX12_node_97 (fun H locs hP hD hS => ?_)
  refine lv_iload hx hb dX12_node_98 (lv_at hl 0 rfl) ?_
  have hP : va_P G.1 pCl (mW G h0 a (upd F 27 (nI (nd + 1))) (updA (updA (updA (updA (updA (updA (updA (updA (updA (updA B 9 (upd (B 9) nd kd)) 10 (upd (B 10) nd fi)) 11 (upd (B 11) nd tk)) 12 (upd (B 12) nd xa)) 13 (upd (B 13) nd xb)) 14 (upd (B 14) nd (-1))) 15 (upd (B 15) nd (-1))) 16 (upd (B 16) nd (-1))) 17 (upd (B 17) nd 0)) 18 (upd (B 18) nd (-1)))) _ := mW_to (F := F) (l1 := [(27, (nI nd)), (27, (nI (nd + 1)))]) (l2 := [(27, (nI (nd + 1)))]) (V := [(nI (nd + 1)), (nI (nd + 1)), (nI (nd + 1))]) rfl rfl rfl hP
  have hD : va_D A (mW G h0 a (upd F 27 (nI (nd + 1))) (updA (updA (updA (updA (updA (updA (updA (updA (updA (updA B 9 (upd (B 9) nd kd)) 10 (upd (B 10) nd fi)) 11 (upd (B 11) nd tk)) 12 (upd (B 12) nd xa)) 13 (upd (B 13) nd xb)) 14 (upd (B 14) nd (-1))) 15 (upd (B 15) nd (-1))) 16 (upd (B 16) nd (-1))) 17 (upd (B 17) nd 0)) 18 (upd (B 18) nd (-1)))) := mW_D hD
  exact W.iret (v := (nI nd)) hx hb hr (fun t9 ht9 hW9 => ⟨⟨_, (), rfl, rfl, by rw [ht9]; exact hP, hD⟩, hS.F ht9⟩) hS.2.2 dX12_node_100
theorem dX12_isSort_0 : decode cX12_isSort 0 = .ok (.aload_n 0, 1) := by decide +kernel
theorem dX12_isSort_1 : decode cX12_isSort 1 = .ok (.invokevirtual 381, 3) := by decide +kernel
theorem dX12_isSort_4 : decode cX12_isSort 4 = .ok (.sipush 323, 3) := by decide +kernel
theorem dX12_isSort_7 : decode cX12_isSort 7 = .ok (.if_icmp .eq 21, 3) := by decide +kernel
theorem dX12_isSort_28 : decode cX12_isSort 28 = .ok (.iconst 1, 1) := by decide +kernel
theorem dX12_isSort_29 : decode cX12_isSort 29 = .ok (.goto 4, 3) := by decide +kernel
theorem dX12_isSort_33 : decode cX12_isSort 33 = .ok (.ireturn, 1) := by decide +kernel
theorem dX12_isSort_10 : decode cX12_isSort 10 = .ok (.aload_n 0, 1) := by decide +kernel
theorem dX12_isSort_11 : decode cX12_isSort 11 = .ok (.invokevirtual 381, 3) := by decide +kernel
theorem dX12_isSort_14 : decode cX12_isSort 14 = .ok (.sipush 311, 3) := by decide +kernel
theorem dX12_isSort_17 : decode cX12_isSort 17 = .ok (.if_icmp .eq 11, 3) := by decide +kernel
theorem dX12_isSort_20 : decode cX12_isSort 20 = .ok (.aload_n 0, 1) := by decide +kernel
theorem dX12_isSort_21 : decode cX12_isSort 21 = .ok (.invokevirtual 381, 3) := by decide +kernel
theorem dX12_isSort_24 : decode cX12_isSort 24 = .ok (.iconst 1, 1) := by decide +kernel
theorem dX12_isSort_25 : decode cX12_isSort 25 = .ok (.if_icmp .ne 7, 3) := by decide +kernel
theorem dX12_isSort_32 : decode cX12_isSort 32 = .ok (.iconst 0, 1) := by decide +kernel
theorem hV_X12_kind : yX12_kind.cls = RX12 ∧ yX12_kind.cls ≠ "java/lang/invoke/MethodHandle" ∧ yX12_kind.cls ≠ "java/lang/invoke/VarHandle" ∧ (parseMethodDescriptor yX12_kind.desc).map (fun d => d.parameters.length) = some 0 := by decide +kernel
set_option maxHeartbeats 2000000 in
set_option maxRecDepth 100000 in
/-- isSort() -/
theorem R_isSort (l : Launch) (G : pT) (h0 : Nat) (a : Nat → Nat) (F : Nat → Int32) (B : Nat → Nat → Int32) (at0 : Nat) (T : Nat) (fa : Nat) (K : Nat → Int32) (hat : at0 ≤ T) (hT : T ≤ 5000) (hK : K T = 0 ∨ K T = 3) (hfa : fa ≤ 100) : PM l G pX0 yX12_isSort cX12_isSort 1 (some .boolean) ({ frames := 3, cells := 0, slots := 0, locals := 80 }) [.ref h0] (mW G h0 a (upd (upd F 15 (nI fa)) 64 (nI at0)) (updA B 2 K)) (fun (v : Option Value) (u : Nat) => v = some (.int (nI u)) ∧ (u ≤ 1) ∧ (at0 + u ≤ T)) (fun u => (mW G h0 a (upd (upd F 15 (nI fa)) 64 (nI at0)) (updA B 2 K))) := by
  intro sz
  refine Met.ofW (cc := cX12_isSort) (maxL := 1) (ret := (some .boolean)) (by decide) rfl ?_
  intro p e s m args below meth c s₁ B9 hml hv
  obtain ⟨rfl, hsz, hP, hD0, hE, hX⟩ := hv
  have hx := B9.exec
  have hb := B9.bytes
  have hr := B9.returns
  have hts := atoms_spec (ws := Cond.code yX12_isSort cX12_isSort 1 (some .boolean) :: pw) B9.pre
  have hq : ∀ w ∈ pw, w.before _ s = true := fun w h => hts w (List.mem_cons_of_mem _ h)
  have hown : s.vm.findClass RX12 = some m.cls := findClass_of_methodNamed B9.named
  have hlocks := B9.notSynchronized
  subst hsz
  have hD := hD0.self (sz := s.heap.size)
  have hA : ∀ q : Nat, s.heap.size ≤ q → va_A (mW G h0 a (upd (upd F 15 (nI fa)) 64 (nI at0)) (updA B 2 K)) s.heap.size q := fun q h => Or.inr h
  have hP : va_P G.1 pCl (mW G h0 a (upd (upd F 15 (nI fa)) 64 (nI at0)) (updA B 2 K)) s.heap := hP
  generalize va_A (mW G h0 a (upd (upd F 15 (nI fa)) 64 (nI at0)) (updA B 2 K)) s.heap.size = A at hD hE hA ⊢
  have hS : va_S A s.heap s.heap [] := va_S.rf
  have hl := lv_entry ([.ref h0]) (n := 1) (Nat.le_of_ble_eq_true rfl)
  rw [lg_entry_eq]
  generalize (lg_sl ([.ref h0]) ++ List.replicate (1 - (lg_sl ([.ref h0])).length) Slot.unset).toArray = ls at hl ⊢
  have hl : lv_has ls 1 [(0, .ref h0)] := hl
  refine lv_aload_n hx hb dX12_isSort_0 rfl (lv_at hl 0 rfl) ?_
  have hP : va_P G.1 pCl (mW G h0 a (upd (upd (upd (upd F 15 (nI fa)) 64 (nI at0)) 15 (nI fa)) 64 (nI at0)) (updA (updA B 2 K) 2 K)) _ := mW_to (F := F) (l1 := [(15, (nI fa)), (64, (nI at0))]) (l2 := [(15, (nI fa)), (64, (nI at0)), (15, (nI fa)), (64, (nI at0))]) (V := [(nI fa), (nI at0), (nI fa), (nI at0), (nI fa), (nI at0)]) rfl rfl (show (updA B 2 K) = (updA (updA B 2 K) 2 K) from updsA_eq2 (F := B) (l1 := [(2, K)]) (l2 := [(2, K), (2, K)]) (V := [K, K, K]) rfl rfl) hP
  have hD : va_D A (mW G h0 a (upd (upd (upd (upd F 15 (nI fa)) 64 (nI at0)) 15 (nI fa)) 64 (nI at0)) (updA (updA B 2 K) 2 K)) := mW_D hD
  refine pc_V0 (G := G) (As := []) (rest := []) hx hb hml hown hq hE hX pX0_al hP hD hS hA hl.1 (R_kind l G h0 a (upd (upd F 15 (nI fa)) 64 (nI at0)) (updA B 2 K) at0 T fa K (by omega) (by omega) hK (by omega)) (gV pw_1626 pw_1627 pw_1628 pw_1523 pw_1591) hV_X12_kind 0 9 rfl rfl rfl rfl (Nat.le_of_ble_eq_true rfl) dX12_isSort_1 ⟨Nat.le_of_ble_eq_true rfl, Nat.le_of_ble_eq_true rfl⟩ ⟨Nat.le_of_ble_eq_true rfl, Nat.le_of_ble_eq_true rfl⟩ (fun v3 u1 H locs hw2 hP hD hS => ?_)
  obtain rfl : v3 = some (.int (K at0)) := hw2
  have hP : va_P G.1 pCl (mW G h0 a (upd (upd F 15 (nI fa)) 64 (nI at0)) (updA B 2 K)) _ := mW_to (F := F) (l1 := [(15, (nI fa)), (64, (nI at0)), (15, (nI fa)), (64, (nI at0))]) (l2 := [(15, (nI fa)), (64, (nI at0))]) (V := [(nI fa), (nI at0), (nI fa), (nI at0), (nI fa), (nI at0)]) rfl rfl (show (updA (updA B 2 K) 2 K) = (updA B 2 K) from updsA_eq2 (F := B) (l1 := [(2, K), (2, K)]) (l2 := [(2, K)]) (V := [K, K, K]) rfl rfl) hP
  have hD : va_D A (mW G h0 a (upd (upd F 15 (nI fa)) 64 (nI at0)) (updA B 2 K)) := mW_D hD
  refine W.widen (k := 0) (n := 0) (Nat.le_of_ble_eq_true rfl) (Nat.le_of_ble_eq_true rfl) ?_
  refine W.eq (g2 := F0 m 4 ls [.int (K at0)]) rfl ?_
  refine lv_sipush (v := 323) hx hb dX12_isSort_4 (by decide) ?_
  refine lv_icmp_eq (tgt := 28) hx hb dX12_isSort_7 (by decide) (fun c4 => ?_) (fun c4 => ?_)
  · have n5 : at0 < T := tk_lt hat hK c4 (by decide) (by decide)
    refine lv_iconst (v := 1) hx hb dX12_isSort_28 (by decide) ?_
    refine lv_goto (tgt := 33) hx hb dX12_isSort_29 (by decide) ?_
    have hz6 : 1 ≤ 1 := (by omega)
    have hz7 : at0 + 1 ≤ T := (by omega)
    have hP : va_P G.1 pCl (mW G h0 a (upd (upd F 15 (nI fa)) 64 (nI at0)) (updA B 2 K)) _ := hP
    have hD : va_D A (mW G h0 a (upd (upd F 15 (nI fa)) 64 (nI at0)) (updA B 2 K)) := mW_D hD
    exact W.zret (v := 1) hx hb hr rfl (fun t9 ht9 hW9 => ⟨⟨_, 1, rfl, ⟨rfl, hz6, hz7⟩, by rw [ht9]; exact hP, hD⟩, hS.F ht9⟩) hS.2.2 dX12_isSort_33
  · refine lv_aload_n hx hb dX12_isSort_10 rfl (lv_at hl 0 rfl) ?_
    have hP : va_P G.1 pCl (mW G h0 a (upd (upd (upd (upd F 15 (nI fa)) 64 (nI at0)) 15 (nI fa)) 64 (nI at0)) (updA (updA B 2 K) 2 K)) _ := mW_to (F := F) (l1 := [(15, (nI fa)), (64, (nI at0))]) (l2 := [(15, (nI fa)), (64, (nI at0)), (15, (nI fa)), (64, (nI at0))]) (V := [(nI fa), (nI at0), (nI fa), (nI at0), (nI fa), (nI at0)]) rfl rfl (show (updA B 2 K) = (updA (updA B 2 K) 2 K) from updsA_eq2 (F := B) (l1 := [(2, K)]) (l2 := [(2, K), (2, K)]) (V := [K, K, K]) rfl rfl) hP
    have hD : va_D A (mW G h0 a (upd (upd (upd (upd F 15 (nI fa)) 64 (nI at0)) 15 (nI fa)) 64 (nI at0)) (updA (updA B 2 K) 2 K)) := mW_D hD
    refine pc_V0 (G := G) (As := []) (rest := []) hx hb hml hown hq hE hX pX0_al hP hD hS hA hl.1 (R_kind l G h0 a (upd (upd F 15 (nI fa)) 64 (nI at0)) (updA B 2 K) at0 T fa K (by omega) (by omega) hK (by omega)) (gV pw_1626 pw_1627 pw_1628 pw_1523 pw_1591) hV_X12_kind 0 9 rfl rfl rfl rfl (Nat.le_of_ble_eq_true rfl) dX12_isSort_11 ⟨Nat.le_of_ble_eq_true rfl, Nat.le_of_ble_eq_true rfl⟩ ⟨Nat.le_of_ble_eq_true rfl, Nat.le_of_ble_eq_true rfl⟩ (fun v10 u8 H locs hw9 hP hD hS => ?_)
    obtain rfl : v10 = some (.int (K at0)) := hw9
    have hP : va_P G.1 pCl (mW G h0 a (upd (upd F 15 (nI fa)) 64 (nI at0)) (updA B 2 K)) _ := mW_to (F := F) (l1 := [(15, (nI fa)), (64, (nI at0)), (15, (nI fa)), (64, (nI at0))]) (l2 := [(15, (nI fa)), (64, (nI at0))]) (V := [(nI fa), (nI at0), (nI fa), (nI at0), (nI fa), (nI at0)]) rfl rfl (show (updA (updA B 2 K) 2 K) = (updA B 2 K) from updsA_eq2 (F := B) (l1 := [(2, K), (2, K)]) (l2 := [(2, K)]) (V := [K, K, K]) rfl rfl) hP
    have hD : va_D A (mW G h0 a (upd (upd F 15 (nI fa)) 64 (nI at0)) (updA B 2 K)) := mW_D hD
    refine W.widen (k := 0) (n := 0) (Nat.le_of_ble_eq_true rfl) (Nat.le_of_ble_eq_true rfl) ?_
    refine W.eq (g2 := F0 m 14 ls [.int (K at0)]) rfl ?_
    refine lv_sipush (v := 311) hx hb dX12_isSort_14 (by decide) ?_
    refine lv_icmp_eq (tgt := 28) hx hb dX12_isSort_17 (by decide) (fun c11 => ?_) (fun c11 => ?_)
    · have n12 : at0 < T := tk_lt hat hK c11 (by decide) (by decide)
      refine lv_iconst (v := 1) hx hb dX12_isSort_28 (by decide) ?_
      refine lv_goto (tgt := 33) hx hb dX12_isSort_29 (by decide) ?_
      have hz13 : 1 ≤ 1 := (by omega)
      have hz14 : at0 + 1 ≤ T := (by omega)
      have hP : va_P G.1 pCl (mW G h0 a (upd (upd F 15 (nI fa)) 64 (nI at0)) (updA B 2 K)) _ := hP
      have hD : va_D A (mW G h0 a (upd (upd F 15 (nI fa)) 64 (nI at0)) (updA B 2 K)) := mW_D hD
      exact W.zret (v := 1) hx hb hr rfl (fun t9 ht9 hW9 => ⟨⟨_, 1, rfl, ⟨rfl, hz13, hz14⟩, by rw [ht9]; exact hP, hD⟩, hS.F ht9⟩) hS.2.2 dX12_isSort_33
    · refine lv_aload_n hx hb dX12_isSort_20 rfl (lv_at hl 0 rfl) ?_
      have hP : va_P G.1 pCl (mW G h0 a (upd (upd (upd (upd F 15 (nI fa)) 64 (nI at0)) 15 (nI fa)) 64 (nI at0)) (updA (updA B 2 K) 2 K)) _ := mW_to (F := F) (l1 := [(15, (nI fa)), (64, (nI at0))]) (l2 := [(15, (nI fa)), (64, (nI at0)), (15, (nI fa)), (64, (nI at0))]) (V := [(nI fa), (nI at0), (nI fa), (nI at0), (nI fa), (nI at0)]) rfl rfl (show (updA B 2 K) = (updA (updA B 2 K) 2 K) from updsA_eq2 (F := B) (l1 := [(2, K)]) (l2 := [(2, K), (2, K)]) (V := [K, K, K]) rfl rfl) hP
      have hD : va_D A (mW G h0 a (upd (upd (upd (upd F 15 (nI fa)) 64 (nI at0)) 15 (nI fa)) 64 (nI at0)) (updA (updA B 2 K) 2 K)) := mW_D hD
      refine pc_V0 (G := G) (As := []) (rest := []) hx hb hml hown hq hE hX pX0_al hP hD hS hA hl.1 (R_kind l G h0 a (upd (upd F 15 (nI fa)) 64 (nI at0)) (updA B 2 K) at0 T fa K (by omega) (by omega) hK (by omega)) (gV pw_1626 pw_1627 pw_1628 pw_1523 pw_1591) hV_X12_kind 0 9 rfl rfl rfl rfl (Nat.le_of_ble_eq_true rfl) dX12_isSort_21 ⟨Nat.le_of_ble_eq_true rfl, Nat.le_of_ble_eq_true rfl⟩ ⟨Nat.le_of_ble_eq_true rfl, Nat.le_of_ble_eq_true rfl⟩ (fun v17 u15 H locs hw16 hP hD hS => ?_)
      obtain rfl : v17 = some (.int (K at0)) := hw16
      have hP : va_P G.1 pCl (mW G h0 a (upd (upd F 15 (nI fa)) 64 (nI at0)) (updA B 2 K)) _ := mW_to (F := F) (l1 := [(15, (nI fa)), (64, (nI at0)), (15, (nI fa)), (64, (nI at0))]) (l2 := [(15, (nI fa)), (64, (nI at0))]) (V := [(nI fa), (nI at0), (nI fa), (nI at0), (nI fa), (nI at0)]) rfl rfl (show (updA (updA B 2 K) 2 K) = (updA B 2 K) from updsA_eq2 (F := B) (l1 := [(2, K), (2, K)]) (l2 := [(2, K)]) (V := [K, K, K]) rfl rfl) hP
      have hD : va_D A (mW G h0 a (upd (upd F 15 (nI fa)) 64 (nI at0)) (updA B 2 K)) := mW_D hD
      refine W.widen (k := 0) (n := 0) (Nat.le_of_ble_eq_true rfl) (Nat.le_of_ble_eq_true rfl) ?_
      refine W.eq (g2 := F0 m 24 ls [.int (K at0)]) rfl ?_
      refine lv_iconst (v := 1) hx hb dX12_isSort_24 (by decide) ?_
      refine lv_icmp_ne (tgt := 32) hx hb dX12_isSort_25 (by decide) (fun c18 => ?_) (fun c18 => ?_)
      · refine lv_iconst (v := 0) hx hb dX12_isSort_32 (by decide) ?_
        have hz19 : 0 ≤ 1 := (by omega)
        have hz20 : at0 + 0 ≤ T := (by omega)
        have hP : va_P G.1 pCl (mW G h0 a (upd (upd F 15 (nI fa)) 64 (nI at0)) (updA B 2 K)) _ := hP
        have hD : va_D A (mW G h0 a (upd (upd F 15 (nI fa)) 64 (nI at0)) (updA B 2 K)) := mW_D hD
        exact W.zret (v := 0) hx hb hr rfl (fun t9 ht9 hW9 => ⟨⟨_, 0, rfl, ⟨rfl, hz19, hz20⟩, by rw [ht9]; exact hP, hD⟩, hS.F ht9⟩) hS.2.2 dX12_isSort_33
      · have n21 : at0 < T := tk_lt hat hK c18 (by decide) (by decide)
        refine lv_iconst (v := 1) hx hb dX12_isSort_28 (by decide) ?_
        refine lv_goto (tgt := 33) hx hb dX12_isSort_29 (by decide) ?_
        have hz22 : 1 ≤ 1 := (by omega)
        have hz23 : at0 + 1 ≤ T := (by omega)
        have hP : va_P G.1 pCl (mW G h0 a (upd (upd F 15 (nI fa)) 64 (nI at0)) (updA B 2 K)) _ := hP
        have hD : va_D A (mW G h0 a (upd (upd F 15 (nI fa)) 64 (nI at0)) (updA B 2 K)) := mW_D hD
        exact W.zret (v := 1) hx hb hr rfl (fun t9 ht9 hW9 => ⟨⟨_, 1, rfl, ⟨rfl, hz22, hz23⟩, by rw [ht9]; exact hP, hD⟩, hS.F ht9⟩) hS.2.2 dX12_isSort_33
theorem dX12_isOperand_0 : decode cX12_isOperand 0 = .ok (.aload_n 0, 1) := by decide +kernel
theorem dX12_isOperand_1 : decode cX12_isOperand 1 = .ok (.invokevirtual 381, 3) := by decide +kernel
theorem dX12_isOperand_4 : decode cX12_isOperand 4 = .ok (.istore_n 1, 1) := by decide +kernel
theorem dX12_isOperand_5 : decode cX12_isOperand 5 = .ok (.iload_n 1, 1) := by decide +kernel
theorem dX12_isOperand_6 : decode cX12_isOperand 6 = .ok (.iconst 2, 1) := by decide +kernel
theorem dX12_isOperand_7 : decode cX12_isOperand 7 = .ok (.if_icmp .eq 63, 3) := by decide +kernel
theorem dX12_isOperand_70 : decode cX12_isOperand 70 = .ok (.iconst 1, 1) := by decide +kernel
theorem dX12_isOperand_71 : decode cX12_isOperand 71 = .ok (.goto 4, 3) := by decide +kernel
theorem dX12_isOperand_75 : decode cX12_isOperand 75 = .ok (.ireturn, 1) := by decide +kernel
theorem dX12_isOperand_10 : decode cX12_isOperand 10 = .ok (.iload_n 1, 1) := by decide +kernel
theorem dX12_isOperand_11 : decode cX12_isOperand 11 = .ok (.sipush 335, 3) := by decide +kernel
theorem dX12_isOperand_14 : decode cX12_isOperand 14 = .ok (.if_icmp .eq 56, 3) := by decide +kernel
theorem dX12_isOperand_17 : decode cX12_isOperand 17 = .ok (.iload_n 1, 1) := by decide +kernel
theorem dX12_isOperand_18 : decode cX12_isOperand 18 = .ok (.sipush 318, 3) := by decide +kernel
theorem dX12_isOperand_21 : decode cX12_isOperand 21 = .ok (.if_icmp .eq 49, 3) := by decide +kernel
theorem dX12_isOperand_24 : decode cX12_isOperand 24 = .ok (.iload_n 1, 1) := by decide +kernel
theorem dX12_isOperand_25 : decode cX12_isOperand 25 = .ok (.sipush 328, 3) := by decide +kernel
theorem dX12_isOperand_28 : decode cX12_isOperand 28 = .ok (.if_icmp .eq 42, 3) := by decide +kernel
theorem dX12_isOperand_31 : decode cX12_isOperand 31 = .ok (.iload_n 1, 1) := by decide +kernel
theorem dX12_isOperand_32 : decode cX12_isOperand 32 = .ok (.sipush 333, 3) := by decide +kernel
theorem dX12_isOperand_35 : decode cX12_isOperand 35 = .ok (.if_icmp .eq 35, 3) := by decide +kernel
theorem dX12_isOperand_38 : decode cX12_isOperand 38 = .ok (.iload_n 1, 1) := by decide +kernel
theorem dX12_isOperand_39 : decode cX12_isOperand 39 = .ok (.iconst 1, 1) := by decide +kernel
theorem dX12_isOperand_40 : decode cX12_isOperand 40 = .ok (.if_icmp .eq 30, 3) := by decide +kernel
theorem dX12_isOperand_43 : decode cX12_isOperand 43 = .ok (.iload_n 1, 1) := by decide +kernel
theorem dX12_isOperand_44 : decode cX12_isOperand 44 = .ok (.sipush 332, 3) := by decide +kernel
theorem dX12_isOperand_47 : decode cX12_isOperand 47 = .ok (.if_icmp .eq 23, 3) := by decide +kernel
theorem dX12_isOperand_50 : decode cX12_isOperand 50 = .ok (.iload_n 1, 1) := by decide +kernel
theorem dX12_isOperand_51 : decode cX12_isOperand 51 = .ok (.sipush 327, 3) := by decide +kernel
theorem dX12_isOperand_54 : decode cX12_isOperand 54 = .ok (.if_icmp .eq 16, 3) := by decide +kernel
theorem dX12_isOperand_57 : decode cX12_isOperand 57 = .ok (.iload_n 1, 1) := by decide +kernel
theorem dX12_isOperand_58 : decode cX12_isOperand 58 = .ok (.bipush 40, 2) := by decide +kernel
theorem dX12_isOperand_60 : decode cX12_isOperand 60 = .ok (.if_icmp .eq 10, 3) := by decide +kernel
theorem dX12_isOperand_63 : decode cX12_isOperand 63 = .ok (.iload_n 1, 1) := by decide +kernel
theorem dX12_isOperand_64 : decode cX12_isOperand 64 = .ok (.sipush 330, 3) := by decide +kernel
theorem dX12_isOperand_67 : decode cX12_isOperand 67 = .ok (.if_icmp .ne 7, 3) := by decide +kernel
theorem dX12_isOperand_74 : decode cX12_isOperand 74 = .ok (.iconst 0, 1) := by decide +kernel
set_option maxHeartbeats 2000000 in
set_option maxRecDepth 100000 in
/-- isOperand() -/
theorem R_isOperand (l : Launch) (G : pT) (h0 : Nat) (a : Nat → Nat) (F : Nat → Int32) (B : Nat → Nat → Int32) (at0 : Nat) (T : Nat) (fa : Nat) (K : Nat → Int32) (hat : at0 ≤ T) (hT : T ≤ 5000) (hK : K T = 0 ∨ K T = 3) (hfa : fa ≤ 100) : PM l G pX0 yX12_isOperand cX12_isOperand 2 (some .boolean) ({ frames := 3, cells := 0, slots := 0, locals := 80 }) [.ref h0] (mW G h0 a (upd (upd F 15 (nI fa)) 64 (nI at0)) (updA B 2 K)) (fun (v : Option Value) (u : Nat) => v = some (.int (nI u)) ∧ (u ≤ 1) ∧ (at0 + u ≤ T)) (fun u => (mW G h0 a (upd (upd F 15 (nI fa)) 64 (nI at0)) (updA B 2 K))) := by
  intro sz
  refine Met.ofW (cc := cX12_isOperand) (maxL := 2) (ret := (some .boolean)) (by decide) rfl ?_
  intro p e s m args below meth c s₁ B9 hml hv
  obtain ⟨rfl, hsz, hP, hD0, hE, hX⟩ := hv
  have hx := B9.exec
  have hb := B9.bytes
  have hr := B9.returns
  have hts := atoms_spec (ws := Cond.code yX12_isOperand cX12_isOperand 2 (some .boolean) :: pw) B9.pre
  have hq : ∀ w ∈ pw, w.before _ s = true := fun w h => hts w (List.mem_cons_of_mem _ h)
  have hown : s.vm.findClass RX12 = some m.cls := findClass_of_methodNamed B9.named
  have hlocks := B9.notSynchronized
  subst hsz
  have hD := hD0.self (sz := s.heap.size)
  have hA : ∀ q : Nat, s.heap.size ≤ q → va_A (mW G h0 a (upd (upd F 15 (nI fa)) 64 (nI at0)) (updA B 2 K)) s.heap.size q := fun q h => Or.inr h
  have hP : va_P G.1 pCl (mW G h0 a (upd (upd F 15 (nI fa)) 64 (nI at0)) (updA B 2 K)) s.heap := hP
  generalize va_A (mW G h0 a (upd (upd F 15 (nI fa)) 64 (nI at0)) (updA B 2 K)) s.heap.size = A at hD hE hA ⊢
  have hS : va_S A s.heap s.heap [] := va_S.rf
  have hl := lv_entry ([.ref h0]) (n := 2) (Nat.le_of_ble_eq_true rfl)
  rw [lg_entry_eq]
  generalize (lg_sl ([.ref h0]) ++ List.replicate (2 - (lg_sl ([.ref h0])).length) Slot.unset).toArray = ls at hl ⊢
  have hl : lv_has ls 2 [(0, .ref h0)] := hl
  refine lv_aload_n hx hb dX12_isOperand_0 rfl (lv_at hl 0 rfl) ?_
  have hP : va_P G.1 pCl (mW G h0 a (upd (upd (upd (upd F 15 (nI fa)) 64 (nI at0)) 15 (nI fa)) 64 (nI at0)) (updA (updA B 2 K) 2 K)) _ := mW_to (F := F) (l1 := [(15, (nI fa)), (64, (nI at0))]) (l2 := [(15, (nI fa)), (64, (nI at0)), (15, (nI fa)), (64, (nI at0))]) (V := [(nI fa), (nI at0), (nI fa), (nI at0), (nI fa), (nI at0)]) rfl rfl (show (updA B 2 K) = (updA (updA B 2 K) 2 K) from updsA_eq2 (F := B) (l1 := [(2, K)]) (l2 := [(2, K), (2, K)]) (V := [K, K, K]) rfl rfl) hP
  have hD : va_D A (mW G h0 a (upd (upd (upd (upd F 15 (nI fa)) 64 (nI at0)) 15 (nI fa)) 64 (nI at0)) (updA (updA B 2 K) 2 K)) := mW_D hD
  refine pc_V0 (G := G) (As := []) (rest := []) hx hb hml hown hq hE hX pX0_al hP hD hS hA hl.1 (R_kind l G h0 a (upd (upd F 15 (nI fa)) 64 (nI at0)) (updA B 2 K) at0 T fa K (by omega) (by omega) hK (by omega)) (gV pw_1626 pw_1627 pw_1628 pw_1523 pw_1591) hV_X12_kind 0 9 rfl rfl rfl rfl (Nat.le_of_ble_eq_true rfl) dX12_isOperand_1 ⟨Nat.le_of_ble_eq_true rfl, Nat.le_of_ble_eq_true rfl⟩ ⟨Nat.le_of_ble_eq_true rfl, Nat.le_of_ble_eq_true rfl⟩ (fun v3 u1 H locs hw2 hP hD hS => ?_)
  obtain rfl : v3 = some (.int (K at0)) := hw2
  have hP : va_P G.1 pCl (mW G h0 a (upd (upd F 15 (nI fa)) 64 (nI at0)) (updA B 2 K)) _ := mW_to (F := F) (l1 := [(15, (nI fa)), (64, (nI at0)), (15, (nI fa)), (64, (nI at0))]) (l2 := [(15, (nI fa)), (64, (nI at0))]) (V := [(nI fa), (nI at0), (nI fa), (nI at0), (nI fa), (nI at0)]) rfl rfl (show (updA (updA B 2 K) 2 K) = (updA B 2 K) from updsA_eq2 (F := B) (l1 := [(2, K), (2, K)]) (l2 := [(2, K)]) (V := [K, K, K]) rfl rfl) hP
  have hD : va_D A (mW G h0 a (upd (upd F 15 (nI fa)) 64 (nI at0)) (updA B 2 K)) := mW_D hD
  refine W.widen (k := 0) (n := 0) (Nat.le_of_ble_eq_true rfl) (Nat.le_of_ble_eq_true rfl) ?_
  refine W.eq (g2 := F0 m 4 ls [.int (K at0)]) rfl ?_
  refine lv_istore_n (lv' := [(1, .int (K at0)), (0, .ref h0)]) hx hb dX12_isOperand_4 rfl hl (by decide) rfl (fun ls hl => ?_)
  refine lv_iload_n hx hb dX12_isOperand_5 rfl (lv_at hl 0 rfl) ?_
  refine lv_iconst (v := 2) hx hb dX12_isOperand_6 (by decide) ?_
  refine lv_icmp_eq (tgt := 70) hx hb dX12_isOperand_7 (by decide) (fun c4 => ?_) (fun c4 => ?_)
  · have n5 : at0 < T := tk_lt hat hK c4 (by decide) (by decide)
    refine lv_iconst (v := 1) hx hb dX12_isOperand_70 (by decide) ?_
    refine lv_goto (tgt := 75) hx hb dX12_isOperand_71 (by decide) ?_
    have hz6 : 1 ≤ 1 := (by omega)
    have hz7 : at0 + 1 ≤ T := (by omega)
    have hP : va_P G.1 pCl (mW G h0 a (upd (upd F 15 (nI fa)) 64 (nI at0)) (updA B 2 K)) _ := hP
    have hD : va_D A (mW G h0 a (upd (upd F 15 (nI fa)) 64 (nI at0)) (updA B 2 K)) := mW_D hD
    exact W.zret (v := 1) hx hb hr rfl (fun t9 ht9 hW9 => ⟨⟨_, 1, rfl, ⟨rfl, hz6, hz7⟩, by rw [ht9]; exact hP, hD⟩, hS.F ht9⟩) hS.2.2 dX12_isOperand_75
  · refine lv_iload_n hx hb dX12_isOperand_10 rfl (lv_at hl 0 rfl) ?_
    refine lv_sipush (v := 335) hx hb dX12_isOperand_11 (by decide) ?_
    refine lv_icmp_eq (tgt := 70) hx hb dX12_isOperand_14 (by decide) (fun c8 => ?_) (fun c8 => ?_)
    · have n9 : at0 < T := tk_lt hat hK c8 (by decide) (by decide)
      refine lv_iconst (v := 1) hx hb dX12_isOperand_70 (by decide) ?_
      refine lv_goto (tgt := 75) hx hb dX12_isOperand_71 (by decide) ?_
      have hz10 : 1 ≤ 1 := (by omega)
      have hz11 : at0 + 1 ≤ T := (by omega)
      have hP : va_P G.1 pCl (mW G h0 a (upd (upd F 15 (nI fa)) 64 (nI at0)) (updA B 2 K)) _ := hP
      have hD : va_D A (mW G h0 a (upd (upd F 15 (nI fa)) 64 (nI at0)) (updA B 2 K)) := mW_D hD
      exact W.zret (v := 1) hx hb hr rfl (fun t9 ht9 hW9 => ⟨⟨_, 1, rfl, ⟨rfl, hz10, hz11⟩, by rw [ht9]; exact hP, hD⟩, hS.F ht9⟩) hS.2.2 dX12_isOperand_75
    · refine lv_iload_n hx hb dX12_isOperand_17 rfl (lv_at hl 0 rfl) ?_
      refine lv_sipush (v := 318) hx hb dX12_isOperand_18 (by decide) ?_
      refine lv_icmp_eq (tgt := 70) hx hb dX12_isOperand_21 (by decide) (fun c12 => ?_) (fun c12 => ?_)
      · have n13 : at0 < T := tk_lt hat hK c12 (by decide) (by decide)
        refine lv_iconst (v := 1) hx hb dX12_isOperand_70 (by decide) ?_
        refine lv_goto (tgt := 75) hx hb dX12_isOperand_71 (by decide) ?_
        have hz14 : 1 ≤ 1 := (by omega)
        have hz15 : at0 + 1 ≤ T := (by omega)
        have hP : va_P G.1 pCl (mW G h0 a (upd (upd F 15 (nI fa)) 64 (nI at0)) (updA B 2 K)) _ := hP
        have hD : va_D A (mW G h0 a (upd (upd F 15 (nI fa)) 64 (nI at0)) (updA B 2 K)) := mW_D hD
        exact W.zret (v := 1) hx hb hr rfl (fun t9 ht9 hW9 => ⟨⟨_, 1, rfl, ⟨rfl, hz14, hz15⟩, by rw [ht9]; exact hP, hD⟩, hS.F ht9⟩) hS.2.2 dX12_isOperand_75
      · refine lv_iload_n hx hb dX12_isOperand_24 rfl (lv_at hl 0 rfl) ?_
        refine lv_sipush (v := 328) hx hb dX12_isOperand_25 (by decide) ?_
        refine lv_icmp_eq (tgt := 70) hx hb dX12_isOperand_28 (by decide) (fun c16 => ?_) (fun c16 => ?_)
        · have n17 : at0 < T := tk_lt hat hK c16 (by decide) (by decide)
          refine lv_iconst (v := 1) hx hb dX12_isOperand_70 (by decide) ?_
          refine lv_goto (tgt := 75) hx hb dX12_isOperand_71 (by decide) ?_
          have hz18 : 1 ≤ 1 := (by omega)
          have hz19 : at0 + 1 ≤ T := (by omega)
          have hP : va_P G.1 pCl (mW G h0 a (upd (upd F 15 (nI fa)) 64 (nI at0)) (updA B 2 K)) _ := hP
          have hD : va_D A (mW G h0 a (upd (upd F 15 (nI fa)) 64 (nI at0)) (updA B 2 K)) := mW_D hD
          exact W.zret (v := 1) hx hb hr rfl (fun t9 ht9 hW9 => ⟨⟨_, 1, rfl, ⟨rfl, hz18, hz19⟩, by rw [ht9]; exact hP, hD⟩, hS.F ht9⟩) hS.2.2 dX12_isOperand_75
        · refine lv_iload_n hx hb dX12_isOperand_31 rfl (lv_at hl 0 rfl) ?_
          refine lv_sipush (v := 333) hx hb dX12_isOperand_32 (by decide) ?_
          refine lv_icmp_eq (tgt := 70) hx hb dX12_isOperand_35 (by decide) (fun c20 => ?_) (fun c20 => ?_)
          · have n21 : at0 < T := tk_lt hat hK c20 (by decide) (by decide)
            refine lv_iconst (v := 1) hx hb dX12_isOperand_70 (by decide) ?_
            refine lv_goto (tgt := 75) hx hb dX12_isOperand_71 (by decide) ?_
            have hz22 : 1 ≤ 1 := (by omega)
            have hz23 : at0 + 1 ≤ T := (by omega)
            have hP : va_P G.1 pCl (mW G h0 a (upd (upd F 15 (nI fa)) 64 (nI at0)) (updA B 2 K)) _ := hP
            have hD : va_D A (mW G h0 a (upd (upd F 15 (nI fa)) 64 (nI at0)) (updA B 2 K)) := mW_D hD
            exact W.zret (v := 1) hx hb hr rfl (fun t9 ht9 hW9 => ⟨⟨_, 1, rfl, ⟨rfl, hz22, hz23⟩, by rw [ht9]; exact hP, hD⟩, hS.F ht9⟩) hS.2.2 dX12_isOperand_75
          · refine lv_iload_n hx hb dX12_isOperand_38 rfl (lv_at hl 0 rfl) ?_
            refine lv_iconst (v := 1) hx hb dX12_isOperand_39 (by decide) ?_
            refine lv_icmp_eq (tgt := 70) hx hb dX12_isOperand_40 (by decide) (fun c24 => ?_) (fun c24 => ?_)
            · have n25 : at0 < T := tk_lt hat hK c24 (by decide) (by decide)
              refine lv_iconst (v := 1) hx hb dX12_isOperand_70 (by decide) ?_
              refine lv_goto (tgt := 75) hx hb dX12_isOperand_71 (by decide) ?_
              have hz26 : 1 ≤ 1 := (by omega)
              have hz27 : at0 + 1 ≤ T := (by omega)
              have hP : va_P G.1 pCl (mW G h0 a (upd (upd F 15 (nI fa)) 64 (nI at0)) (updA B 2 K)) _ := hP
              have hD : va_D A (mW G h0 a (upd (upd F 15 (nI fa)) 64 (nI at0)) (updA B 2 K)) := mW_D hD
              exact W.zret (v := 1) hx hb hr rfl (fun t9 ht9 hW9 => ⟨⟨_, 1, rfl, ⟨rfl, hz26, hz27⟩, by rw [ht9]; exact hP, hD⟩, hS.F ht9⟩) hS.2.2 dX12_isOperand_75
            · refine lv_iload_n hx hb dX12_isOperand_43 rfl (lv_at hl 0 rfl) ?_
              refine lv_sipush (v := 332) hx hb dX12_isOperand_44 (by decide) ?_
              refine lv_icmp_eq (tgt := 70) hx hb dX12_isOperand_47 (by decide) (fun c28 => ?_) (fun c28 => ?_)
              · have n29 : at0 < T := tk_lt hat hK c28 (by decide) (by decide)
                refine lv_iconst (v := 1) hx hb dX12_isOperand_70 (by decide) ?_
                refine lv_goto (tgt := 75) hx hb dX12_isOperand_71 (by decide) ?_
                have hz30 : 1 ≤ 1 := (by omega)
                have hz31 : at0 + 1 ≤ T := (by omega)
                have hP : va_P G.1 pCl (mW G h0 a (upd (upd F 15 (nI fa)) 64 (nI at0)) (updA B 2 K)) _ := hP
                have hD : va_D A (mW G h0 a (upd (upd F 15 (nI fa)) 64 (nI at0)) (updA B 2 K)) := mW_D hD
                exact W.zret (v := 1) hx hb hr rfl (fun t9 ht9 hW9 => ⟨⟨_, 1, rfl, ⟨rfl, hz30, hz31⟩, by rw [ht9]; exact hP, hD⟩, hS.F ht9⟩) hS.2.2 dX12_isOperand_75
              · refine lv_iload_n hx hb dX12_isOperand_50 rfl (lv_at hl 0 rfl) ?_
                refine lv_sipush (v := 327) hx hb dX12_isOperand_51 (by decide) ?_
                refine lv_icmp_eq (tgt := 70) hx hb dX12_isOperand_54 (by decide) (fun c32 => ?_) (fun c32 => ?_)
                · have n33 : at0 < T := tk_lt hat hK c32 (by decide) (by decide)
                  refine lv_iconst (v := 1) hx hb dX12_isOperand_70 (by decide) ?_
                  refine lv_goto (tgt := 75) hx hb dX12_isOperand_71 (by decide) ?_
                  have hz34 : 1 ≤ 1 := (by omega)
                  have hz35 : at0 + 1 ≤ T := (by omega)
                  have hP : va_P G.1 pCl (mW G h0 a (upd (upd F 15 (nI fa)) 64 (nI at0)) (updA B 2 K)) _ := hP
                  have hD : va_D A (mW G h0 a (upd (upd F 15 (nI fa)) 64 (nI at0)) (updA B 2 K)) := mW_D hD
                  exact W.zret (v := 1) hx hb hr rfl (fun t9 ht9 hW9 => ⟨⟨_, 1, rfl, ⟨rfl, hz34, hz35⟩, by rw [ht9]; exact hP, hD⟩, hS.F ht9⟩) hS.2.2 dX12_isOperand_75
                · refine lv_iload_n hx hb dX12_isOperand_57 rfl (lv_at hl 0 rfl) ?_
                  refine lv_bipush (v := 40) hx hb dX12_isOperand_58 (by decide) ?_
                  refine lv_icmp_eq (tgt := 70) hx hb dX12_isOperand_60 (by decide) (fun c36 => ?_) (fun c36 => ?_)
                  · have n37 : at0 < T := tk_lt hat hK c36 (by decide) (by decide)
                    refine lv_iconst (v := 1) hx hb dX12_isOperand_70 (by decide) ?_
                    refine lv_goto (tgt := 75) hx hb dX12_isOperand_71 (by decide) ?_
                    have hz38 : 1 ≤ 1 := (by omega)
                    have hz39 : at0 + 1 ≤ T := (by omega)
                    have hP : va_P G.1 pCl (mW G h0 a (upd (upd F 15 (nI fa)) 64 (nI at0)) (updA B 2 K)) _ := hP
                    have hD : va_D A (mW G h0 a (upd (upd F 15 (nI fa)) 64 (nI at0)) (updA B 2 K)) := mW_D hD
                    exact W.zret (v := 1) hx hb hr rfl (fun t9 ht9 hW9 => ⟨⟨_, 1, rfl, ⟨rfl, hz38, hz39⟩, by rw [ht9]; exact hP, hD⟩, hS.F ht9⟩) hS.2.2 dX12_isOperand_75
                  · refine lv_iload_n hx hb dX12_isOperand_63 rfl (lv_at hl 0 rfl) ?_
                    refine lv_sipush (v := 330) hx hb dX12_isOperand_64 (by decide) ?_
                    refine lv_icmp_ne (tgt := 74) hx hb dX12_isOperand_67 (by decide) (fun c40 => ?_) (fun c40 => ?_)
                    · refine lv_iconst (v := 0) hx hb dX12_isOperand_74 (by decide) ?_
                      have hz41 : 0 ≤ 1 := (by omega)
                      have hz42 : at0 + 0 ≤ T := (by omega)
                      have hP : va_P G.1 pCl (mW G h0 a (upd (upd F 15 (nI fa)) 64 (nI at0)) (updA B 2 K)) _ := hP
                      have hD : va_D A (mW G h0 a (upd (upd F 15 (nI fa)) 64 (nI at0)) (updA B 2 K)) := mW_D hD
                      exact W.zret (v := 0) hx hb hr rfl (fun t9 ht9 hW9 => ⟨⟨_, 0, rfl, ⟨rfl, hz41, hz42⟩, by rw [ht9]; exact hP, hD⟩, hS.F ht9⟩) hS.2.2 dX12_isOperand_75
                    · have n43 : at0 < T := tk_lt hat hK c40 (by decide) (by decide)
                      refine lv_iconst (v := 1) hx hb dX12_isOperand_70 (by decide) ?_
                      refine lv_goto (tgt := 75) hx hb dX12_isOperand_71 (by decide) ?_
                      have hz44 : 1 ≤ 1 := (by omega)
                      have hz45 : at0 + 1 ≤ T := (by omega)
                      have hP : va_P G.1 pCl (mW G h0 a (upd (upd F 15 (nI fa)) 64 (nI at0)) (updA B 2 K)) _ := hP
                      have hD : va_D A (mW G h0 a (upd (upd F 15 (nI fa)) 64 (nI at0)) (updA B 2 K)) := mW_D hD
                      exact W.zret (v := 1) hx hb hr rfl (fun t9 ht9 hW9 => ⟨⟨_, 1, rfl, ⟨rfl, hz44, hz45⟩, by rw [ht9]; exact hP, hD⟩, hS.F ht9⟩) hS.2.2 dX12_isOperand_75
theorem dX12_isTyped_0 : decode cX12_isTyped 0 = .ok (.aload_n 0, 1) := by decide +kernel
theorem dX12_isTyped_1 : decode cX12_isTyped 1 = .ok (.invokevirtual 381, 3) := by decide +kernel
theorem dX12_isTyped_4 : decode cX12_isTyped 4 = .ok (.sipush 323, 3) := by decide +kernel
theorem dX12_isTyped_7 : decode cX12_isTyped 7 = .ok (.if_icmp .eq 13, 3) := by decide +kernel
theorem dX12_isTyped_20 : decode cX12_isTyped 20 = .ok (.iconst 1, 1) := by decide +kernel
theorem dX12_isTyped_21 : decode cX12_isTyped 21 = .ok (.ireturn, 1) := by decide +kernel
theorem dX12_isTyped_10 : decode cX12_isTyped 10 = .ok (.aload_n 0, 1) := by decide +kernel
theorem dX12_isTyped_11 : decode cX12_isTyped 11 = .ok (.invokevirtual 381, 3) := by decide +kernel
theorem dX12_isTyped_14 : decode cX12_isTyped 14 = .ok (.sipush 311, 3) := by decide +kernel
theorem dX12_isTyped_17 : decode cX12_isTyped 17 = .ok (.if_icmp .ne 5, 3) := by decide +kernel
theorem dX12_isTyped_22 : decode cX12_isTyped 22 = .ok (.aload_n 0, 1) := by decide +kernel
theorem dX12_isTyped_23 : decode cX12_isTyped 23 = .ok (.invokevirtual 381, 3) := by decide +kernel
theorem dX12_isTyped_26 : decode cX12_isTyped 26 = .ok (.iconst 1, 1) := by decide +kernel
theorem dX12_isTyped_27 : decode cX12_isTyped 27 = .ok (.if_icmp .ne 54, 3) := by decide +kernel
theorem dX12_isTyped_81 : decode cX12_isTyped 81 = .ok (.iconst 0, 1) := by decide +kernel
theorem dX12_isTyped_82 : decode cX12_isTyped 82 = .ok (.ireturn, 1) := by decide +kernel
theorem dX12_isTyped_30 : decode cX12_isTyped 30 = .ok (.aload_n 0, 1) := by decide +kernel
theorem dX12_isTyped_31 : decode cX12_isTyped 31 = .ok (.getfield 16, 3) := by decide +kernel
theorem dX12_isTyped_34 : decode cX12_isTyped 34 = .ok (.aload_n 0, 1) := by decide +kernel
theorem dX12_isTyped_35 : decode cX12_isTyped 35 = .ok (.getfield 343, 3) := by decide +kernel
theorem dX12_isTyped_38 : decode cX12_isTyped 38 = .ok (.iconst 1, 1) := by decide +kernel
theorem dX12_isTyped_39 : decode cX12_isTyped 39 = .ok (.iadd, 1) := by decide +kernel
theorem dX12_isTyped_40 : decode cX12_isTyped 40 = .ok (.iaload, 1) := by decide +kernel
theorem dX12_isTyped_41 : decode cX12_isTyped 41 = .ok (.iconst 1, 1) := by decide +kernel
theorem dX12_isTyped_42 : decode cX12_isTyped 42 = .ok (.if_icmp .eq 35, 3) := by decide +kernel
theorem dX12_isTyped_77 : decode cX12_isTyped 77 = .ok (.iconst 1, 1) := by decide +kernel
theorem dX12_isTyped_78 : decode cX12_isTyped 78 = .ok (.goto 4, 3) := by decide +kernel
theorem dX12_isTyped_45 : decode cX12_isTyped 45 = .ok (.aload_n 0, 1) := by decide +kernel
theorem dX12_isTyped_46 : decode cX12_isTyped 46 = .ok (.getfield 16, 3) := by decide +kernel
theorem dX12_isTyped_49 : decode cX12_isTyped 49 = .ok (.aload_n 0, 1) := by decide +kernel
theorem dX12_isTyped_50 : decode cX12_isTyped 50 = .ok (.getfield 343, 3) := by decide +kernel
theorem dX12_isTyped_53 : decode cX12_isTyped 53 = .ok (.iconst 1, 1) := by decide +kernel
theorem dX12_isTyped_54 : decode cX12_isTyped 54 = .ok (.iadd, 1) := by decide +kernel
theorem dX12_isTyped_55 : decode cX12_isTyped 55 = .ok (.iaload, 1) := by decide +kernel
theorem dX12_isTyped_56 : decode cX12_isTyped 56 = .ok (.bipush 91, 2) := by decide +kernel
theorem dX12_isTyped_58 : decode cX12_isTyped 58 = .ok (.if_icmp .ne 23, 3) := by decide +kernel
theorem dX12_isTyped_61 : decode cX12_isTyped 61 = .ok (.aload_n 0, 1) := by decide +kernel
theorem dX12_isTyped_62 : decode cX12_isTyped 62 = .ok (.getfield 16, 3) := by decide +kernel
theorem dX12_isTyped_65 : decode cX12_isTyped 65 = .ok (.aload_n 0, 1) := by decide +kernel
theorem dX12_isTyped_66 : decode cX12_isTyped 66 = .ok (.getfield 343, 3) := by decide +kernel
theorem dX12_isTyped_69 : decode cX12_isTyped 69 = .ok (.iconst 2, 1) := by decide +kernel
theorem dX12_isTyped_70 : decode cX12_isTyped 70 = .ok (.iadd, 1) := by decide +kernel
theorem dX12_isTyped_71 : decode cX12_isTyped 71 = .ok (.iaload, 1) := by decide +kernel
theorem dX12_isTyped_72 : decode cX12_isTyped 72 = .ok (.bipush 93, 2) := by decide +kernel
theorem dX12_isTyped_74 : decode cX12_isTyped 74 = .ok (.if_icmp .ne 7, 3) := by decide +kernel
set_option maxHeartbeats 2000000 in
set_option maxRecDepth 100000 in
/-- isTyped() -/
theorem R_isTyped (l : Launch) (G : pT) (h0 : Nat) (a : Nat → Nat) (F : Nat → Int32) (B : Nat → Nat → Int32) (at0 : Nat) (T : Nat) (fa : Nat) (K : Nat → Int32) (hat : at0 ≤ T) (hT : T ≤ 5000) (hK : K T = 0 ∨ K T = 3) (hfa : fa ≤ 100) : PM l G pX0 yX12_isTyped cX12_isTyped 1 (some .boolean) ({ frames := 3, cells := 0, slots := 0, locals := 80 }) [.ref h0] (mW G h0 a (upd (upd F 15 (nI fa)) 64 (nI at0)) (updA B 2 K)) (fun (v : Option Value) (u : Nat) => v = some (.int (nI u)) ∧ (u ≤ 1) ∧ (at0 + u ≤ T)) (fun u => (mW G h0 a (upd (upd F 15 (nI fa)) 64 (nI at0)) (updA B 2 K))) := by
  intro sz
  refine Met.ofW (cc := cX12_isTyped) (maxL := 1) (ret := (some .boolean)) (by decide) rfl ?_
  intro p e s m args below meth c s₁ B9 hml hv
  obtain ⟨rfl, hsz, hP, hD0, hE, hX⟩ := hv
  have hx := B9.exec
  have hb := B9.bytes
  have hr := B9.returns
  have hts := atoms_spec (ws := Cond.code yX12_isTyped cX12_isTyped 1 (some .boolean) :: pw) B9.pre
  have hq : ∀ w ∈ pw, w.before _ s = true := fun w h => hts w (List.mem_cons_of_mem _ h)
  have hown : s.vm.findClass RX12 = some m.cls := findClass_of_methodNamed B9.named
  have hlocks := B9.notSynchronized
  subst hsz
  have hD := hD0.self (sz := s.heap.size)
  have hA : ∀ q : Nat, s.heap.size ≤ q → va_A (mW G h0 a (upd (upd F 15 (nI fa)) 64 (nI at0)) (updA B 2 K)) s.heap.size q := fun q h => Or.inr h
  have hP : va_P G.1 pCl (mW G h0 a (upd (upd F 15 (nI fa)) 64 (nI at0)) (updA B 2 K)) s.heap := hP
  generalize va_A (mW G h0 a (upd (upd F 15 (nI fa)) 64 (nI at0)) (updA B 2 K)) s.heap.size = A at hD hE hA ⊢
  have hS : va_S A s.heap s.heap [] := va_S.rf
  have hl := lv_entry ([.ref h0]) (n := 1) (Nat.le_of_ble_eq_true rfl)
  rw [lg_entry_eq]
  generalize (lg_sl ([.ref h0]) ++ List.replicate (1 - (lg_sl ([.ref h0])).length) Slot.unset).toArray = ls at hl ⊢
  have hl : lv_has ls 1 [(0, .ref h0)] := hl
  refine lv_aload_n hx hb dX12_isTyped_0 rfl (lv_at hl 0 rfl) ?_
  have hP : va_P G.1 pCl (mW G h0 a (upd (upd (upd (upd F 15 (nI fa)) 64 (nI at0)) 15 (nI fa)) 64 (nI at0)) (updA (updA B 2 K) 2 K)) _ := mW_to (F := F) (l1 := [(15, (nI fa)), (64, (nI at0))]) (l2 := [(15, (nI fa)), (64, (nI at0)), (15, (nI fa)), (64, (nI at0))]) (V := [(nI fa), (nI at0), (nI fa), (nI at0), (nI fa), (nI at0)]) rfl rfl (show (updA B 2 K) = (updA (updA B 2 K) 2 K) from updsA_eq2 (F := B) (l1 := [(2, K)]) (l2 := [(2, K), (2, K)]) (V := [K, K, K]) rfl rfl) hP
  have hD : va_D A (mW G h0 a (upd (upd (upd (upd F 15 (nI fa)) 64 (nI at0)) 15 (nI fa)) 64 (nI at0)) (updA (updA B 2 K) 2 K)) := mW_D hD
  refine pc_V0 (G := G) (As := []) (rest := []) hx hb hml hown hq hE hX pX0_al hP hD hS hA hl.1 (R_kind l G h0 a (upd (upd F 15 (nI fa)) 64 (nI at0)) (updA B 2 K) at0 T fa K (by omega) (by omega) hK (by omega)) (gV pw_1626 pw_1627 pw_1628 pw_1523 pw_1591) hV_X12_kind 0 9 rfl rfl rfl rfl (Nat.le_of_ble_eq_true rfl) dX12_isTyped_1 ⟨Nat.le_of_ble_eq_true rfl, Nat.le_of_ble_eq_true rfl⟩ ⟨Nat.le_of_ble_eq_true rfl, Nat.le_of_ble_eq_true rfl⟩ (fun v3 u1 H locs hw2 hP hD hS => ?_)
  obtain rfl : v3 = some (.int (K at0)) := hw2
  have hP : va_P G.1 pCl (mW G h0 a (upd (upd F 15 (nI fa)) 64 (nI at0)) (updA B 2 K)) _ := mW_to (F := F) (l1 := [(15, (nI fa)), (64, (nI at0)), (15, (nI fa)), (64, (nI at0))]) (l2 := [(15, (nI fa)), (64, (nI at0))]) (V := [(nI fa), (nI at0), (nI fa), (nI at0), (nI fa), (nI at0)]) rfl rfl (show (updA (updA B 2 K) 2 K) = (updA B 2 K) from updsA_eq2 (F := B) (l1 := [(2, K), (2, K)]) (l2 := [(2, K)]) (V := [K, K, K]) rfl rfl) hP
  have hD : va_D A (mW G h0 a (upd (upd F 15 (nI fa)) 64 (nI at0)) (updA B 2 K)) := mW_D hD
  refine W.widen (k := 0) (n := 0) (Nat.le_of_ble_eq_true rfl) (Nat.le_of_ble_eq_true rfl) ?_
  refine W.eq (g2 := F0 m 4 ls [.int (K at0)]) rfl ?_
  refine lv_sipush (v := 323) hx hb dX12_isTyped_4 (by decide) ?_
  refine lv_icmp_eq (tgt := 20) hx hb dX12_isTyped_7 (by decide) (fun c4 => ?_) (fun c4 => ?_)
  · have n5 : at0 < T := tk_lt hat hK c4 (by decide) (by decide)
    refine lv_iconst (v := 1) hx hb dX12_isTyped_20 (by decide) ?_
    have hz6 : 1 ≤ 1 := (by omega)
    have hz7 : at0 + 1 ≤ T := (by omega)
    have hP : va_P G.1 pCl (mW G h0 a (upd (upd F 15 (nI fa)) 64 (nI at0)) (updA B 2 K)) _ := hP
    have hD : va_D A (mW G h0 a (upd (upd F 15 (nI fa)) 64 (nI at0)) (updA B 2 K)) := mW_D hD
    exact W.zret (v := 1) hx hb hr rfl (fun t9 ht9 hW9 => ⟨⟨_, 1, rfl, ⟨rfl, hz6, hz7⟩, by rw [ht9]; exact hP, hD⟩, hS.F ht9⟩) hS.2.2 dX12_isTyped_21
  · refine lv_aload_n hx hb dX12_isTyped_10 rfl (lv_at hl 0 rfl) ?_
    have hP : va_P G.1 pCl (mW G h0 a (upd (upd (upd (upd F 15 (nI fa)) 64 (nI at0)) 15 (nI fa)) 64 (nI at0)) (updA (updA B 2 K) 2 K)) _ := mW_to (F := F) (l1 := [(15, (nI fa)), (64, (nI at0))]) (l2 := [(15, (nI fa)), (64, (nI at0)), (15, (nI fa)), (64, (nI at0))]) (V := [(nI fa), (nI at0), (nI fa), (nI at0), (nI fa), (nI at0)]) rfl rfl (show (updA B 2 K) = (updA (updA B 2 K) 2 K) from updsA_eq2 (F := B) (l1 := [(2, K)]) (l2 := [(2, K), (2, K)]) (V := [K, K, K]) rfl rfl) hP
    have hD : va_D A (mW G h0 a (upd (upd (upd (upd F 15 (nI fa)) 64 (nI at0)) 15 (nI fa)) 64 (nI at0)) (updA (updA B 2 K) 2 K)) := mW_D hD
    refine pc_V0 (G := G) (As := []) (rest := []) hx hb hml hown hq hE hX pX0_al hP hD hS hA hl.1 (R_kind l G h0 a (upd (upd F 15 (nI fa)) 64 (nI at0)) (updA B 2 K) at0 T fa K (by omega) (by omega) hK (by omega)) (gV pw_1626 pw_1627 pw_1628 pw_1523 pw_1591) hV_X12_kind 0 9 rfl rfl rfl rfl (Nat.le_of_ble_eq_true rfl) dX12_isTyped_11 ⟨Nat.le_of_ble_eq_true rfl, Nat.le_of_ble_eq_true rfl⟩ ⟨Nat.le_of_ble_eq_true rfl, Nat.le_of_ble_eq_true rfl⟩ (fun v10 u8 H locs hw9 hP hD hS => ?_)
    obtain rfl : v10 = some (.int (K at0)) := hw9
    have hP : va_P G.1 pCl (mW G h0 a (upd (upd F 15 (nI fa)) 64 (nI at0)) (updA B 2 K)) _ := mW_to (F := F) (l1 := [(15, (nI fa)), (64, (nI at0)), (15, (nI fa)), (64, (nI at0))]) (l2 := [(15, (nI fa)), (64, (nI at0))]) (V := [(nI fa), (nI at0), (nI fa), (nI at0), (nI fa), (nI at0)]) rfl rfl (show (updA (updA B 2 K) 2 K) = (updA B 2 K) from updsA_eq2 (F := B) (l1 := [(2, K), (2, K)]) (l2 := [(2, K)]) (V := [K, K, K]) rfl rfl) hP
    have hD : va_D A (mW G h0 a (upd (upd F 15 (nI fa)) 64 (nI at0)) (updA B 2 K)) := mW_D hD
    refine W.widen (k := 0) (n := 0) (Nat.le_of_ble_eq_true rfl) (Nat.le_of_ble_eq_true rfl) ?_
    refine W.eq (g2 := F0 m 14 ls [.int (K at0)]) rfl ?_
    refine lv_sipush (v := 311) hx hb dX12_isTyped_14 (by decide) ?_
    refine lv_icmp_ne (tgt := 22) hx hb dX12_isTyped_17 (by decide) (fun c11 => ?_) (fun c11 => ?_)
    · refine lv_aload_n hx hb dX12_isTyped_22 rfl (lv_at hl 0 rfl) ?_
      have hP : va_P G.1 pCl (mW G h0 a (upd (upd (upd (upd F 15 (nI fa)) 64 (nI at0)) 15 (nI fa)) 64 (nI at0)) (updA (updA B 2 K) 2 K)) _ := mW_to (F := F) (l1 := [(15, (nI fa)), (64, (nI at0))]) (l2 := [(15, (nI fa)), (64, (nI at0)), (15, (nI fa)), (64, (nI at0))]) (V := [(nI fa), (nI at0), (nI fa), (nI at0), (nI fa), (nI at0)]) rfl rfl (show (updA B 2 K) = (updA (updA B 2 K) 2 K) from updsA_eq2 (F := B) (l1 := [(2, K)]) (l2 := [(2, K), (2, K)]) (V := [K, K, K]) rfl rfl) hP
      have hD : va_D A (mW G h0 a (upd (upd (upd (upd F 15 (nI fa)) 64 (nI at0)) 15 (nI fa)) 64 (nI at0)) (updA (updA B 2 K) 2 K)) := mW_D hD
      refine pc_V0 (G := G) (As := []) (rest := []) hx hb hml hown hq hE hX pX0_al hP hD hS hA hl.1 (R_kind l G h0 a (upd (upd F 15 (nI fa)) 64 (nI at0)) (updA B 2 K) at0 T fa K (by omega) (by omega) hK (by omega)) (gV pw_1626 pw_1627 pw_1628 pw_1523 pw_1591) hV_X12_kind 0 9 rfl rfl rfl rfl (Nat.le_of_ble_eq_true rfl) dX12_isTyped_23 ⟨Nat.le_of_ble_eq_true rfl, Nat.le_of_ble_eq_true rfl⟩ ⟨Nat.le_of_ble_eq_true rfl, Nat.le_of_ble_eq_true rfl⟩ (fun v14 u12 H locs hw13 hP hD hS => ?_)
      obtain rfl : v14 = some (.int (K at0)) := hw13
      have hP : va_P G.1 pCl (mW G h0 a (upd (upd F 15 (nI fa)) 64 (nI at0)) (updA B 2 K)) _ := mW_to (F := F) (l1 := [(15, (nI fa)), (64, (nI at0)), (15, (nI fa)), (64, (nI at0))]) (l2 := [(15, (nI fa)), (64, (nI at0))]) (V := [(nI fa), (nI at0), (nI fa), (nI at0), (nI fa), (nI at0)]) rfl rfl (show (updA (updA B 2 K) 2 K) = (updA B 2 K) from updsA_eq2 (F := B) (l1 := [(2, K), (2, K)]) (l2 := [(2, K)]) (V := [K, K, K]) rfl rfl) hP
      have hD : va_D A (mW G h0 a (upd (upd F 15 (nI fa)) 64 (nI at0)) (updA B 2 K)) := mW_D hD
      refine W.widen (k := 0) (n := 0) (Nat.le_of_ble_eq_true rfl) (Nat.le_of_ble_eq_true rfl) ?_
      refine W.eq (g2 := F0 m 26 ls [.int (K at0)]) rfl ?_
      refine lv_iconst (v := 1) hx hb dX12_isTyped_26 (by decide) ?_
      refine lv_icmp_ne (tgt := 81) hx hb dX12_isTyped_27 (by decide) (fun c15 => ?_) (fun c15 => ?_)
      · refine lv_iconst (v := 0) hx hb dX12_isTyped_81 (by decide) ?_
        have hz16 : 0 ≤ 1 := (by omega)
        have hz17 : at0 + 0 ≤ T := (by omega)
        have hP : va_P G.1 pCl (mW G h0 a (upd (upd F 15 (nI fa)) 64 (nI at0)) (updA B 2 K)) _ := hP
        have hD : va_D A (mW G h0 a (upd (upd F 15 (nI fa)) 64 (nI at0)) (updA B 2 K)) := mW_D hD
        exact W.zret (v := 0) hx hb hr rfl (fun t9 ht9 hW9 => ⟨⟨_, 0, rfl, ⟨rfl, hz16, hz17⟩, by rw [ht9]; exact hP, hD⟩, hS.F ht9⟩) hS.2.2 dX12_isTyped_82
      · have n18 : at0 < T := tk_lt hat hK c15 (by decide) (by decide)
        refine lv_aload_n hx hb dX12_isTyped_30 rfl (lv_at hl 0 rfl) ?_
        refine r_get (v := .ref (a 2)) hx hb hown hq hE hP 5 16 tFX12_5 (by decide) pw_1432 rfl dX12_isTyped_31 ?_
        refine lv_aload_n hx hb dX12_isTyped_34 rfl (lv_at hl 0 rfl) ?_
        refine r_get (v := .int (nI at0)) hx hb hown hq hE hP 64 343 tFX12_64 (by decide) pw_1592 rfl dX12_isTyped_35 ?_
        refine lv_iconst (v := 1) hx hb dX12_isTyped_38 (by decide) ?_
        refine lv_iadd hx hb dX12_isTyped_39 ?_
        refine lv_topi (fun x19 e20 => ?_)
        obtain rfl : x19 = nI (at0 + 1) := e20.trans (nI_add (at0) (1))
        refine r_ldi (f := K) (j := (at0 + 1)) hx hb hE hP 2 (ma_2 G a _) rfl (by omega) (by decide) dX12_isTyped_40 ?_
        refine lv_iconst (v := 1) hx hb dX12_isTyped_41 (by decide) ?_
        refine lv_icmp_eq (tgt := 77) hx hb dX12_isTyped_42 (by decide) (fun c21 => ?_) (fun c21 => ?_)
        · refine lv_iconst (v := 1) hx hb dX12_isTyped_77 (by decide) ?_
          refine lv_goto (tgt := 82) hx hb dX12_isTyped_78 (by decide) ?_
          have hz22 : 1 ≤ 1 := (by omega)
          have hz23 : at0 + 1 ≤ T := (by omega)
          have hP : va_P G.1 pCl (mW G h0 a (upd (upd F 15 (nI fa)) 64 (nI at0)) (updA B 2 K)) _ := hP
          have hD : va_D A (mW G h0 a (upd (upd F 15 (nI fa)) 64 (nI at0)) (updA B 2 K)) := mW_D hD
          exact W.zret (v := 1) hx hb hr rfl (fun t9 ht9 hW9 => ⟨⟨_, 1, rfl, ⟨rfl, hz22, hz23⟩, by rw [ht9]; exact hP, hD⟩, hS.F ht9⟩) hS.2.2 dX12_isTyped_82
        · refine lv_aload_n hx hb dX12_isTyped_45 rfl (lv_at hl 0 rfl) ?_
          refine r_get (v := .ref (a 2)) hx hb hown hq hE hP 5 16 tFX12_5 (by decide) pw_1432 rfl dX12_isTyped_46 ?_
          refine lv_aload_n hx hb dX12_isTyped_49 rfl (lv_at hl 0 rfl) ?_
          refine r_get (v := .int (nI at0)) hx hb hown hq hE hP 64 343 tFX12_64 (by decide) pw_1592 rfl dX12_isTyped_50 ?_
          refine lv_iconst (v := 1) hx hb dX12_isTyped_53 (by decide) ?_
          refine lv_iadd hx hb dX12_isTyped_54 ?_
          refine lv_topi (fun x24 e25 => ?_)
          obtain rfl : x24 = nI (at0 + 1) := e25.trans (nI_add (at0) (1))
          refine r_ldi (f := K) (j := (at0 + 1)) hx hb hE hP 2 (ma_2 G a _) rfl (by omega) (by decide) dX12_isTyped_55 ?_
          refine lv_bipush (v := 91) hx hb dX12_isTyped_56 (by decide) ?_
          refine lv_icmp_ne (tgt := 81) hx hb dX12_isTyped_58 (by decide) (fun c26 => ?_) (fun c26 => ?_)
          · refine lv_iconst (v := 0) hx hb dX12_isTyped_81 (by decide) ?_
            have hz27 : 0 ≤ 1 := (by omega)
            have hz28 : at0 + 0 ≤ T := (by omega)
            have hP : va_P G.1 pCl (mW G h0 a (upd (upd F 15 (nI fa)) 64 (nI at0)) (updA B 2 K)) _ := hP
            have hD : va_D A (mW G h0 a (upd (upd F 15 (nI fa)) 64 (nI at0)) (updA B 2 K)) := mW_D hD
            exact W.zret (v := 0) hx hb hr rfl (fun t9 ht9 hW9 => ⟨⟨_, 0, rfl, ⟨rfl, hz27, hz28⟩, by rw [ht9]; exact hP, hD⟩, hS.F ht9⟩) hS.2.2 dX12_isTyped_82
          · have hl2 : at0 + 1 < T := tk_lt (at0 := at0 + 1) (by omega) hK c26 (by decide) (by decide)
            refine lv_aload_n hx hb dX12_isTyped_61 rfl (lv_at hl 0 rfl) ?_
            refine r_get (v := .ref (a 2)) hx hb hown hq hE hP 5 16 tFX12_5 (by decide) pw_1432 rfl dX12_isTyped_62 ?_
            refine lv_aload_n hx hb dX12_isTyped_65 rfl (lv_at hl 0 rfl) ?_
            refine r_get (v := .int (nI at0)) hx hb hown hq hE hP 64 343 tFX12_64 (by decide) pw_1592 rfl dX12_isTyped_66 ?_
            refine lv_iconst (v := 2) hx hb dX12_isTyped_69 (by decide) ?_
            refine lv_iadd hx hb dX12_isTyped_70 ?_
            refine lv_topi (fun x29 e30 => ?_)
            obtain rfl : x29 = nI (at0 + 2) := e30.trans (nI_add (at0) (2))
            refine r_ldi (f := K) (j := (at0 + 2)) hx hb hE hP 2 (ma_2 G a _) rfl (by omega) (by decide) dX12_isTyped_71 ?_
            refine lv_bipush (v := 93) hx hb dX12_isTyped_72 (by decide) ?_
            refine lv_icmp_ne (tgt := 81) hx hb dX12_isTyped_74 (by decide) (fun c31 => ?_) (fun c31 => ?_)
            · refine lv_iconst (v := 0) hx hb dX12_isTyped_81 (by decide) ?_
              have hz32 : 0 ≤ 1 := (by omega)
              have hz33 : at0 + 0 ≤ T := (by omega)
              have hP : va_P G.1 pCl (mW G h0 a (upd (upd F 15 (nI fa)) 64 (nI at0)) (updA B 2 K)) _ := hP
              have hD : va_D A (mW G h0 a (upd (upd F 15 (nI fa)) 64 (nI at0)) (updA B 2 K)) := mW_D hD
              exact W.zret (v := 0) hx hb hr rfl (fun t9 ht9 hW9 => ⟨⟨_, 0, rfl, ⟨rfl, hz32, hz33⟩, by rw [ht9]; exact hP, hD⟩, hS.F ht9⟩) hS.2.2 dX12_isTyped_82
            · refine lv_iconst (v := 1) hx hb dX12_isTyped_77 (by decide) ?_
              refine lv_goto (tgt := 82) hx hb dX12_isTyped_78 (by decide) ?_
              have hz34 : 1 ≤ 1 := (by omega)
              have hz35 : at0 + 1 ≤ T := (by omega)
              have hP : va_P G.1 pCl (mW G h0 a (upd (upd F 15 (nI fa)) 64 (nI at0)) (updA B 2 K)) _ := hP
              have hD : va_D A (mW G h0 a (upd (upd F 15 (nI fa)) 64 (nI at0)) (updA B 2 K)) := mW_D hD
              exact W.zret (v := 1) hx hb hr rfl (fun t9 ht9 hW9 => ⟨⟨_, 1, rfl, ⟨rfl, hz34, hz35⟩, by rw [ht9]; exact hP, hD⟩, hS.F ht9⟩) hS.2.2 dX12_isTyped_82
    · have n36 : at0 < T := tk_lt hat hK c11 (by decide) (by decide)
      refine lv_iconst (v := 1) hx hb dX12_isTyped_20 (by decide) ?_
      have hz37 : 1 ≤ 1 := (by omega)
      have hz38 : at0 + 1 ≤ T := (by omega)
      have hP : va_P G.1 pCl (mW G h0 a (upd (upd F 15 (nI fa)) 64 (nI at0)) (updA B 2 K)) _ := hP
      have hD : va_D A (mW G h0 a (upd (upd F 15 (nI fa)) 64 (nI at0)) (updA B 2 K)) := mW_D hD
      exact W.zret (v := 1) hx hb hr rfl (fun t9 ht9 hW9 => ⟨⟨_, 1, rfl, ⟨rfl, hz37, hz38⟩, by rw [ht9]; exact hP, hD⟩, hS.F ht9⟩) hS.2.2 dX12_isTyped_21
theorem dX12_isBegin_0 : decode cX12_isBegin 0 = .ok (.aload_n 0, 1) := by decide +kernel
theorem dX12_isBegin_1 : decode cX12_isBegin 1 = .ok (.invokevirtual 381, 3) := by decide +kernel
theorem dX12_isBegin_4 : decode cX12_isBegin 4 = .ok (.istore_n 1, 1) := by decide +kernel
theorem dX12_isBegin_5 : decode cX12_isBegin 5 = .ok (.iload_n 1, 1) := by decide +kernel
theorem dX12_isBegin_6 : decode cX12_isBegin 6 = .ok (.bipush 123, 2) := by decide +kernel
theorem dX12_isBegin_8 : decode cX12_isBegin 8 = .ok (.if_icmp .eq 79, 3) := by decide +kernel
theorem dX12_isBegin_87 : decode cX12_isBegin 87 = .ok (.iconst 1, 1) := by decide +kernel
theorem dX12_isBegin_88 : decode cX12_isBegin 88 = .ok (.goto 4, 3) := by decide +kernel
theorem dX12_isBegin_92 : decode cX12_isBegin 92 = .ok (.ireturn, 1) := by decide +kernel
theorem dX12_isBegin_11 : decode cX12_isBegin 11 = .ok (.iload_n 1, 1) := by decide +kernel
theorem dX12_isBegin_12 : decode cX12_isBegin 12 = .ok (.bipush 59, 2) := by decide +kernel
theorem dX12_isBegin_14 : decode cX12_isBegin 14 = .ok (.if_icmp .eq 73, 3) := by decide +kernel
theorem dX12_isBegin_17 : decode cX12_isBegin 17 = .ok (.iload_n 1, 1) := by decide +kernel
theorem dX12_isBegin_18 : decode cX12_isBegin 18 = .ok (.sipush 321, 3) := by decide +kernel
theorem dX12_isBegin_21 : decode cX12_isBegin 21 = .ok (.if_icmp .eq 66, 3) := by decide +kernel
theorem dX12_isBegin_24 : decode cX12_isBegin 24 = .ok (.iload_n 1, 1) := by decide +kernel
theorem dX12_isBegin_25 : decode cX12_isBegin 25 = .ok (.sipush 338, 3) := by decide +kernel
theorem dX12_isBegin_28 : decode cX12_isBegin 28 = .ok (.if_icmp .eq 59, 3) := by decide +kernel
theorem dX12_isBegin_31 : decode cX12_isBegin 31 = .ok (.iload_n 1, 1) := by decide +kernel
theorem dX12_isBegin_32 : decode cX12_isBegin 32 = .ok (.sipush 320, 3) := by decide +kernel
theorem dX12_isBegin_35 : decode cX12_isBegin 35 = .ok (.if_icmp .eq 52, 3) := by decide +kernel
theorem dX12_isBegin_38 : decode cX12_isBegin 38 = .ok (.iload_n 1, 1) := by decide +kernel
theorem dX12_isBegin_39 : decode cX12_isBegin 39 = .ok (.sipush 331, 3) := by decide +kernel
theorem dX12_isBegin_42 : decode cX12_isBegin 42 = .ok (.if_icmp .eq 45, 3) := by decide +kernel
theorem dX12_isBegin_45 : decode cX12_isBegin 45 = .ok (.iload_n 1, 1) := by decide +kernel
theorem dX12_isBegin_46 : decode cX12_isBegin 46 = .ok (.sipush 312, 3) := by decide +kernel
theorem dX12_isBegin_49 : decode cX12_isBegin 49 = .ok (.if_icmp .eq 38, 3) := by decide +kernel
theorem dX12_isBegin_52 : decode cX12_isBegin 52 = .ok (.iload_n 1, 1) := by decide +kernel
theorem dX12_isBegin_53 : decode cX12_isBegin 53 = .ok (.sipush 315, 3) := by decide +kernel
theorem dX12_isBegin_56 : decode cX12_isBegin 56 = .ok (.if_icmp .eq 31, 3) := by decide +kernel
theorem dX12_isBegin_59 : decode cX12_isBegin 59 = .ok (.iload_n 1, 1) := by decide +kernel
theorem dX12_isBegin_60 : decode cX12_isBegin 60 = .ok (.sipush 334, 3) := by decide +kernel
theorem dX12_isBegin_63 : decode cX12_isBegin 63 = .ok (.if_icmp .eq 24, 3) := by decide +kernel
theorem dX12_isBegin_66 : decode cX12_isBegin 66 = .ok (.iload_n 1, 1) := by decide +kernel
theorem dX12_isBegin_67 : decode cX12_isBegin 67 = .ok (.sipush 336, 3) := by decide +kernel
theorem dX12_isBegin_70 : decode cX12_isBegin 70 = .ok (.if_icmp .eq 17, 3) := by decide +kernel
theorem dX12_isBegin_73 : decode cX12_isBegin 73 = .ok (.iload_n 1, 1) := by decide +kernel
theorem dX12_isBegin_74 : decode cX12_isBegin 74 = .ok (.sipush 329, 3) := by decide +kernel
theorem dX12_isBegin_77 : decode cX12_isBegin 77 = .ok (.if_icmp .eq 10, 3) := by decide +kernel
theorem dX12_isBegin_80 : decode cX12_isBegin 80 = .ok (.aload_n 0, 1) := by decide +kernel
theorem dX12_isBegin_81 : decode cX12_isBegin 81 = .ok (.invokevirtual 450, 3) := by decide +kernel
theorem dX12_isBegin_84 : decode cX12_isBegin 84 = .ok (.ifCond .eq 7, 3) := by decide +kernel
theorem dX12_isBegin_91 : decode cX12_isBegin 91 = .ok (.iconst 0, 1) := by decide +kernel
theorem hV_X12_isOperand : yX12_isOperand.cls = RX12 ∧ yX12_isOperand.cls ≠ "java/lang/invoke/MethodHandle" ∧ yX12_isOperand.cls ≠ "java/lang/invoke/VarHandle" ∧ (parseMethodDescriptor yX12_isOperand.desc).map (fun d => d.parameters.length) = some 0 := by decide +kernel
set_option maxHeartbeats 2000000 in
set_option maxRecDepth 100000 in
/-- isBegin() -/
theorem R_isBegin (l : Launch) (G : pT) (h0 : Nat) (a : Nat → Nat) (F : Nat → Int32) (B : Nat → Nat → Int32) (at0 : Nat) (T : Nat) (fa : Nat) (K : Nat → Int32) (hat : at0 ≤ T) (hT : T ≤ 5000) (hK : K T = 0 ∨ K T = 3) (hfa : fa ≤ 100) : PM l G pX0 yX12_isBegin cX12_isBegin 2 (some .boolean) ({ frames := 4, cells := 0, slots := 0, locals := 101 }) [.ref h0] (mW G h0 a (upd (upd F 15 (nI fa)) 64 (nI at0)) (updA B 2 K)) (fun (v : Option Value) (u : Nat) => v = some (.int (nI u)) ∧ (u ≤ 1) ∧ (at0 + u ≤ T)) (fun u => (mW G h0 a (upd (upd F 15 (nI fa)) 64 (nI at0)) (updA B 2 K))) := by
  intro sz
  refine Met.ofW (cc := cX12_isBegin) (maxL := 2) (ret := (some .boolean)) (by decide) rfl ?_
  intro p e s m args below meth c s₁ B9 hml hv
  obtain ⟨rfl, hsz, hP, hD0, hE, hX⟩ := hv
  have hx := B9.exec
  have hb := B9.bytes
  have hr := B9.returns
  have hts := atoms_spec (ws := Cond.code yX12_isBegin cX12_isBegin 2 (some .boolean) :: pw) B9.pre
  have hq : ∀ w ∈ pw, w.before _ s = true := fun w h => hts w (List.mem_cons_of_mem _ h)
  have hown : s.vm.findClass RX12 = some m.cls := findClass_of_methodNamed B9.named
  have hlocks := B9.notSynchronized
  subst hsz
  have hD := hD0.self (sz := s.heap.size)
  have hA : ∀ q : Nat, s.heap.size ≤ q → va_A (mW G h0 a (upd (upd F 15 (nI fa)) 64 (nI at0)) (updA B 2 K)) s.heap.size q := fun q h => Or.inr h
  have hP : va_P G.1 pCl (mW G h0 a (upd (upd F 15 (nI fa)) 64 (nI at0)) (updA B 2 K)) s.heap := hP
  generalize va_A (mW G h0 a (upd (upd F 15 (nI fa)) 64 (nI at0)) (updA B 2 K)) s.heap.size = A at hD hE hA ⊢
  have hS : va_S A s.heap s.heap [] := va_S.rf
  have hl := lv_entry ([.ref h0]) (n := 2) (Nat.le_of_ble_eq_true rfl)
  rw [lg_entry_eq]
  generalize (lg_sl ([.ref h0]) ++ List.replicate (2 - (lg_sl ([.ref h0])).length) Slot.unset).toArray = ls at hl ⊢
  have hl : lv_has ls 2 [(0, .ref h0)] := hl
  refine lv_aload_n hx hb dX12_isBegin_0 rfl (lv_at hl 0 rfl) ?_
  have hP : va_P G.1 pCl (mW G h0 a (upd (upd (upd (upd F 15 (nI fa)) 64 (nI at0)) 15 (nI fa)) 64 (nI at0)) (updA (updA B 2 K) 2 K)) _ := mW_to (F := F) (l1 := [(15, (nI fa)), (64, (nI at0))]) (l2 := [(15, (nI fa)), (64, (nI at0)), (15, (nI fa)), (64, (nI at0))]) (V := [(nI fa), (nI at0), (nI fa), (nI at0), (nI fa), (nI at0)]) rfl rfl (show (updA B 2 K) = (updA (updA B 2 K) 2 K) from updsA_eq2 (F := B) (l1 := [(2, K)]) (l2 := [(2, K), (2, K)]) (V := [K, K, K]) rfl rfl) hP
  have hD : va_D A (mW G h0 a (upd (upd (upd (upd F 15 (nI fa)) 64 (nI at0)) 15 (nI fa)) 64 (nI at0)) (updA (updA B 2 K) 2 K)) := mW_D hD
  refine pc_V0 (G := G) (As := []) (rest := []) hx hb hml hown hq hE hX pX0_al hP hD hS hA hl.1 (R_kind l G h0 a (upd (upd F 15 (nI fa)) 64 (nI at0)) (updA B 2 K) at0 T fa K (by omega) (by omega) hK (by omega)) (gV pw_1626 pw_1627 pw_1628 pw_1523 pw_1591) hV_X12_kind 0 9 rfl rfl rfl rfl (Nat.le_of_ble_eq_true rfl) dX12_isBegin_1 ⟨Nat.le_of_ble_eq_true rfl, Nat.le_of_ble_eq_true rfl⟩ ⟨Nat.le_of_ble_eq_true rfl, Nat.le_of_ble_eq_true rfl⟩ (fun v3 u1 H locs hw2 hP hD hS => ?_)
  obtain rfl : v3 = some (.int (K at0)) := hw2
  have hP : va_P G.1 pCl (mW G h0 a (upd (upd F 15 (nI fa)) 64 (nI at0)) (updA B 2 K)) _ := mW_to (F := F) (l1 := [(15, (nI fa)), (64, (nI at0)), (15, (nI fa)), (64, (nI at0))]) (l2 := [(15, (nI fa)), (64, (nI at0))]) (V := [(nI fa), (nI at0), (nI fa), (nI at0), (nI fa), (nI at0)]) rfl rfl (show (updA (updA B 2 K) 2 K) = (updA B 2 K) from updsA_eq2 (F := B) (l1 := [(2, K), (2, K)]) (l2 := [(2, K)]) (V := [K, K, K]) rfl rfl) hP
  have hD : va_D A (mW G h0 a (upd (upd F 15 (nI fa)) 64 (nI at0)) (updA B 2 K)) := mW_D hD
  refine W.widen (k := 0) (n := 0) (Nat.le_of_ble_eq_true rfl) (Nat.le_of_ble_eq_true rfl) ?_
  refine W.eq (g2 := F0 m 4 ls [.int (K at0)]) rfl ?_
  refine lv_istore_n (lv' := [(1, .int (K at0)), (0, .ref h0)]) hx hb dX12_isBegin_4 rfl hl (by decide) rfl (fun ls hl => ?_)
  refine lv_iload_n hx hb dX12_isBegin_5 rfl (lv_at hl 0 rfl) ?_
  refine lv_bipush (v := 123) hx hb dX12_isBegin_6 (by decide) ?_
  refine lv_icmp_eq (tgt := 87) hx hb dX12_isBegin_8 (by decide) (fun c4 => ?_) (fun c4 => ?_)
  · have n5 : at0 < T := tk_lt hat hK c4 (by decide) (by decide)
    refine lv_iconst (v := 1) hx hb dX12_isBegin_87 (by decide) ?_
    refine lv_goto (tgt := 92) hx hb dX12_isBegin_88 (by decide) ?_
    have hz6 : 1 ≤ 1 := (by omega)
    have hz7 : at0 + 1 ≤ T := (by omega)
    have hP : va_P G.1 pCl (mW G h0 a (upd (upd F 15 (nI fa)) 64 (nI at0)) (updA B 2 K)) _ := hP
    have hD : va_D A (mW G h0 a (upd (upd F 15 (nI fa)) 64 (nI at0)) (updA B 2 K)) := mW_D hD
    exact W.zret (v := 1) hx hb hr rfl (fun t9 ht9 hW9 => ⟨⟨_, 1, rfl, ⟨rfl, hz6, hz7⟩, by rw [ht9]; exact hP, hD⟩, hS.F ht9⟩) hS.2.2 dX12_isBegin_92
  · refine lv_iload_n hx hb dX12_isBegin_11 rfl (lv_at hl 0 rfl) ?_
    refine lv_bipush (v := 59) hx hb dX12_isBegin_12 (by decide) ?_
    refine lv_icmp_eq (tgt := 87) hx hb dX12_isBegin_14 (by decide) (fun c8 => ?_) (fun c8 => ?_)
    · have n9 : at0 < T := tk_lt hat hK c8 (by decide) (by decide)
      refine lv_iconst (v := 1) hx hb dX12_isBegin_87 (by decide) ?_
      refine lv_goto (tgt := 92) hx hb dX12_isBegin_88 (by decide) ?_
      have hz10 : 1 ≤ 1 := (by omega)
      have hz11 : at0 + 1 ≤ T := (by omega)
      have hP : va_P G.1 pCl (mW G h0 a (upd (upd F 15 (nI fa)) 64 (nI at0)) (updA B 2 K)) _ := hP
      have hD : va_D A (mW G h0 a (upd (upd F 15 (nI fa)) 64 (nI at0)) (updA B 2 K)) := mW_D hD
      exact W.zret (v := 1) hx hb hr rfl (fun t9 ht9 hW9 => ⟨⟨_, 1, rfl, ⟨rfl, hz10, hz11⟩, by rw [ht9]; exact hP, hD⟩, hS.F ht9⟩) hS.2.2 dX12_isBegin_92
    · refine lv_iload_n hx hb dX12_isBegin_17 rfl (lv_at hl 0 rfl) ?_
      refine lv_sipush (v := 321) hx hb dX12_isBegin_18 (by decide) ?_
      refine lv_icmp_eq (tgt := 87) hx hb dX12_isBegin_21 (by decide) (fun c12 => ?_) (fun c12 => ?_)
      · have n13 : at0 < T := tk_lt hat hK c12 (by decide) (by decide)
        refine lv_iconst (v := 1) hx hb dX12_isBegin_87 (by decide) ?_
        refine lv_goto (tgt := 92) hx hb dX12_isBegin_88 (by decide) ?_
        have hz14 : 1 ≤ 1 := (by omega)
        have hz15 : at0 + 1 ≤ T := (by omega)
        have hP : va_P G.1 pCl (mW G h0 a (upd (upd F 15 (nI fa)) 64 (nI at0)) (updA B 2 K)) _ := hP
        have hD : va_D A (mW G h0 a (upd (upd F 15 (nI fa)) 64 (nI at0)) (updA B 2 K)) := mW_D hD
        exact W.zret (v := 1) hx hb hr rfl (fun t9 ht9 hW9 => ⟨⟨_, 1, rfl, ⟨rfl, hz14, hz15⟩, by rw [ht9]; exact hP, hD⟩, hS.F ht9⟩) hS.2.2 dX12_isBegin_92
      · refine lv_iload_n hx hb dX12_isBegin_24 rfl (lv_at hl 0 rfl) ?_
        refine lv_sipush (v := 338) hx hb dX12_isBegin_25 (by decide) ?_
        refine lv_icmp_eq (tgt := 87) hx hb dX12_isBegin_28 (by decide) (fun c16 => ?_) (fun c16 => ?_)
        · have n17 : at0 < T := tk_lt hat hK c16 (by decide) (by decide)
          refine lv_iconst (v := 1) hx hb dX12_isBegin_87 (by decide) ?_
          refine lv_goto (tgt := 92) hx hb dX12_isBegin_88 (by decide) ?_
          have hz18 : 1 ≤ 1 := (by omega)
          have hz19 : at0 + 1 ≤ T := (by omega)
          have hP : va_P G.1 pCl (mW G h0 a (upd (upd F 15 (nI fa)) 64 (nI at0)) (updA B 2 K)) _ := hP
          have hD : va_D A (mW G h0 a (upd (upd F 15 (nI fa)) 64 (nI at0)) (updA B 2 K)) := mW_D hD
          exact W.zret (v := 1) hx hb hr rfl (fun t9 ht9 hW9 => ⟨⟨_, 1, rfl, ⟨rfl, hz18, hz19⟩, by rw [ht9]; exact hP, hD⟩, hS.F ht9⟩) hS.2.2 dX12_isBegin_92
        · refine lv_iload_n hx hb dX12_isBegin_31 rfl (lv_at hl 0 rfl) ?_
          refine lv_sipush (v := 320) hx hb dX12_isBegin_32 (by decide) ?_
          refine lv_icmp_eq (tgt := 87) hx hb dX12_isBegin_35 (by decide) (fun c20 => ?_) (fun c20 => ?_)
          · have n21 : at0 < T := tk_lt hat hK c20 (by decide) (by decide)
            refine lv_iconst (v := 1) hx hb dX12_isBegin_87 (by decide) ?_
            refine lv_goto (tgt := 92) hx hb dX12_isBegin_88 (by decide) ?_
            have hz22 : 1 ≤ 1 := (by omega)
            have hz23 : at0 + 1 ≤ T := (by omega)
            have hP : va_P G.1 pCl (mW G h0 a (upd (upd F 15 (nI fa)) 64 (nI at0)) (updA B 2 K)) _ := hP
            have hD : va_D A (mW G h0 a (upd (upd F 15 (nI fa)) 64 (nI at0)) (updA B 2 K)) := mW_D hD
            exact W.zret (v := 1) hx hb hr rfl (fun t9 ht9 hW9 => ⟨⟨_, 1, rfl, ⟨rfl, hz22, hz23⟩, by rw [ht9]; exact hP, hD⟩, hS.F ht9⟩) hS.2.2 dX12_isBegin_92
          · refine lv_iload_n hx hb dX12_isBegin_38 rfl (lv_at hl 0 rfl) ?_
            refine lv_sipush (v := 331) hx hb dX12_isBegin_39 (by decide) ?_
            refine lv_icmp_eq (tgt := 87) hx hb dX12_isBegin_42 (by decide) (fun c24 => ?_) (fun c24 => ?_)
            · have n25 : at0 < T := tk_lt hat hK c24 (by decide) (by decide)
              refine lv_iconst (v := 1) hx hb dX12_isBegin_87 (by decide) ?_
              refine lv_goto (tgt := 92) hx hb dX12_isBegin_88 (by decide) ?_
              have hz26 : 1 ≤ 1 := (by omega)
              have hz27 : at0 + 1 ≤ T := (by omega)
              have hP : va_P G.1 pCl (mW G h0 a (upd (upd F 15 (nI fa)) 64 (nI at0)) (updA B 2 K)) _ := hP
              have hD : va_D A (mW G h0 a (upd (upd F 15 (nI fa)) 64 (nI at0)) (updA B 2 K)) := mW_D hD
              exact W.zret (v := 1) hx hb hr rfl (fun t9 ht9 hW9 => ⟨⟨_, 1, rfl, ⟨rfl, hz26, hz27⟩, by rw [ht9]; exact hP, hD⟩, hS.F ht9⟩) hS.2.2 dX12_isBegin_92
            · refine lv_iload_n hx hb dX12_isBegin_45 rfl (lv_at hl 0 rfl) ?_
              refine lv_sipush (v := 312) hx hb dX12_isBegin_46 (by decide) ?_
              refine lv_icmp_eq (tgt := 87) hx hb dX12_isBegin_49 (by decide) (fun c28 => ?_) (fun c28 => ?_)
              · have n29 : at0 < T := tk_lt hat hK c28 (by decide) (by decide)
                refine lv_iconst (v := 1) hx hb dX12_isBegin_87 (by decide) ?_
                refine lv_goto (tgt := 92) hx hb dX12_isBegin_88 (by decide) ?_
                have hz30 : 1 ≤ 1 := (by omega)
                have hz31 : at0 + 1 ≤ T := (by omega)
                have hP : va_P G.1 pCl (mW G h0 a (upd (upd F 15 (nI fa)) 64 (nI at0)) (updA B 2 K)) _ := hP
                have hD : va_D A (mW G h0 a (upd (upd F 15 (nI fa)) 64 (nI at0)) (updA B 2 K)) := mW_D hD
                exact W.zret (v := 1) hx hb hr rfl (fun t9 ht9 hW9 => ⟨⟨_, 1, rfl, ⟨rfl, hz30, hz31⟩, by rw [ht9]; exact hP, hD⟩, hS.F ht9⟩) hS.2.2 dX12_isBegin_92
              · refine lv_iload_n hx hb dX12_isBegin_52 rfl (lv_at hl 0 rfl) ?_
                refine lv_sipush (v := 315) hx hb dX12_isBegin_53 (by decide) ?_
                refine lv_icmp_eq (tgt := 87) hx hb dX12_isBegin_56 (by decide) (fun c32 => ?_) (fun c32 => ?_)
                · have n33 : at0 < T := tk_lt hat hK c32 (by decide) (by decide)
                  refine lv_iconst (v := 1) hx hb dX12_isBegin_87 (by decide) ?_
                  refine lv_goto (tgt := 92) hx hb dX12_isBegin_88 (by decide) ?_
                  have hz34 : 1 ≤ 1 := (by omega)
                  have hz35 : at0 + 1 ≤ T := (by omega)
                  have hP : va_P G.1 pCl (mW G h0 a (upd (upd F 15 (nI fa)) 64 (nI at0)) (updA B 2 K)) _ := hP
                  have hD : va_D A (mW G h0 a (upd (upd F 15 (nI fa)) 64 (nI at0)) (updA B 2 K)) := mW_D hD
                  exact W.zret (v := 1) hx hb hr rfl (fun t9 ht9 hW9 => ⟨⟨_, 1, rfl, ⟨rfl, hz34, hz35⟩, by rw [ht9]; exact hP, hD⟩, hS.F ht9⟩) hS.2.2 dX12_isBegin_92
                · refine lv_iload_n hx hb dX12_isBegin_59 rfl (lv_at hl 0 rfl) ?_
                  refine lv_sipush (v := 334) hx hb dX12_isBegin_60 (by decide) ?_
                  refine lv_icmp_eq (tgt := 87) hx hb dX12_isBegin_63 (by decide) (fun c36 => ?_) (fun c36 => ?_)
                  · have n37 : at0 < T := tk_lt hat hK c36 (by decide) (by decide)
                    refine lv_iconst (v := 1) hx hb dX12_isBegin_87 (by decide) ?_
                    refine lv_goto (tgt := 92) hx hb dX12_isBegin_88 (by decide) ?_
                    have hz38 : 1 ≤ 1 := (by omega)
                    have hz39 : at0 + 1 ≤ T := (by omega)
                    have hP : va_P G.1 pCl (mW G h0 a (upd (upd F 15 (nI fa)) 64 (nI at0)) (updA B 2 K)) _ := hP
                    have hD : va_D A (mW G h0 a (upd (upd F 15 (nI fa)) 64 (nI at0)) (updA B 2 K)) := mW_D hD
                    exact W.zret (v := 1) hx hb hr rfl (fun t9 ht9 hW9 => ⟨⟨_, 1, rfl, ⟨rfl, hz38, hz39⟩, by rw [ht9]; exact hP, hD⟩, hS.F ht9⟩) hS.2.2 dX12_isBegin_92
                  · refine lv_iload_n hx hb dX12_isBegin_66 rfl (lv_at hl 0 rfl) ?_
                    refine lv_sipush (v := 336) hx hb dX12_isBegin_67 (by decide) ?_
                    refine lv_icmp_eq (tgt := 87) hx hb dX12_isBegin_70 (by decide) (fun c40 => ?_) (fun c40 => ?_)
                    · have n41 : at0 < T := tk_lt hat hK c40 (by decide) (by decide)
                      refine lv_iconst (v := 1) hx hb dX12_isBegin_87 (by decide) ?_
                      refine lv_goto (tgt := 92) hx hb dX12_isBegin_88 (by decide) ?_
                      have hz42 : 1 ≤ 1 := (by omega)
                      have hz43 : at0 + 1 ≤ T := (by omega)
                      have hP : va_P G.1 pCl (mW G h0 a (upd (upd F 15 (nI fa)) 64 (nI at0)) (updA B 2 K)) _ := hP
                      have hD : va_D A (mW G h0 a (upd (upd F 15 (nI fa)) 64 (nI at0)) (updA B 2 K)) := mW_D hD
                      exact W.zret (v := 1) hx hb hr rfl (fun t9 ht9 hW9 => ⟨⟨_, 1, rfl, ⟨rfl, hz42, hz43⟩, by rw [ht9]; exact hP, hD⟩, hS.F ht9⟩) hS.2.2 dX12_isBegin_92
                    · refine lv_iload_n hx hb dX12_isBegin_73 rfl (lv_at hl 0 rfl) ?_
                      refine lv_sipush (v := 329) hx hb dX12_isBegin_74 (by decide) ?_
                      refine lv_icmp_eq (tgt := 87) hx hb dX12_isBegin_77 (by decide) (fun c44 => ?_) (fun c44 => ?_)
                      · have n45 : at0 < T := tk_lt hat hK c44 (by decide) (by decide)
                        refine lv_iconst (v := 1) hx hb dX12_isBegin_87 (by decide) ?_
                        refine lv_goto (tgt := 92) hx hb dX12_isBegin_88 (by decide) ?_
                        have hz46 : 1 ≤ 1 := (by omega)
                        have hz47 : at0 + 1 ≤ T := (by omega)
                        have hP : va_P G.1 pCl (mW G h0 a (upd (upd F 15 (nI fa)) 64 (nI at0)) (updA B 2 K)) _ := hP
                        have hD : va_D A (mW G h0 a (upd (upd F 15 (nI fa)) 64 (nI at0)) (updA B 2 K)) := mW_D hD
                        exact W.zret (v := 1) hx hb hr rfl (fun t9 ht9 hW9 => ⟨⟨_, 1, rfl, ⟨rfl, hz46, hz47⟩, by rw [ht9]; exact hP, hD⟩, hS.F ht9⟩) hS.2.2 dX12_isBegin_92
                      · refine lv_aload_n hx hb dX12_isBegin_80 rfl (lv_at hl 1 rfl) ?_
                        have hP : va_P G.1 pCl (mW G h0 a (upd (upd (upd (upd F 15 (nI fa)) 64 (nI at0)) 15 (nI fa)) 64 (nI at0)) (updA (updA B 2 K) 2 K)) _ := mW_to (F := F) (l1 := [(15, (nI fa)), (64, (nI at0))]) (l2 := [(15, (nI fa)), (64, (nI at0)), (15, (nI fa)), (64, (nI at0))]) (V := [(nI fa), (nI at0), (nI fa), (nI at0), (nI fa), (nI at0)]) rfl rfl (show (updA B 2 K) = (updA (updA B 2 K) 2 K) from updsA_eq2 (F := B) (l1 := [(2, K)]) (l2 := [(2, K), (2, K)]) (V := [K, K, K]) rfl rfl) hP
                        have hD : va_D A (mW G h0 a (upd (upd (upd (upd F 15 (nI fa)) 64 (nI at0)) 15 (nI fa)) 64 (nI at0)) (updA (updA B 2 K) 2 K)) := mW_D hD
                        refine pc_V0 (G := G) (As := []) (rest := []) hx hb hml hown hq hE hX pX0_al hP hD hS hA hl.1 (R_isOperand l G h0 a (upd (upd F 15 (nI fa)) 64 (nI at0)) (updA B 2 K) at0 T fa K (by omega) (by omega) hK (by omega)) (gV pw_1675 pw_1676 pw_1677 pw_1523 pw_1636) hV_X12_isOperand 0 9 rfl rfl rfl rfl (Nat.le_of_ble_eq_true rfl) dX12_isBegin_81 ⟨Nat.le_of_ble_eq_true rfl, Nat.le_of_ble_eq_true rfl⟩ ⟨Nat.le_of_ble_eq_true rfl, Nat.le_of_ble_eq_true rfl⟩ (fun v50 u48 H locs hw49 hP hD hS => ?_)
                        obtain ⟨r51, rfl⟩ : ∃ z, z = u48 := ⟨_, rfl⟩
                        obtain ⟨hw49, h52, h53⟩ := hw49
                        have h52 : r51 ≤ 1 := h52
                        have h53 : at0 + r51 ≤ T := h53
                        obtain rfl : v50 = some (.int (nI r51)) := hw49
                        have hP : va_P G.1 pCl (mW G h0 a (upd (upd F 15 (nI fa)) 64 (nI at0)) (updA B 2 K)) _ := mW_to (F := F) (l1 := [(15, (nI fa)), (64, (nI at0)), (15, (nI fa)), (64, (nI at0))]) (l2 := [(15, (nI fa)), (64, (nI at0))]) (V := [(nI fa), (nI at0), (nI fa), (nI at0), (nI fa), (nI at0)]) rfl rfl (show (updA (updA B 2 K) 2 K) = (updA B 2 K) from updsA_eq2 (F := B) (l1 := [(2, K), (2, K)]) (l2 := [(2, K)]) (V := [K, K, K]) rfl rfl) hP
                        have hD : va_D A (mW G h0 a (upd (upd F 15 (nI fa)) 64 (nI at0)) (updA B 2 K)) := mW_D hD
                        refine W.widen (k := 0) (n := 0) (Nat.le_of_ble_eq_true rfl) (Nat.le_of_ble_eq_true rfl) ?_
                        refine W.eq (g2 := F0 m 84 ls [.int (nI r51)]) rfl ?_
                        refine lv_if_eq (tgt := 91) hx hb dX12_isBegin_84 (by decide) (fun c54 => ?_) (fun c54 => ?_)
                        · have n55 : r51 = 0 := (nI_eq (a := r51) (b := 0) (by omega) (by omega)).mp c54
                          refine lv_iconst (v := 0) hx hb dX12_isBegin_91 (by decide) ?_
                          have hz56 : 0 ≤ 1 := (by omega)
                          have hz57 : at0 + 0 ≤ T := (by omega)
                          have hP : va_P G.1 pCl (mW G h0 a (upd (upd F 15 (nI fa)) 64 (nI at0)) (updA B 2 K)) _ := hP
                          have hD : va_D A (mW G h0 a (upd (upd F 15 (nI fa)) 64 (nI at0)) (updA B 2 K)) := mW_D hD
                          exact W.zret (v := 0) hx hb hr rfl (fun t9 ht9 hW9 => ⟨⟨_, 0, rfl, ⟨rfl, hz56, hz57⟩, by rw [ht9]; exact hP, hD⟩, hS.F ht9⟩) hS.2.2 dX12_isBegin_92
                        · have n58 : ¬ (r51 = 0) := fun h9 => c54 ((nI_eq (a := r51) (b := 0) (by omega) (by omega)).mpr h9)
                          refine lv_iconst (v := 1) hx hb dX12_isBegin_87 (by decide) ?_
                          refine lv_goto (tgt := 92) hx hb dX12_isBegin_88 (by decide) ?_
                          have hz59 : 1 ≤ 1 := (by omega)
                          have hz60 : at0 + 1 ≤ T := (by omega)
                          have hP : va_P G.1 pCl (mW G h0 a (upd (upd F 15 (nI fa)) 64 (nI at0)) (updA B 2 K)) _ := hP
                          have hD : va_D A (mW G h0 a (upd (upd F 15 (nI fa)) 64 (nI at0)) (updA B 2 K)) := mW_D hD
                          exact W.zret (v := 1) hx hb hr rfl (fun t9 ht9 hW9 => ⟨⟨_, 1, rfl, ⟨rfl, hz59, hz60⟩, by rw [ht9]; exact hP, hD⟩, hS.F ht9⟩) hS.2.2 dX12_isBegin_92
theorem dX12_typeHere_0 : decode cX12_typeHere 0 = .ok (.aload_n 0, 1) := by decide +kernel
theorem dX12_typeHere_1 : decode cX12_typeHere 1 = .ok (.getfield 399, 3) := by decide +kernel
theorem dX12_typeHere_4 : decode cX12_typeHere 4 = .ok (.istore_n 1, 1) := by decide +kernel
theorem dX12_typeHere_5 : decode cX12_typeHere 5 = .ok (.aload_n 0, 1) := by decide +kernel
theorem dX12_typeHere_6 : decode cX12_typeHere 6 = .ok (.getfield 350, 3) := by decide +kernel
theorem dX12_typeHere_9 : decode cX12_typeHere 9 = .ok (.ifCond .le 5, 3) := by decide +kernel
theorem dX12_typeHere_14 : decode cX12_typeHere 14 = .ok (.aload_n 0, 1) := by decide +kernel
theorem dX12_typeHere_15 : decode cX12_typeHere 15 = .ok (.invokevirtual 402, 3) := by decide +kernel
theorem dX12_typeHere_18 : decode cX12_typeHere 18 = .ok (.ifCond .ne 10, 3) := by decide +kernel
theorem dX12_typeHere_28 : decode cX12_typeHere 28 = .ok (.aload_n 0, 1) := by decide +kernel
theorem dX12_typeHere_29 : decode cX12_typeHere 29 = .ok (.dup, 1) := by decide +kernel
theorem dX12_typeHere_30 : decode cX12_typeHere 30 = .ok (.getfield 399, 3) := by decide +kernel
theorem dX12_typeHere_33 : decode cX12_typeHere 33 = .ok (.iconst 1, 1) := by decide +kernel
theorem dX12_typeHere_34 : decode cX12_typeHere 34 = .ok (.iadd, 1) := by decide +kernel
theorem dX12_typeHere_35 : decode cX12_typeHere 35 = .ok (.putfield 399, 3) := by decide +kernel
theorem dX12_typeHere_38 : decode cX12_typeHere 38 = .ok (.aload_n 0, 1) := by decide +kernel
theorem dX12_typeHere_39 : decode cX12_typeHere 39 = .ok (.getfield 68, 3) := by decide +kernel
theorem dX12_typeHere_42 : decode cX12_typeHere 42 = .ok (.iload_n 1, 1) := by decide +kernel
theorem dX12_typeHere_43 : decode cX12_typeHere 43 = .ok (.aload_n 0, 1) := by decide +kernel
theorem dX12_typeHere_44 : decode cX12_typeHere 44 = .ok (.getfield 343, 3) := by decide +kernel
theorem dX12_typeHere_47 : decode cX12_typeHere 47 = .ok (.iastore, 1) := by decide +kernel
theorem dX12_typeHere_48 : decode cX12_typeHere 48 = .ok (.aload_n 0, 1) := by decide +kernel
theorem dX12_typeHere_49 : decode cX12_typeHere 49 = .ok (.dup, 1) := by decide +kernel
theorem dX12_typeHere_50 : decode cX12_typeHere 50 = .ok (.getfield 343, 3) := by decide +kernel
theorem dX12_typeHere_53 : decode cX12_typeHere 53 = .ok (.iconst 1, 1) := by decide +kernel
theorem dX12_typeHere_54 : decode cX12_typeHere 54 = .ok (.iadd, 1) := by decide +kernel
theorem dX12_typeHere_55 : decode cX12_typeHere 55 = .ok (.putfield 343, 3) := by decide +kernel
theorem dX12_typeHere_58 : decode cX12_typeHere 58 = .ok (.aload_n 0, 1) := by decide +kernel
theorem dX12_typeHere_59 : decode cX12_typeHere 59 = .ok (.getfield 71, 3) := by decide +kernel
theorem dX12_typeHere_62 : decode cX12_typeHere 62 = .ok (.iload_n 1, 1) := by decide +kernel
theorem dX12_typeHere_63 : decode cX12_typeHere 63 = .ok (.aload_n 0, 1) := by decide +kernel
theorem dX12_typeHere_64 : decode cX12_typeHere 64 = .ok (.bipush 91, 2) := by decide +kernel
theorem dX12_typeHere_66 : decode cX12_typeHere 66 = .ok (.invokevirtual 378, 3) := by decide +kernel
theorem dX12_typeHere_69 : decode cX12_typeHere 69 = .ok (.bastore, 1) := by decide +kernel
theorem dX12_typeHere_70 : decode cX12_typeHere 70 = .ok (.aload_n 0, 1) := by decide +kernel
theorem dX12_typeHere_71 : decode cX12_typeHere 71 = .ok (.getfield 71, 3) := by decide +kernel
theorem dX12_typeHere_74 : decode cX12_typeHere 74 = .ok (.iload_n 1, 1) := by decide +kernel
theorem dX12_typeHere_75 : decode cX12_typeHere 75 = .ok (.baload, 1) := by decide +kernel
theorem dX12_typeHere_76 : decode cX12_typeHere 76 = .ok (.ifCond .eq 9, 3) := by decide +kernel
theorem dX12_typeHere_85 : decode cX12_typeHere 85 = .ok (.iload_n 1, 1) := by decide +kernel
theorem dX12_typeHere_86 : decode cX12_typeHere 86 = .ok (.ireturn, 1) := by decide +kernel
theorem dX12_typeHere_79 : decode cX12_typeHere 79 = .ok (.aload_n 0, 1) := by decide +kernel
theorem dX12_typeHere_80 : decode cX12_typeHere 80 = .ok (.bipush 93, 2) := by decide +kernel
theorem dX12_typeHere_82 : decode cX12_typeHere 82 = .ok (.invokevirtual 369, 3) := by decide +kernel
theorem dX12_typeHere_21 : decode cX12_typeHere 21 = .ok (.aload_n 0, 1) := by decide +kernel
theorem dX12_typeHere_22 : decode cX12_typeHere 22 = .ok (.iconst 1, 1) := by decide +kernel
theorem dX12_typeHere_23 : decode cX12_typeHere 23 = .ok (.invokevirtual 356, 3) := by decide +kernel
theorem dX12_typeHere_26 : decode cX12_typeHere 26 = .ok (.iconst 0, 1) := by decide +kernel
theorem dX12_typeHere_27 : decode cX12_typeHere 27 = .ok (.ireturn, 1) := by decide +kernel
theorem dX12_typeHere_12 : decode cX12_typeHere 12 = .ok (.iconst 0, 1) := by decide +kernel
theorem dX12_typeHere_13 : decode cX12_typeHere 13 = .ok (.ireturn, 1) := by decide +kernel
theorem hV_X12_isSort : yX12_isSort.cls = RX12 ∧ yX12_isSort.cls ≠ "java/lang/invoke/MethodHandle" ∧ yX12_isSort.cls ≠ "java/lang/invoke/VarHandle" ∧ (parseMethodDescriptor yX12_isSort.desc).map (fun d => d.parameters.length) = some 0 := by decide +kernel
theorem hV_X12_may : yX12_may.cls = RX12 ∧ yX12_may.cls ≠ "java/lang/invoke/MethodHandle" ∧ yX12_may.cls ≠ "java/lang/invoke/VarHandle" ∧ (parseMethodDescriptor yX12_may.desc).map (fun d => d.parameters.length) = some 1 := by decide +kernel
set_option maxHeartbeats 2000000 in
set_option maxRecDepth 100000 in
/-- typeHere() -/
theorem R_typeHere (l : Launch) (G : pT) (h0 : Nat) (a : Nat → Nat) (F : Nat → Int32) (B : Nat → Nat → Int32) (at0 : Nat) (T : Nat) (fa : Nat) (K : Nat → Int32) (wr : Nat) (yt : Nat → Int32) (hat : at0 ≤ T) (hT : T ≤ 5000) (hK : K T = 0 ∨ K T = 3) (hfa : fa ≤ 100) (hwr : wr ≤ at0) (hy : tkRow yt wr T) : PM l G pX0 yX12_typeHere cX12_typeHere 2 (some .int) ({ frames := 5, cells := 0, slots := 0, locals := 124 }) [.ref h0] (mW G h0 a (upd (upd (upd F 15 (nI fa)) 31 (nI wr)) 64 (nI at0)) (updA (updA B 2 K) 19 yt)) (fun (v : Option Value) (u : Nat × Nat × Int32 × Nat × Nat × (Nat → Int32) × (Nat → Int32)) => v = some (.int (nI u.2.2.2.2.1)) ∧ (at0 ≤ u.1) ∧ (u.1 ≤ T) ∧ (fa ≤ u.2.1) ∧ (u.2.1 ≤ 100) ∧ (If (0 < fa) (u.1 = at0 ∧ u.2.1 = fa)) ∧ (wr ≤ u.2.2.2.1) ∧ (u.2.2.2.1 + at0 ≤ wr + u.1) ∧ (If (0 < fa) (u.2.2.2.1 = wr)) ∧ (u.2.2.2.2.1 + 1 ≤ u.2.2.2.1 + 6000 * u.2.1) ∧ (at0 + 1 ≤ u.1 + u.2.1) ∧ (tkRow u.2.2.2.2.2.1 u.2.2.2.1 T) ∧ (∀ i : Nat, i < wr → u.2.2.2.2.2.1 i = yt i) ∧ (∀ i : Nat, i < wr → u.2.2.2.2.2.2 i = B 20 i) ∧ (u.2.2.2.2.1 ≤ wr)) (fun u => (mW G h0 a (upd (upd (upd (upd F 15 (nI u.2.1)) 16 u.2.2.1) 31 (nI u.2.2.2.1)) 64 (nI u.1)) (updA (updA (updA B 2 K) 19 u.2.2.2.2.2.1) 20 u.2.2.2.2.2.2))) := by
  intro sz
  refine Met.ofW (cc := cX12_typeHere) (maxL := 2) (ret := (some .int)) (by decide) rfl ?_
  intro p e s m args below meth c s₁ B9 hml hv
  obtain ⟨rfl, hsz, hP, hD0, hE, hX⟩ := hv
  have hx := B9.exec
  have hb := B9.bytes
  have hr := B9.returns
  have hts := atoms_spec (ws := Cond.code yX12_typeHere cX12_typeHere 2 (some .int) :: pw) B9.pre
  have hq : ∀ w ∈ pw, w.before _ s = true := fun w h => hts w (List.mem_cons_of_mem _ h)
  have hown : s.vm.findClass RX12 = some m.cls := findClass_of_methodNamed B9.named
  have hlocks := B9.notSynchronized
  subst hsz
  have hD := hD0.self (sz := s.heap.size)
  have hA : ∀ q : Nat, s.heap.size ≤ q → va_A (mW G h0 a (upd (upd (upd F 15 (nI fa)) 31 (nI wr)) 64 (nI at0)) (updA (updA B 2 K) 19 yt)) s.heap.size q := fun q h => Or.inr h
  have hP : va_P G.1 pCl (mW G h0 a (upd (upd (upd F 15 (nI fa)) 31 (nI wr)) 64 (nI at0)) (updA (updA B 2 K) 19 yt)) s.heap := hP
  generalize va_A (mW G h0 a (upd (upd (upd F 15 (nI fa)) 31 (nI wr)) 64 (nI at0)) (updA (updA B 2 K) 19 yt)) s.heap.size = A at hD hE hA ⊢
  have hS : va_S A s.heap s.heap [] := va_S.rf
  have hl := lv_entry ([.ref h0]) (n := 2) (Nat.le_of_ble_eq_true rfl)
  rw [lg_entry_eq]
  generalize (lg_sl ([.ref h0]) ++ List.replicate (2 - (lg_sl ([.ref h0])).length) Slot.unset).toArray = ls at hl ⊢
  have hl : lv_has ls 2 [(0, .ref h0)] := hl
  refine lv_aload_n hx hb dX12_typeHere_0 rfl (lv_at hl 0 rfl) ?_
  refine r_get (v := .int (nI wr)) hx hb hown hq hE hP 31 399 tFX12_31 (by decide) pw_1629 rfl dX12_typeHere_1 ?_
  refine lv_istore_n (lv' := [(1, .int (nI wr)), (0, .ref h0)]) hx hb dX12_typeHere_4 rfl hl (by decide) rfl (fun ls hl => ?_)
  refine lv_aload_n hx hb dX12_typeHere_5 rfl (lv_at hl 1 rfl) ?_
  refine r_get (v := .int (nI fa)) hx hb hown hq hE hP 15 350 tFX12_15 (by decide) pw_1594 rfl dX12_typeHere_6 ?_
  refine lv_if_le (tgt := 14) hx hb dX12_typeHere_9 (by decide) (fun c1 => ?_) (fun c1 => ?_)
  · have n2 : fa ≤ 0 := (nI_leI (a := fa) (b := 0) (by omega) (by omega)).mp c1
    refine lv_aload_n hx hb dX12_typeHere_14 rfl (lv_at hl 1 rfl) ?_
    have hP : va_P G.1 pCl (mW G h0 a (upd (upd (upd (upd (upd F 15 (nI fa)) 31 (nI wr)) 64 (nI at0)) 15 (nI fa)) 64 (nI at0)) (updA (updA (updA B 2 K) 19 yt) 2 K)) _ := mW_to (F := F) (l1 := [(15, (nI fa)), (31, (nI wr)), (64, (nI at0))]) (l2 := [(15, (nI fa)), (31, (nI wr)), (64, (nI at0)), (15, (nI fa)), (64, (nI at0))]) (V := [(nI fa), (nI wr), (nI at0), (nI fa), (nI wr), (nI at0), (nI fa), (nI at0)]) rfl rfl (show (updA (updA B 2 K) 19 yt) = (updA (updA (updA B 2 K) 19 yt) 2 K) from updsA_eq2 (F := B) (l1 := [(2, K), (19, yt)]) (l2 := [(2, K), (19, yt), (2, K)]) (V := [K, yt, K, yt, K]) rfl rfl) hP
    have hD : va_D A (mW G h0 a (upd (upd (upd (upd (upd F 15 (nI fa)) 31 (nI wr)) 64 (nI at0)) 15 (nI fa)) 64 (nI at0)) (updA (updA (updA B 2 K) 19 yt) 2 K)) := mW_D hD
    refine pc_V0 (G := G) (As := []) (rest := []) hx hb hml hown hq hE hX pX0_al hP hD hS hA hl.1 (R_isSort l G h0 a (upd (upd (upd F 15 (nI fa)) 31 (nI wr)) 64 (nI at0)) (updA (updA B 2 K) 19 yt) at0 T fa K (by omega) (by omega) hK (by omega)) (gV pw_1630 pw_1631 pw_1632 pw_1523 pw_1625) hV_X12_isSort 0 9 rfl rfl rfl rfl (Nat.le_of_ble_eq_true rfl) dX12_typeHere_15 ⟨Nat.le_of_ble_eq_true rfl, Nat.le_of_ble_eq_true rfl⟩ ⟨Nat.le_of_ble_eq_true rfl, Nat.le_of_ble_eq_true rfl⟩ (fun v5 u3 H locs hw4 hP hD hS => ?_)
    obtain ⟨r6, rfl⟩ : ∃ z, z = u3 := ⟨_, rfl⟩
    obtain ⟨hw4, h7, h8⟩ := hw4
    have h7 : r6 ≤ 1 := h7
    have h8 : at0 + r6 ≤ T := h8
    obtain rfl : v5 = some (.int (nI r6)) := hw4
    have hP : va_P G.1 pCl (mW G h0 a (upd (upd (upd F 15 (nI fa)) 31 (nI wr)) 64 (nI at0)) (updA (updA B 2 K) 19 yt)) _ := mW_to (F := F) (l1 := [(15, (nI fa)), (31, (nI wr)), (64, (nI at0)), (15, (nI fa)), (64, (nI at0))]) (l2 := [(15, (nI fa)), (31, (nI wr)), (64, (nI at0))]) (V := [(nI fa), (nI wr), (nI at0), (nI fa), (nI at0), (nI fa), (nI wr), (nI at0)]) rfl rfl (show (updA (updA (updA B 2 K) 19 yt) 2 K) = (updA (updA B 2 K) 19 yt) from updsA_eq2 (F := B) (l1 := [(2, K), (19, yt), (2, K)]) (l2 := [(2, K), (19, yt)]) (V := [K, yt, K, K, yt]) rfl rfl) hP
    have hD : va_D A (mW G h0 a (upd (upd (upd F 15 (nI fa)) 31 (nI wr)) 64 (nI at0)) (updA (updA B 2 K) 19 yt)) := mW_D hD
    refine W.widen (k := 0) (n := 0) (Nat.le_of_ble_eq_true rfl) (Nat.le_of_ble_eq_true rfl) ?_
    refine W.eq (g2 := F0 m 18 ls [.int (nI r6)]) rfl ?_
    refine lv_if_ne (tgt := 28) hx hb dX12_typeHere_18 (by decide) (fun c9 => ?_) (fun c9 => ?_)
    · have n10 : ¬ (r6 = 0) := fun h9 => c9 ((nI_eq (a := r6) (b := 0) (by omega) (by omega)).mpr h9)
      refine lv_aload_n hx hb dX12_typeHere_28 rfl (lv_at hl 1 rfl) ?_
      refine lv_dup hx hb dX12_typeHere_29 rfl ?_
      refine r_get (v := .int (nI wr)) hx hb hown hq hE hP 31 399 tFX12_31 (by decide) pw_1629 rfl dX12_typeHere_30 ?_
      refine lv_iconst (v := 1) hx hb dX12_typeHere_33 (by decide) ?_
      refine lv_iadd hx hb dX12_typeHere_34 ?_
      refine lv_topi (fun x11 e12 => ?_)
      obtain rfl : x11 = nI (wr + 1) := e12.trans (nI_add (wr) (1))
      refine r_put (v := (nI (wr + 1))) (ty := .int) hx hb hown hq hE hP hD hS 31 399 tFX12_31 (by decide) pw_1629 (by decide) rfl rfl (ms_31 a _ _) dX12_typeHere_35 (fun H locs hP hD hS => ?_)
      refine lv_aload_n hx hb dX12_typeHere_38 rfl (lv_at hl 1 rfl) ?_
      refine r_get (v := .ref (a 19)) hx hb hown hq hE hP 28 68 tFX12_28 (by decide) pw_1449 rfl dX12_typeHere_39 ?_
      refine lv_iload_n hx hb dX12_typeHere_42 rfl (lv_at hl 0 rfl) ?_
      refine lv_aload_n hx hb dX12_typeHere_43 rfl (lv_at hl 1 rfl) ?_
      refine r_get (v := .int (nI at0)) hx hb hown hq hE hP 64 343 tFX12_64 (by decide) pw_1592 rfl dX12_typeHere_44 ?_
      refine r_sti (f := yt) (j := wr) hx hb hE hP hD hS 19 (ma_19 G a _) rfl (mas_19 G a _) (by omega) (by decide) dX12_typeHere_47 (fun H locs hP hD hS => ?_)
      refine lv_aload_n hx hb dX12_typeHere_48 rfl (lv_at hl 1 rfl) ?_
      refine lv_dup hx hb dX12_typeHere_49 rfl ?_
      refine r_get (v := .int (nI at0)) hx hb hown hq hE hP 64 343 tFX12_64 (by decide) pw_1592 rfl dX12_typeHere_50 ?_
      refine lv_iconst (v := 1) hx hb dX12_typeHere_53 (by decide) ?_
      refine lv_iadd hx hb dX12_typeHere_54 ?_
      refine lv_topi (fun x13 e14 => ?_)
      obtain rfl : x13 = nI (at0 + 1) := e14.trans (nI_add (at0) (1))
      refine r_put (v := (nI (at0 + 1))) (ty := .int) hx hb hown hq hE hP hD hS 64 343 tFX12_64 (by decide) pw_1592 (by decide) rfl rfl (ms_64 a _ _) dX12_typeHere_55 (fun H locs hP hD hS => ?_)
      refine lv_aload_n hx hb dX12_typeHere_58 rfl (lv_at hl 1 rfl) ?_
      refine r_get (v := .ref (a 20)) hx hb hown hq hE hP 29 71 tFX12_29 (by decide) pw_1451 rfl dX12_typeHere_59 ?_
      refine lv_iload_n hx hb dX12_typeHere_62 rfl (lv_at hl 0 rfl) ?_
      refine lv_aload_n hx hb dX12_typeHere_63 rfl (lv_at hl 1 rfl) ?_
      refine lv_bipush (v := 91) hx hb dX12_typeHere_64 (by decide) ?_
      have hP : va_P G.1 pCl (mW G h0 a (upd (upd (upd (upd (upd F 15 (nI fa)) 31 (nI (wr + 1))) 64 (nI (at0 + 1))) 15 (nI fa)) 64 (nI (at0 + 1))) (updA (updA (updA B 2 K) 19 (upd yt wr (nI at0))) 2 K)) _ := mW_to (F := F) (l1 := [(15, (nI fa)), (31, (nI wr)), (64, (nI at0)), (31, (nI (wr + 1))), (64, (nI (at0 + 1)))]) (l2 := [(15, (nI fa)), (31, (nI (wr + 1))), (64, (nI (at0 + 1))), (15, (nI fa)), (64, (nI (at0 + 1)))]) (V := [(nI fa), (nI (wr + 1)), (nI (at0 + 1)), (nI (wr + 1)), (nI (at0 + 1)), (nI fa), (nI (wr + 1)), (nI (at0 + 1)), (nI fa), (nI (at0 + 1))]) rfl rfl (show (updA (updA (updA B 2 K) 19 yt) 19 (upd yt wr (nI at0))) = (updA (updA (updA B 2 K) 19 (upd yt wr (nI at0))) 2 K) from updsA_eq2 (F := B) (l1 := [(2, K), (19, yt), (19, (upd yt wr (nI at0)))]) (l2 := [(2, K), (19, (upd yt wr (nI at0))), (2, K)]) (V := [K, (upd yt wr (nI at0)), (upd yt wr (nI at0)), K, (upd yt wr (nI at0)), K]) rfl rfl) hP
      have hD : va_D A (mW G h0 a (upd (upd (upd (upd (upd F 15 (nI fa)) 31 (nI (wr + 1))) 64 (nI (at0 + 1))) 15 (nI fa)) 64 (nI (at0 + 1))) (updA (updA (updA B 2 K) 19 (upd yt wr (nI at0))) 2 K)) := mW_D hD
      refine pc_V0 (G := G) (As := [.int 91]) (rest := [.int (nI wr), .ref (a 20)]) hx hb hml hown hq hE hX pX0_al hP hD hS hA hl.1 (R_may l G h0 a (upd (upd (upd F 15 (nI fa)) 31 (nI (wr + 1))) 64 (nI (at0 + 1))) (updA (updA B 2 K) 19 (upd yt wr (nI at0))) (at0 + 1) T fa K 91 (by omega) (by omega) hK (by omega) (by decide) (by decide)) (gV pw_1621 pw_1622 pw_1623 pw_1523 pw_1605) hV_X12_may 0 9 rfl rfl rfl rfl (Nat.le_of_ble_eq_true rfl) dX12_typeHere_66 ⟨Nat.le_of_ble_eq_true rfl, Nat.le_of_ble_eq_true rfl⟩ ⟨Nat.le_of_ble_eq_true rfl, Nat.le_of_ble_eq_true rfl⟩ (fun v17 u15 H locs hw16 hP hD hS => ?_)
      obtain ⟨at18, r19⟩ := u15
      obtain ⟨hw16, h20, h21, h22, h23, h24, h25⟩ := hw16
      have h20 : r19 ≤ 1 := h20
      have h21 : fa + 100 * r19 ≤ 100 := h21
      have h22 : at18 = (at0 + 1) + r19 := h22
      have h23 : at18 ≤ T := h23
      have h24 : If (r19 = 1) (K (at0 + 1) = 91) := h24
      have h25 : If (r19 = 0) (fa = 0 → ¬ K (at0 + 1) = 91) := h25
      obtain rfl : v17 = some (.int (nI r19)) := hw16
      have hP : va_P G.1 pCl (mW G h0 a (upd (upd (upd F 15 (nI fa)) 31 (nI (wr + 1))) 64 (nI at18)) (updA (updA B 2 K) 19 (upd yt wr (nI at0)))) _ := mW_to (F := F) (l1 := [(15, (nI fa)), (31, (nI (wr + 1))), (64, (nI (at0 + 1))), (15, (nI fa)), (64, (nI at18))]) (l2 := [(15, (nI fa)), (31, (nI (wr + 1))), (64, (nI at18))]) (V := [(nI fa), (nI (wr + 1)), (nI at18), (nI fa), (nI at18), (nI fa), (nI (wr + 1)), (nI at18)]) rfl rfl (show (updA (updA (updA B 2 K) 19 (upd yt wr (nI at0))) 2 K) = (updA (updA B 2 K) 19 (upd yt wr (nI at0))) from updsA_eq2 (F := B) (l1 := [(2, K), (19, (upd yt wr (nI at0))), (2, K)]) (l2 := [(2, K), (19, (upd yt wr (nI at0)))]) (V := [K, (upd yt wr (nI at0)), K, K, (upd yt wr (nI at0))]) rfl rfl) hP
      have hD : va_D A (mW G h0 a (upd (upd (upd F 15 (nI fa)) 31 (nI (wr + 1))) 64 (nI at18)) (updA (updA B 2 K) 19 (upd yt wr (nI at0)))) := mW_D hD
      refine W.widen (k := 0) (n := 0) (Nat.le_of_ble_eq_true rfl) (Nat.le_of_ble_eq_true rfl) ?_
      refine W.eq (g2 := F0 m 69 ls [.int (nI r19), .int (nI wr), .ref (a 20)]) rfl ?_
      refine r_stz (f := (B 20)) (j := wr) hx hb hE hP hD hS 20 (ma_20 G a _) rfl (mas_20 G a _) (by omega) (by decide) dX12_typeHere_69 (fun H locs hP hD hS => ?_)
      refine lv_aload_n hx hb dX12_typeHere_70 rfl (lv_at hl 1 rfl) ?_
      refine r_get (v := .ref (a 20)) hx hb hown hq hE hP 29 71 tFX12_29 (by decide) pw_1451 rfl dX12_typeHere_71 ?_
      refine lv_iload_n hx hb dX12_typeHere_74 rfl (lv_at hl 0 rfl) ?_
      refine r_ldz (f := (upd (B 20) wr (vp_nar .boolean (nI r19)))) (j := wr) hx hb hE hP 20 (ma_20 G a _) rfl (by omega) (by decide) dX12_typeHere_75 ?_
      refine lv_topi (fun x26 e27 => ?_)
      refine lv_if_eq (tgt := 85) hx hb dX12_typeHere_76 (by decide) (fun c28 => ?_) (fun c28 => ?_)
      · refine lv_iload_n hx hb dX12_typeHere_85 rfl (lv_at hl 0 rfl) ?_
        have hz29 : at0 ≤ at18 := (by omega)
        have hz30 : at18 ≤ T := (by omega)
        have hz31 : fa ≤ fa := (by omega)
        have hz32 : fa ≤ 100 := (by omega)
        have hz33 : If (0 < fa) (at18 = at0 ∧ fa = fa) := (fun h9 => by omega)
        have hz34 : wr ≤ (wr + 1) := (by omega)
        have hz35 : (wr + 1) + at0 ≤ wr + at18 := (by omega)
        have hz36 : If (0 < fa) ((wr + 1) = wr) := (fun h9 => by omega)
        have hz37 : wr + 1 ≤ (wr + 1) + 6000 * fa := (by omega)
        have hz38 : at0 + 1 ≤ at18 + fa := (by omega)
        have hz39 : tkRow (upd yt wr (nI at0)) (wr + 1) T := (tkRow_up hy (by omega))
        have hz40 : ∀ i : Nat, i < wr → (upd yt wr (nI at0)) i = yt i := upd_lt
        have hz41 : ∀ i : Nat, i < wr → (upd (B 20) wr (vp_nar .boolean (nI r19))) i = B 20 i := upd_lt
        have hz42 : wr ≤ wr := (by omega)
        have hP : va_P G.1 pCl (mW G h0 a (upd (upd (upd (upd F 15 (nI fa)) 16 (F 16)) 31 (nI (wr + 1))) 64 (nI at18)) (updA (updA (updA B 2 K) 19 (upd yt wr (nI at0))) 20 (upd (B 20) wr (vp_nar .boolean (nI r19))))) _ := mW_to (F := F) (l1 := [(15, (nI fa)), (31, (nI (wr + 1))), (64, (nI at18))]) (l2 := [(15, (nI fa)), (16, (F 16)), (31, (nI (wr + 1))), (64, (nI at18))]) (V := [(nI fa), (nI (wr + 1)), (nI at18), (nI fa), (F 16), (nI (wr + 1)), (nI at18)]) rfl rfl rfl hP
        have hD : va_D A (mW G h0 a (upd (upd (upd (upd F 15 (nI fa)) 16 (F 16)) 31 (nI (wr + 1))) 64 (nI at18)) (updA (updA (updA B 2 K) 19 (upd yt wr (nI at0))) 20 (upd (B 20) wr (vp_nar .boolean (nI r19))))) := mW_D hD
        exact W.iret (v := (nI wr)) hx hb hr (fun t9 ht9 hW9 => ⟨⟨_, (at18, fa, (F 16), (wr + 1), wr, (upd yt wr (nI at0)), (upd (B 20) wr (vp_nar .boolean (nI r19)))), rfl, ⟨rfl, hz29, hz30, hz31, hz32, hz33, hz34, hz35, hz36, hz37, hz38, hz39, hz40, hz41, hz42⟩, by rw [ht9]; exact hP, hD⟩, hS.F ht9⟩) hS.2.2 dX12_typeHere_86
      · refine lv_aload_n hx hb dX12_typeHere_79 rfl (lv_at hl 1 rfl) ?_
        refine lv_bipush (v := 93) hx hb dX12_typeHere_80 (by decide) ?_
        have hP : va_P G.1 pCl (mW G h0 a (upd (upd (upd (upd (upd F 15 (nI fa)) 31 (nI (wr + 1))) 64 (nI at18)) 15 (nI fa)) 64 (nI at18)) (updA (updA (updA (updA B 2 K) 19 (upd yt wr (nI at0))) 20 (upd (B 20) wr (vp_nar .boolean (nI r19)))) 2 K)) _ := mW_to (F := F) (l1 := [(15, (nI fa)), (31, (nI (wr + 1))), (64, (nI at18))]) (l2 := [(15, (nI fa)), (31, (nI (wr + 1))), (64, (nI at18)), (15, (nI fa)), (64, (nI at18))]) (V := [(nI fa), (nI (wr + 1)), (nI at18), (nI fa), (nI (wr + 1)), (nI at18), (nI fa), (nI at18)]) rfl rfl (show (updA (updA (updA B 2 K) 19 (upd yt wr (nI at0))) 20 (upd (B 20) wr (vp_nar .boolean (nI r19)))) = (updA (updA (updA (updA B 2 K) 19 (upd yt wr (nI at0))) 20 (upd (B 20) wr (vp_nar .boolean (nI r19)))) 2 K) from updsA_eq2 (F := B) (l1 := [(2, K), (19, (upd yt wr (nI at0))), (20, (upd (B 20) wr (vp_nar .boolean (nI r19))))]) (l2 := [(2, K), (19, (upd yt wr (nI at0))), (20, (upd (B 20) wr (vp_nar .boolean (nI r19)))), (2, K)]) (V := [K, (upd yt wr (nI at0)), (upd (B 20) wr (vp_nar .boolean (nI r19))), K, (upd yt wr (nI at0)), (upd (B 20) wr (vp_nar .boolean (nI r19))), K]) rfl rfl) hP
        have hD : va_D A (mW G h0 a (upd (upd (upd (upd (upd F 15 (nI fa)) 31 (nI (wr + 1))) 64 (nI at18)) 15 (nI fa)) 64 (nI at18)) (updA (updA (updA (updA B 2 K) 19 (upd yt wr (nI at0))) 20 (upd (B 20) wr (vp_nar .boolean (nI r19)))) 2 K)) := mW_D hD
        refine pc_V0 (G := G) (As := [.int 93]) (rest := []) hx hb hml hown hq hE hX pX0_al hP hD hS hA hl.1 (R_take l G h0 a (upd (upd (upd F 15 (nI fa)) 31 (nI (wr + 1))) 64 (nI at18)) (updA (updA (updA B 2 K) 19 (upd yt wr (nI at0))) 20 (upd (B 20) wr (vp_nar .boolean (nI r19)))) at18 T fa K 93 (by omega) (by omega) hK (by omega) (by decide) (by decide)) (gV pw_1614 pw_1615 pw_1616 pw_1523 pw_1601) hV_X12_take 0 9 rfl rfl rfl rfl (Nat.le_of_ble_eq_true rfl) dX12_typeHere_82 ⟨Nat.le_of_ble_eq_true rfl, Nat.le_of_ble_eq_true rfl⟩ ⟨Nat.le_of_ble_eq_true rfl, Nat.le_of_ble_eq_true rfl⟩ (fun v45 u43 H locs hw44 hP hD hS => ?_)
        obtain ⟨at46, fa47, pl48⟩ := u43
        obtain ⟨hw44, h49, h50, h51, h52, h53, h54, h55, h56⟩ := hw44
        have h49 : at18 ≤ at46 := h49
        have h50 : at46 ≤ T := h50
        have h51 : fa ≤ fa47 := h51
        have h52 : fa47 ≤ 100 := h52
        have h53 : If (0 < fa) (at46 = at18 ∧ fa47 = fa) := h53
        have h54 : at46 ≤ at18 + 1 := h54
        have h55 : at18 + 1 ≤ at46 + fa47 := h55
        have h56 : If (fa47 = 0) (K at18 = 93) := h56
        obtain rfl : v45 = none := hw44
        have hP : va_P G.1 pCl (mW G h0 a (upd (upd (upd (upd F 15 (nI fa47)) 16 pl48) 31 (nI (wr + 1))) 64 (nI at46)) (updA (updA (updA B 2 K) 19 (upd yt wr (nI at0))) 20 (upd (B 20) wr (vp_nar .boolean (nI r19))))) _ := mW_to (F := F) (l1 := [(15, (nI fa)), (31, (nI (wr + 1))), (64, (nI at18)), (15, (nI fa47)), (16, pl48), (64, (nI at46))]) (l2 := [(15, (nI fa47)), (16, pl48), (31, (nI (wr + 1))), (64, (nI at46))]) (V := [(nI fa47), (nI (wr + 1)), (nI at46), (nI fa47), pl48, (nI at46), (nI fa47), pl48, (nI (wr + 1)), (nI at46)]) rfl rfl (show (updA (updA (updA (updA B 2 K) 19 (upd yt wr (nI at0))) 20 (upd (B 20) wr (vp_nar .boolean (nI r19)))) 2 K) = (updA (updA (updA B 2 K) 19 (upd yt wr (nI at0))) 20 (upd (B 20) wr (vp_nar .boolean (nI r19)))) from updsA_eq2 (F := B) (l1 := [(2, K), (19, (upd yt wr (nI at0))), (20, (upd (B 20) wr (vp_nar .boolean (nI r19)))), (2, K)]) (l2 := [(2, K), (19, (upd yt wr (nI at0))), (20, (upd (B 20) wr (vp_nar .boolean (nI r19))))]) (V := [K, (upd yt wr (nI at0)), (upd (B 20) wr (vp_nar .boolean (nI r19))), K, K, (upd yt wr (nI at0)), (upd (B 20) wr (vp_nar .boolean (nI r19)))]) rfl rfl) hP
        have hD : va_D A (mW G h0 a (upd (upd (upd (upd F 15 (nI fa47)) 16 pl48) 31 (nI (wr + 1))) 64 (nI at46)) (updA (updA (updA B 2 K) 19 (upd yt wr (nI at0))) 20 (upd (B 20) wr (vp_nar .boolean (nI r19))))) := mW_D hD
        refine W.widen (k := 0) (n := 0) (Nat.le_of_ble_eq_true rfl) (Nat.le_of_ble_eq_true rfl) ?_
        refine W.eq (g2 := F0 m 85 ls []) rfl ?_
        refine lv_iload_n hx hb dX12_typeHere_85 rfl (lv_at hl 0 rfl) ?_
        have hz57 : at0 ≤ at46 := (by omega)
        have hz58 : at46 ≤ T := (by omega)
        have hz59 : fa ≤ fa47 := (by omega)
        have hz60 : fa47 ≤ 100 := (by omega)
        have hz61 : If (0 < fa) (at46 = at0 ∧ fa47 = fa) := (fun h9 => by omega)
        have hz62 : wr ≤ (wr + 1) := (by omega)
        have hz63 : (wr + 1) + at0 ≤ wr + at46 := (by omega)
        have hz64 : If (0 < fa) ((wr + 1) = wr) := (fun h9 => by omega)
        have hz65 : wr + 1 ≤ (wr + 1) + 6000 * fa47 := (by omega)
        have hz66 : at0 + 1 ≤ at46 + fa47 := (by omega)
        have hz67 : tkRow (upd yt wr (nI at0)) (wr + 1) T := (tkRow_up hy (by omega))
        have hz68 : ∀ i : Nat, i < wr → (upd yt wr (nI at0)) i = yt i := upd_lt
        have hz69 : ∀ i : Nat, i < wr → (upd (B 20) wr (vp_nar .boolean (nI r19))) i = B 20 i := upd_lt
        have hz70 : wr ≤ wr := (by omega)
        have hP : va_P G.1 pCl (mW G h0 a (upd (upd (upd (upd F 15 (nI fa47)) 16 pl48) 31 (nI (wr + 1))) 64 (nI at46)) (updA (updA (updA B 2 K) 19 (upd yt wr (nI at0))) 20 (upd (B 20) wr (vp_nar .boolean (nI r19))))) _ := hP
        have hD : va_D A (mW G h0 a (upd (upd (upd (upd F 15 (nI fa47)) 16 pl48) 31 (nI (wr + 1))) 64 (nI at46)) (updA (updA (updA B 2 K) 19 (upd yt wr (nI at0))) 20 (upd (B 20) wr (vp_nar .boolean (nI r19))))) := mW_D hD
        exact W.iret (v := (nI wr)) hx hb hr (fun t9 ht9 hW9 => ⟨⟨_, (at46, fa47, pl48, (wr + 1), wr, (upd yt wr (nI at0)), (upd (B 20) wr (vp_nar .boolean (nI r19)))), rfl, ⟨rfl, hz57, hz58, hz59, hz60, hz61, hz62, hz63, hz64, hz65, hz66, hz67, hz68, hz69, hz70⟩, by rw [ht9]; exact hP, hD⟩, hS.F ht9⟩) hS.2.2 dX12_typeHere_86
    · have n71 : r6 = 0 := (nI_eq (a := r6) (b := 0) (by omega) (by omega)).mp c9
      refine lv_aload_n hx hb dX12_typeHere_21 rfl (lv_at hl 1 rfl) ?_
      refine lv_iconst (v := 1) hx hb dX12_typeHere_22 (by decide) ?_
      have hP : va_P G.1 pCl (mW G h0 a (upd (upd (upd (upd (upd F 15 (nI fa)) 31 (nI wr)) 64 (nI at0)) 15 (nI fa)) 64 (nI at0)) (updA (updA (updA B 2 K) 19 yt) 2 K)) _ := mW_to (F := F) (l1 := [(15, (nI fa)), (31, (nI wr)), (64, (nI at0))]) (l2 := [(15, (nI fa)), (31, (nI wr)), (64, (nI at0)), (15, (nI fa)), (64, (nI at0))]) (V := [(nI fa), (nI wr), (nI at0), (nI fa), (nI wr), (nI at0), (nI fa), (nI at0)]) rfl rfl (show (updA (updA B 2 K) 19 yt) = (updA (updA (updA B 2 K) 19 yt) 2 K) from updsA_eq2 (F := B) (l1 := [(2, K), (19, yt)]) (l2 := [(2, K), (19, yt), (2, K)]) (V := [K, yt, K, yt, K]) rfl rfl) hP
      have hD : va_D A (mW G h0 a (upd (upd (upd (upd (upd F 15 (nI fa)) 31 (nI wr)) 64 (nI at0)) 15 (nI fa)) 64 (nI at0)) (updA (updA (updA B 2 K) 19 yt) 2 K)) := mW_D hD
      refine pc_V0 (G := G) (As := [.int (nI 1)]) (rest := []) hx hb hml hown hq hE hX pX0_al hP hD hS hA hl.1 (R_bad l G h0 a (upd (upd (upd F 15 (nI fa)) 31 (nI wr)) 64 (nI at0)) (updA (updA B 2 K) 19 yt) at0 T fa K 1 (by omega) (by omega) hK (by omega) (by omega) (by omega)) (gV pw_1602 pw_1603 pw_1604 pw_1523 pw_1596) hV_X12_bad 0 9 rfl rfl rfl rfl (Nat.le_of_ble_eq_true rfl) dX12_typeHere_23 ⟨Nat.le_of_ble_eq_true rfl, Nat.le_of_ble_eq_true rfl⟩ ⟨Nat.le_of_ble_eq_true rfl, Nat.le_of_ble_eq_true rfl⟩ (fun v74 u72 H locs hw73 hP hD hS => ?_)
      obtain ⟨fa75, pl76⟩ := u72
      obtain ⟨hw73, h77, h78, h79, h80⟩ := hw73
      have h77 : fa ≤ fa75 := h77
      have h78 : fa75 ≤ fa + 1 := h78
      have h79 : 0 < fa75 := h79
      have h80 : If (0 < fa) (fa75 = fa) := h80
      obtain rfl : v74 = none := hw73
      have hP : va_P G.1 pCl (mW G h0 a (upd (upd (upd (upd F 15 (nI fa75)) 16 pl76) 31 (nI wr)) 64 (nI at0)) (updA (updA B 2 K) 19 yt)) _ := mW_to (F := F) (l1 := [(15, (nI fa)), (31, (nI wr)), (64, (nI at0)), (15, (nI fa75)), (16, pl76), (64, (nI at0))]) (l2 := [(15, (nI fa75)), (16, pl76), (31, (nI wr)), (64, (nI at0))]) (V := [(nI fa75), (nI wr), (nI at0), (nI fa75), pl76, (nI at0), (nI fa75), pl76, (nI wr), (nI at0)]) rfl rfl (show (updA (updA (updA B 2 K) 19 yt) 2 K) = (updA (updA B 2 K) 19 yt) from updsA_eq2 (F := B) (l1 := [(2, K), (19, yt), (2, K)]) (l2 := [(2, K), (19, yt)]) (V := [K, yt, K, K, yt]) rfl rfl) hP
      have hD : va_D A (mW G h0 a (upd (upd (upd (upd F 15 (nI fa75)) 16 pl76) 31 (nI wr)) 64 (nI at0)) (updA (updA B 2 K) 19 yt)) := mW_D hD
      refine W.widen (k := 0) (n := 0) (Nat.le_of_ble_eq_true rfl) (Nat.le_of_ble_eq_true rfl) ?_
      refine W.eq (g2 := F0 m 26 ls []) rfl ?_
      refine lv_iconst (v := 0) hx hb dX12_typeHere_26 (by decide) ?_
      have hz81 : at0 ≤ at0 := (by omega)
      have hz82 : at0 ≤ T := (by omega)
      have hz83 : fa ≤ fa75 := (by omega)
      have hz84 : fa75 ≤ 100 := (by omega)
      have hz85 : If (0 < fa) (at0 = at0 ∧ fa75 = fa) := (fun h9 => by omega)
      have hz86 : wr ≤ wr := (by omega)
      have hz87 : wr + at0 ≤ wr + at0 := (by omega)
      have hz88 : If (0 < fa) (wr = wr) := (fun h9 => by omega)
      have hz89 : 0 + 1 ≤ wr + 6000 * fa75 := (by omega)
      have hz90 : at0 + 1 ≤ at0 + fa75 := (by omega)
      have hz91 : tkRow yt wr T := hy
      have hz92 : ∀ i : Nat, i < wr → yt i = yt i := (fun _ _ => rfl)
      have hz93 : ∀ i : Nat, i < wr → (B 20) i = B 20 i := (fun _ _ => rfl)
      have hz94 : 0 ≤ wr := (by omega)
      have hP : va_P G.1 pCl (mW G h0 a (upd (upd (upd (upd F 15 (nI fa75)) 16 pl76) 31 (nI wr)) 64 (nI at0)) (updA (updA (updA B 2 K) 19 yt) 20 (B 20))) _ := mW_to (F := F) (l1 := [(15, (nI fa75)), (16, pl76), (31, (nI wr)), (64, (nI at0))]) (l2 := [(15, (nI fa75)), (16, pl76), (31, (nI wr)), (64, (nI at0))]) (V := [(nI fa75), pl76, (nI wr), (nI at0), (nI fa75), pl76, (nI wr), (nI at0)]) rfl rfl (show (updA (updA B 2 K) 19 yt) = (updA (updA (updA B 2 K) 19 yt) 20 (B 20)) from updsA_eq2 (F := B) (l1 := [(2, K), (19, yt)]) (l2 := [(2, K), (19, yt), (20, (B 20))]) (V := [K, yt, K, yt, (B 20)]) rfl rfl) hP
      have hD : va_D A (mW G h0 a (upd (upd (upd (upd F 15 (nI fa75)) 16 pl76) 31 (nI wr)) 64 (nI at0)) (updA (updA (updA B 2 K) 19 yt) 20 (B 20))) := mW_D hD
      exact W.iret (v := 0) hx hb hr (fun t9 ht9 hW9 => ⟨⟨_, (at0, fa75, pl76, wr, 0, yt, (B 20)), rfl, ⟨rfl, hz81, hz82, hz83, hz84, hz85, hz86, hz87, hz88, hz89, hz90, hz91, hz92, hz93, hz94⟩, by rw [ht9]; exact hP, hD⟩, hS.F ht9⟩) hS.2.2 dX12_typeHere_27
  · have n95 : ¬ (fa ≤ 0) := fun h9 => c1 ((nI_leI (a := fa) (b := 0) (by omega) (by omega)).mpr h9)
    refine lv_iconst (v := 0) hx hb dX12_typeHere_12 (by decide) ?_
    have hz96 : at0 ≤ at0 := (by omega)
    have hz97 : at0 ≤ T := (by omega)
    have hz98 : fa ≤ fa := (by omega)
    have hz99 : fa ≤ 100 := (by omega)
    have hz100 : If (0 < fa) (at0 = at0 ∧ fa = fa) := (fun h9 => by omega)
    have hz101 : wr ≤ wr := (by omega)
    have hz102 : wr + at0 ≤ wr + at0 := (by omega)
    have hz103 : If (0 < fa) (wr = wr) := (fun h9 => by omega)
    have hz104 : 0 + 1 ≤ wr + 6000 * fa := (by omega)
    have hz105 : at0 + 1 ≤ at0 + fa := (by omega)
    have hz106 : tkRow yt wr T := hy
    have hz107 : ∀ i : Nat, i < wr → yt i = yt i := (fun _ _ => rfl)
    have hz108 : ∀ i : Nat, i < wr → (B 20) i = B 20 i := (fun _ _ => rfl)
    have hz109 : 0 ≤ wr := (by omega)
    have hP : va_P G.1 pCl (mW G h0 a (upd (upd (upd (upd F 15 (nI fa)) 16 (F 16)) 31 (nI wr)) 64 (nI at0)) (updA (updA (updA B 2 K) 19 yt) 20 (B 20))) _ := mW_to (F := F) (l1 := [(15, (nI fa)), (31, (nI wr)), (64, (nI at0))]) (l2 := [(15, (nI fa)), (16, (F 16)), (31, (nI wr)), (64, (nI at0))]) (V := [(nI fa), (nI wr), (nI at0), (nI fa), (F 16), (nI wr), (nI at0)]) rfl rfl (show (updA (updA B 2 K) 19 yt) = (updA (updA (updA B 2 K) 19 yt) 20 (B 20)) from updsA_eq2 (F := B) (l1 := [(2, K), (19, yt)]) (l2 := [(2, K), (19, yt), (20, (B 20))]) (V := [K, yt, K, yt, (B 20)]) rfl rfl) hP
    have hD : va_D A (mW G h0 a (upd (upd (upd (upd F 15 (nI fa)) 16 (F 16)) 31 (nI wr)) 64 (nI at0)) (updA (updA (updA B 2 K) 19 yt) 20 (B 20))) := mW_D hD
    exact W.iret (v := 0) hx hb hr (fun t9 ht9 hW9 => ⟨⟨_, (at0, fa, (F 16), wr, 0, yt, (B 20)), rfl, ⟨rfl, hz96, hz97, hz98, hz99, hz100, hz101, hz102, hz103, hz104, hz105, hz106, hz107, hz108, hz109⟩, by rw [ht9]; exact hP, hD⟩, hS.F ht9⟩) hS.2.2 dX12_typeHere_13
