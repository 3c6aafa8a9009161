/-! codes of types, and which fits which -/
def TyC (dc x : Nat) : Prop := x ≤ 3 ∨ (10 ≤ x ∧ x < 10 + dc) ∨ x = 1001 ∨ x = 1002 ∨ (1010 ≤ x ∧ x < 1010 + dc) ∨ x = 2001 ∨ x = 2002 ∨ (2010 ≤ x ∧ x < 2010 + dc)
theorem TyC.cls {dc x : Nat} (h : TyC dc x) (h1 : 10 ≤ x) (h2 : x < 1000) : x < 10 + dc := by
  unfold TyC at h; omega
theorem TyC.mid {dc x : Nat} (h : TyC dc x) (h1 : 3 < x) : 10 ≤ x := by
  unfold TyC at h; omega
theorem TyC.row {dc x : Nat} (h : TyC dc x) (h1 : 1010 ≤ x) (h2 : x < 2000) (hd : dc ≤ 37) : x < 1010 + dc := by
  unfold TyC at h; omega
theorem TyC.le {dc x : Nat} (h : TyC dc x) (hd : dc ≤ 37) : x ≤ 2050 := by
  unfold TyC at h; omega
def fitF (da : Nat → Int32) (s t : Nat) : Int32 :=
  if s = 0 ∨ t = 0 then 0 else if s = t then 1 else if s < 3 ∨ t < 3 ∨ t = 3 then 0 else if s = 3 then 1
  else if t < 1000 then (if 1000 ≤ s then (if t = 10 then 1 else 0) else da (40 * (t - 10) + (s - 10)))
  else if 1010 ≤ s ∧ 1010 ≤ t ∧ s < 2000 ∧ t < 2000 then da (40 * (t - 1010) + (s - 1010)) else 0
section FI
variable {da : Nat → Int32} {s t : Nat}
theorem fit_v (h : s = 0 ∨ t = 0) : fitF da s t = 0 := if_pos h
theorem fit_e (h0 : ¬ s = 0) (h1 : ¬ t = 0) (h : s = t) : fitF da s t = 1 := by unfold fitF; rw [if_neg (by omega), if_pos h]
theorem fit_n (h0 : ¬ s = 0) (h1 : ¬ t = 0) (h : ¬ s = t) (h2 : s < 3 ∨ t < 3 ∨ t = 3) : fitF da s t = 0 := by unfold fitF; rw [if_neg (by omega), if_neg h, if_pos h2]
theorem fit_3 (h1 : 3 < t) (h : s = 3) : fitF da s t = 1 := by unfold fitF; rw [if_neg (by omega), if_neg (by omega), if_neg (by omega), if_pos h]
theorem fit_r1 (h1 : 1000 ≤ s) (h : t = 10) : fitF da s t = 1 := by unfold fitF; rw [if_neg (by omega), if_neg (by omega), if_neg (by omega), if_neg (by omega), if_pos (by omega), if_pos h1, if_pos h]
theorem fit_r0 (h1 : 1000 ≤ s) (h2 : 3 < t) (h3 : t < 1000) (h : ¬ t = 10) : fitF da s t = 0 := by unfold fitF; rw [if_neg (by omega), if_neg (by omega), if_neg (by omega), if_neg (by omega), if_pos h3, if_pos h1, if_neg h]
theorem fit_c (h1 : 3 < s) (h2 : s < 1000) (h3 : 3 < t) (h4 : t < 1000) (h : ¬ s = t) : fitF da s t = da (40 * (t - 10) + (s - 10)) := by unfold fitF; rw [if_neg (by omega), if_neg h, if_neg (by omega), if_neg (by omega), if_pos h4, if_neg (by omega)]
theorem fit_rr (h1 : 1010 ≤ s) (h2 : 1010 ≤ t) (h3 : s < 2000) (h4 : t < 2000) (h : ¬ s = t) : fitF da s t = da (40 * (t - 1010) + (s - 1010)) := by unfold fitF; rw [if_neg (by omega), if_neg h, if_neg (by omega), if_neg (by omega), if_neg (by omega), if_pos ⟨h1, h2, h3, h4⟩]
theorem fit_ro (h1 : 3 < s) (h2 : 1000 ≤ t) (h : ¬ s = t) (h3 : s < 1010 ∨ t < 1010 ∨ 2000 ≤ s ∨ 2000 ≤ t) : fitF da s t = 0 := by unfold fitF; rw [if_neg (by omega), if_neg h, if_neg (by omega), if_neg (by omega), if_neg (by omega), if_neg (by omega)]
theorem fit_rrE (h1 : 1010 ≤ s) (h2 : 1010 ≤ t) (h3 : s < 2000) (h4 : t < 2000) (h : ¬ s = t) : fitF da s t = fitF da (s - 1000) (t - 1000) := by
  rw [fit_rr h1 h2 h3 h4 h, fit_c (by omega) (by omega) (by omega) (by omega) (by omega), show t - 1000 - 10 = t - 1010 by omega, show s - 1000 - 10 = s - 1010 by omega]
theorem fit_bit (hb : ∀ i : Nat, i < 1600 → da i = 0 ∨ da i = 1) (hs : s ≤ 2050) (ht : t ≤ 2050) (h1 : s < 50 ∨ (1000 ≤ s ∧ s < 1050) ∨ 2000 ≤ s) (h2 : t < 50 ∨ (1000 ≤ t ∧ t < 1050) ∨ 2000 ≤ t) : fitF da s t = 0 ∨ fitF da s t = 1 := by
  unfold fitF
  repeat' split
  all_goals first | exact Or.inl rfl | exact Or.inr rfl | exact hb _ (by omega)
end FI
theorem dX12_isReference_0 : decode cX12_isReference 0 = .ok (.iload_n 1, 1) := by decide +kernel
theorem dX12_isReference_1 : decode cX12_isReference 1 = .ok (.ifCond .eq 17, 3) := by decide +kernel
theorem dX12_isReference_18 : decode cX12_isReference 18 = .ok (.iconst 0, 1) := by decide +kernel
theorem dX12_isReference_19 : decode cX12_isReference 19 = .ok (.ireturn, 1) := by decide +kernel
theorem dX12_isReference_4 : decode cX12_isReference 4 = .ok (.iload_n 1, 1) := by decide +kernel
theorem dX12_isReference_5 : decode cX12_isReference 5 = .ok (.iconst 1, 1) := by decide +kernel
theorem dX12_isReference_6 : decode cX12_isReference 6 = .ok (.if_icmp .eq 12, 3) := by decide +kernel
theorem dX12_isReference_9 : decode cX12_isReference 9 = .ok (.iload_n 1, 1) := by decide +kernel
theorem dX12_isReference_10 : decode cX12_isReference 10 = .ok (.iconst 2, 1) := by decide +kernel
theorem dX12_isReference_11 : decode cX12_isReference 11 = .ok (.if_icmp .eq 7, 3) := by decide +kernel
theorem dX12_isReference_14 : decode cX12_isReference 14 = .ok (.iconst 1, 1) := by decide +kernel
theorem dX12_isReference_15 : decode cX12_isReference 15 = .ok (.goto 4, 3) := by decide +kernel
set_option maxHeartbeats 2000000 in
set_option maxRecDepth 100000 in
/-- isReference(t) -/
theorem R_isReference (l : Launch) (G : pT) (h0 : Nat) (a : Nat → Nat) (F : Nat → Int32) (B : Nat → Nat → Int32) (x : Nat) (hx9 : x ≤ 5000) : PM l G pX0 yX12_isReference cX12_isReference 2 (some .boolean) ({ frames := 2, cells := 0, slots := 0, locals := 60 }) [.ref h0, .int (nI x)] (mW G h0 a F B) (fun (v : Option Value) (u : Nat) => v = some (.int (nI u)) ∧ (u ≤ 1) ∧ (3 * u ≤ x) ∧ (x ≤ 2 + 9000 * u)) (fun u => (mW G h0 a F B)) := by
  intro sz
  refine Met.ofW (cc := cX12_isReference) (maxL := 2) (ret := (some .boolean)) (by decide) rfl ?_
  intro p e s m args below meth c s₁ B9 hml hv
  obtain ⟨rfl, hsz, hP, hD0, hE, hX⟩ := hv
  have hx := B9.exec
  have hb := B9.bytes
  have hr := B9.returns
  have hts := atoms_spec (ws := Cond.code yX12_isReference cX12_isReference 2 (some .boolean) :: pw) B9.pre
  have hq : ∀ w ∈ pw, w.before _ s = true := fun w h => hts w (List.mem_cons_of_mem _ h)
  have hown : s.vm.findClass RX12 = some m.cls := findClass_of_methodNamed B9.named
  have hlocks := B9.notSynchronized
  subst hsz
  have hD := hD0.self (sz := s.heap.size)
  have hA : ∀ q : Nat, s.heap.size ≤ q → va_A (mW G h0 a F B) s.heap.size q := fun q h => Or.inr h
  have hP : va_P G.1 pCl (mW G h0 a F B) s.heap := hP
  generalize va_A (mW G h0 a F B) s.heap.size = A at hD hE hA ⊢
  have hS : va_S A s.heap s.heap [] := va_S.rf
  have hl := lv_entry ([.ref h0, .int (nI x)]) (n := 2) (Nat.le_of_ble_eq_true rfl)
  rw [lg_entry_eq]
  generalize (lg_sl ([.ref h0, .int (nI x)]) ++ List.replicate (2 - (lg_sl ([.ref h0, .int (nI x)])).length) Slot.unset).toArray = ls at hl ⊢
  have hl : lv_has ls 2 [(0, .ref h0), (1, .int (nI x))] := hl
  refine lv_iload_n hx hb dX12_isReference_0 rfl (lv_at hl 1 rfl) ?_
  refine lv_if_eq (tgt := 18) hx hb dX12_isReference_1 (by decide) (fun c1 => ?_) (fun c1 => ?_)
  · have n2 : x = 0 := (nI_eq (a := x) (b := 0) (by omega) (by omega)).mp c1
    refine lv_iconst (v := 0) hx hb dX12_isReference_18 (by decide) ?_
    have hz3 : 0 ≤ 1 := (by omega)
    have hz4 : 3 * 0 ≤ x := (by omega)
    have hz5 : x ≤ 2 + 9000 * 0 := (by omega)
    have hP : va_P G.1 pCl (mW G h0 a F B) _ := hP
    have hD : va_D A (mW G h0 a F B) := mW_D hD
    exact W.zret (v := 0) hx hb hr rfl (fun t9 ht9 hW9 => ⟨⟨_, 0, rfl, ⟨rfl, hz3, hz4, hz5⟩, by rw [ht9]; exact hP, hD⟩, hS.F ht9⟩) hS.2.2 dX12_isReference_19
  · have n6 : ¬ (x = 0) := fun h9 => c1 ((nI_eq (a := x) (b := 0) (by omega) (by omega)).mpr h9)
    refine lv_iload_n hx hb dX12_isReference_4 rfl (lv_at hl 1 rfl) ?_
    refine lv_iconst (v := 1) hx hb dX12_isReference_5 (by decide) ?_
    refine lv_icmp_eq (tgt := 18) hx hb dX12_isReference_6 (by decide) (fun c7 => ?_) (fun c7 => ?_)
    · have n8 : x = 1 := (nI_eq (a := x) (b := 1) (by omega) (by omega)).mp c7
      refine lv_iconst (v := 0) hx hb dX12_isReference_18 (by decide) ?_
      have hz9 : 0 ≤ 1 := (by omega)
      have hz10 : 3 * 0 ≤ x := (by omega)
      have hz11 : x ≤ 2 + 9000 * 0 := (by omega)
      have hP : va_P G.1 pCl (mW G h0 a F B) _ := hP
      have hD : va_D A (mW G h0 a F B) := mW_D hD
      exact W.zret (v := 0) hx hb hr rfl (fun t9 ht9 hW9 => ⟨⟨_, 0, rfl, ⟨rfl, hz9, hz10, hz11⟩, by rw [ht9]; exact hP, hD⟩, hS.F ht9⟩) hS.2.2 dX12_isReference_19
    · have n12 : ¬ (x = 1) := fun h9 => c7 ((nI_eq (a := x) (b := 1) (by omega) (by omega)).mpr h9)
      refine lv_iload_n hx hb dX12_isReference_9 rfl (lv_at hl 1 rfl) ?_
      refine lv_iconst (v := 2) hx hb dX12_isReference_10 (by decide) ?_
      refine lv_icmp_eq (tgt := 18) hx hb dX12_isReference_11 (by decide) (fun c13 => ?_) (fun c13 => ?_)
      · have n14 : x = 2 := (nI_eq (a := x) (b := 2) (by omega) (by omega)).mp c13
        refine lv_iconst (v := 0) hx hb dX12_isReference_18 (by decide) ?_
        have hz15 : 0 ≤ 1 := (by omega)
        have hz16 : 3 * 0 ≤ x := (by omega)
        have hz17 : x ≤ 2 + 9000 * 0 := (by omega)
        have hP : va_P G.1 pCl (mW G h0 a F B) _ := hP
        have hD : va_D A (mW G h0 a F B) := mW_D hD
        exact W.zret (v := 0) hx hb hr rfl (fun t9 ht9 hW9 => ⟨⟨_, 0, rfl, ⟨rfl, hz15, hz16, hz17⟩, by rw [ht9]; exact hP, hD⟩, hS.F ht9⟩) hS.2.2 dX12_isReference_19
      · have n18 : ¬ (x = 2) := fun h9 => c13 ((nI_eq (a := x) (b := 2) (by omega) (by omega)).mpr h9)
        refine lv_iconst (v := 1) hx hb dX12_isReference_14 (by decide) ?_
        refine lv_goto (tgt := 19) hx hb dX12_isReference_15 (by decide) ?_
        have hz19 : 1 ≤ 1 := (by omega)
        have hz20 : 3 * 1 ≤ x := (by omega)
        have hz21 : x ≤ 2 + 9000 * 1 := (by omega)
        have hP : va_P G.1 pCl (mW G h0 a F B) _ := hP
        have hD : va_D A (mW G h0 a F B) := mW_D hD
        exact W.zret (v := 1) hx hb hr rfl (fun t9 ht9 hW9 => ⟨⟨_, 1, rfl, ⟨rfl, hz19, hz20, hz21⟩, by rw [ht9]; exact hP, hD⟩, hS.F ht9⟩) hS.2.2 dX12_isReference_19
theorem dX12_isRow_0 : decode cX12_isRow 0 = .ok (.iload_n 0, 1) := by decide +kernel
theorem dX12_isRow_1 : decode cX12_isRow 1 = .ok (.sipush 1000, 3) := by decide +kernel
theorem dX12_isRow_4 : decode cX12_isRow 4 = .ok (.if_icmp .lt 7, 3) := by decide +kernel
theorem dX12_isRow_11 : decode cX12_isRow 11 = .ok (.iconst 0, 1) := by decide +kernel
theorem dX12_isRow_12 : decode cX12_isRow 12 = .ok (.ireturn, 1) := by decide +kernel
theorem dX12_isRow_7 : decode cX12_isRow 7 = .ok (.iconst 1, 1) := by decide +kernel
theorem dX12_isRow_8 : decode cX12_isRow 8 = .ok (.goto 4, 3) := by decide +kernel
set_option maxHeartbeats 1000000 in
set_option maxRecDepth 100000 in
/-- isRow(t) -/
theorem s_isRow (l : Launch) (G : pT) (x : Nat) (hx9 : x ≤ 5000) : PM l G pX0 yX12_isRow cX12_isRow 1 (some .boolean) ({ frames := 2, cells := 0, slots := 0, locals := 60 }) [.int (nI x)] [] (fun (v : Option Value) (u : Unit) => ∃ r : Nat, v = some (.int (nI r)) ∧ r ≤ 1 ∧ 1000 * r ≤ x ∧ x ≤ 999 + 9000 * r) (fun u => []) := by
  intro sz
  refine Met.ofW (cc := cX12_isRow) (maxL := 1) (ret := (some .boolean)) (by decide) rfl ?_
  intro p e s m args below meth c s₁ B hml hv
  obtain ⟨rfl, hsz, hP, hD0, hE, hX⟩ := hv
  have hx := B.exec
  have hb := B.bytes
  have hr := B.returns
  have hts := atoms_spec (ws := Cond.code yX12_isRow cX12_isRow 1 (some .boolean) :: pw) B.pre
  have hq : ∀ w ∈ pw, w.before _ s = true := fun w h => hts w (List.mem_cons_of_mem _ h)
  have hown : s.vm.findClass RX12 = some m.cls := findClass_of_methodNamed B.named
  have hlocks := B.notSynchronized
  subst hsz
  have hD := hD0.self (sz := s.heap.size)
  have hA : ∀ q : Nat, s.heap.size ≤ q → va_A [] s.heap.size q := fun q h => Or.inr h
  have hP : va_P G.1 pCl [] s.heap := hP
  generalize va_A [] s.heap.size = A at hD hE hA ⊢
  have hS : va_S A s.heap s.heap [] := va_S.rf
  have hl := lv_entry ([.int (nI x)]) (n := 1) (Nat.le_of_ble_eq_true rfl)
  rw [lg_entry_eq]
  generalize (lg_sl ([.int (nI x)]) ++ List.replicate (1 - (lg_sl ([.int (nI x)])).length) Slot.unset).toArray = ls at hl ⊢
  have hl : lv_has ls 1 [(0, .int (nI x))] := hl
  refine lv_iload_n hx hb dX12_isRow_0 rfl (lv_at hl 0 rfl) ?_
  refine lv_sipush (v := 1000) hx hb dX12_isRow_1 (by decide) ?_
  refine lv_icmp_lt (tgt := 11) hx hb dX12_isRow_4 (by decide) (fun c1 => ?_) (fun c1 => ?_)
  · refine lv_iconst (v := 0) hx hb dX12_isRow_11 (by decide) ?_
    refine W.widen (k := 0) (n := 0) (Nat.le_of_ble_eq_true rfl) (Nat.le_of_ble_eq_true rfl) ?_
    exact W.zret (v := 0) hx hb hr rfl (fun t ht hW => ⟨⟨_, (), rfl, (by have z := (nI_ltI (a := x) (b := 1000) (by omega) (by omega)).mp c1; exact ⟨0, rfl, by omega, by omega, by omega⟩), by rw [ht]; exact hP.sub [] rfl, hD.sub [] (by decide) rfl⟩, hS.F ht⟩) hS.2.2 dX12_isRow_12
  · refine lv_iconst (v := 1) hx hb dX12_isRow_7 (by decide) ?_
    refine lv_goto (tgt := 12) hx hb dX12_isRow_8 (by decide) ?_
    refine W.widen (k := 0) (n := 0) (Nat.le_of_ble_eq_true rfl) (Nat.le_of_ble_eq_true rfl) ?_
    exact W.zret (v := 1) hx hb hr rfl (fun t ht hW => ⟨⟨_, (), rfl, (by have z : ¬ x < 1000 := fun q => c1 ((nI_ltI (a := x) (b := 1000) (by omega) (by omega)).mpr q); exact ⟨1, rfl, by omega, by omega, by omega⟩), by rw [ht]; exact hP.sub [] rfl, hD.sub [] (by decide) rfl⟩, hS.F ht⟩) hS.2.2 dX12_isRow_12
theorem dX12_isClassType_0 : decode cX12_isClassType 0 = .ok (.iload_n 0, 1) := by decide +kernel
theorem dX12_isClassType_1 : decode cX12_isClassType 1 = .ok (.bipush 10, 2) := by decide +kernel
theorem dX12_isClassType_3 : decode cX12_isClassType 3 = .ok (.if_icmp .lt 14, 3) := by decide +kernel
theorem dX12_isClassType_17 : decode cX12_isClassType 17 = .ok (.iconst 0, 1) := by decide +kernel
theorem dX12_isClassType_18 : decode cX12_isClassType 18 = .ok (.ireturn, 1) := by decide +kernel
theorem dX12_isClassType_6 : decode cX12_isClassType 6 = .ok (.iload_n 0, 1) := by decide +kernel
theorem dX12_isClassType_7 : decode cX12_isClassType 7 = .ok (.sipush 1000, 3) := by decide +kernel
theorem dX12_isClassType_10 : decode cX12_isClassType 10 = .ok (.if_icmp .ge 7, 3) := by decide +kernel
theorem dX12_isClassType_13 : decode cX12_isClassType 13 = .ok (.iconst 1, 1) := by decide +kernel
theorem dX12_isClassType_14 : decode cX12_isClassType 14 = .ok (.goto 4, 3) := by decide +kernel
set_option maxHeartbeats 1000000 in
set_option maxRecDepth 100000 in
/-- isClassType(t) -/
theorem s_isClassType (l : Launch) (G : pT) (x : Nat) (hx9 : x ≤ 5000) : PM l G pX0 yX12_isClassType cX12_isClassType 1 (some .boolean) ({ frames := 2, cells := 0, slots := 0, locals := 60 }) [.int (nI x)] [] (fun (v : Option Value) (u : Unit) => ∃ r : Nat, v = some (.int (nI r)) ∧ r ≤ 1 ∧ 10 * r ≤ x ∧ x + 5000 * r ≤ 5999 ∧ If (r = 0) (x < 10 ∨ 1000 ≤ x)) (fun u => []) := by
  intro sz
  refine Met.ofW (cc := cX12_isClassType) (maxL := 1) (ret := (some .boolean)) (by decide) rfl ?_
  intro p e s m args below meth c s₁ B hml hv
  obtain ⟨rfl, hsz, hP, hD0, hE, hX⟩ := hv
  have hx := B.exec
  have hb := B.bytes
  have hr := B.returns
  have hts := atoms_spec (ws := Cond.code yX12_isClassType cX12_isClassType 1 (some .boolean) :: pw) B.pre
  have hq : ∀ w ∈ pw, w.before _ s = true := fun w h => hts w (List.mem_cons_of_mem _ h)
  have hown : s.vm.findClass RX12 = some m.cls := findClass_of_methodNamed B.named
  have hlocks := B.notSynchronized
  subst hsz
  have hD := hD0.self (sz := s.heap.size)
  have hA : ∀ q : Nat, s.heap.size ≤ q → va_A [] s.heap.size q := fun q h => Or.inr h
  have hP : va_P G.1 pCl [] s.heap := hP
  generalize va_A [] s.heap.size = A at hD hE hA ⊢
  have hS : va_S A s.heap s.heap [] := va_S.rf
  have hl := lv_entry ([.int (nI x)]) (n := 1) (Nat.le_of_ble_eq_true rfl)
  rw [lg_entry_eq]
  generalize (lg_sl ([.int (nI x)]) ++ List.replicate (1 - (lg_sl ([.int (nI x)])).length) Slot.unset).toArray = ls at hl ⊢
  have hl : lv_has ls 1 [(0, .int (nI x))] := hl
  refine lv_iload_n hx hb dX12_isClassType_0 rfl (lv_at hl 0 rfl) ?_
  refine lv_bipush (v := 10) hx hb dX12_isClassType_1 (by decide) ?_
  refine lv_icmp_lt (tgt := 17) hx hb dX12_isClassType_3 (by decide) (fun c1 => ?_) (fun c1 => ?_)
  · refine lv_iconst (v := 0) hx hb dX12_isClassType_17 (by decide) ?_
    refine W.widen (k := 0) (n := 0) (Nat.le_of_ble_eq_true rfl) (Nat.le_of_ble_eq_true rfl) ?_
    exact W.zret (v := 0) hx hb hr rfl (fun t ht hW => ⟨⟨_, (), rfl, (by have z0 := (nI_ltI (a := x) (b := 10) (by omega) (by omega)).mp c1; exact ⟨0, rfl, by omega, by omega, by omega, (fun _ => by omega)⟩), by rw [ht]; exact hP.sub [] rfl, hD.sub [] (by decide) rfl⟩, hS.F ht⟩) hS.2.2 dX12_isClassType_18
  · refine lv_iload_n hx hb dX12_isClassType_6 rfl (lv_at hl 0 rfl) ?_
    refine lv_sipush (v := 1000) hx hb dX12_isClassType_7 (by decide) ?_
    refine lv_icmp_ge (tgt := 17) hx hb dX12_isClassType_10 (by decide) (fun c2 => ?_) (fun c2 => ?_)
    · refine lv_iconst (v := 0) hx hb dX12_isClassType_17 (by decide) ?_
      refine W.widen (k := 0) (n := 0) (Nat.le_of_ble_eq_true rfl) (Nat.le_of_ble_eq_true rfl) ?_
      exact W.zret (v := 0) hx hb hr rfl (fun t ht hW => ⟨⟨_, (), rfl, (by have z0 : ¬ x < 10 := fun q => c1 ((nI_ltI (a := x) (b := 10) (by omega) (by omega)).mpr q); have z1 := (nI_leI (a := 1000) (b := x) (by omega) (by omega)).mp c2; exact ⟨0, rfl, by omega, by omega, by omega, (fun _ => by omega)⟩), by rw [ht]; exact hP.sub [] rfl, hD.sub [] (by decide) rfl⟩, hS.F ht⟩) hS.2.2 dX12_isClassType_18
    · refine lv_iconst (v := 1) hx hb dX12_isClassType_13 (by decide) ?_
      refine lv_goto (tgt := 18) hx hb dX12_isClassType_14 (by decide) ?_
      refine W.widen (k := 0) (n := 0) (Nat.le_of_ble_eq_true rfl) (Nat.le_of_ble_eq_true rfl) ?_
      exact W.zret (v := 1) hx hb hr rfl (fun t ht hW => ⟨⟨_, (), rfl, (by have z0 : ¬ x < 10 := fun q => c1 ((nI_ltI (a := x) (b := 10) (by omega) (by omega)).mpr q); have z1 : ¬ 1000 ≤ x := fun q => c2 ((nI_leI (a := 1000) (b := x) (by omega) (by omega)).mpr q); exact ⟨1, rfl, by omega, by omega, by omega, (fun e => absurd e (by decide))⟩), by rw [ht]; exact hP.sub [] rfl, hD.sub [] (by decide) rfl⟩, hS.F ht⟩) hS.2.2 dX12_isClassType_18
theorem dX12_fits_0 : decode cX12_fits 0 = .ok (.iload_n 1, 1) := by decide +kernel
theorem dX12_fits_1 : decode cX12_fits 1 = .ok (.ifCond .eq 7, 3) := by decide +kernel
theorem dX12_fits_4 : decode cX12_fits 4 = .ok (.iload_n 2, 1) := by decide +kernel
theorem dX12_fits_5 : decode cX12_fits 5 = .ok (.ifCond .ne 5, 3) := by decide +kernel
theorem dX12_fits_10 : decode cX12_fits 10 = .ok (.iload_n 1, 1) := by decide +kernel
theorem dX12_fits_11 : decode cX12_fits 11 = .ok (.iload_n 2, 1) := by decide +kernel
theorem dX12_fits_12 : decode cX12_fits 12 = .ok (.if_icmp .ne 5, 3) := by decide +kernel
theorem dX12_fits_17 : decode cX12_fits 17 = .ok (.aload_n 0, 1) := by decide +kernel
theorem dX12_fits_18 : decode cX12_fits 18 = .ok (.iload_n 1, 1) := by decide +kernel
theorem dX12_fits_19 : decode cX12_fits 19 = .ok (.invokevirtual 525, 3) := by decide +kernel
theorem dX12_fits_22 : decode cX12_fits 22 = .ok (.ifCond .eq 16, 3) := by decide +kernel
theorem dX12_fits_25 : decode cX12_fits 25 = .ok (.aload_n 0, 1) := by decide +kernel
theorem dX12_fits_26 : decode cX12_fits 26 = .ok (.iload_n 2, 1) := by decide +kernel
theorem dX12_fits_27 : decode cX12_fits 27 = .ok (.invokevirtual 525, 3) := by decide +kernel
theorem dX12_fits_30 : decode cX12_fits 30 = .ok (.ifCond .eq 8, 3) := by decide +kernel
theorem dX12_fits_33 : decode cX12_fits 33 = .ok (.iload_n 2, 1) := by decide +kernel
theorem dX12_fits_34 : decode cX12_fits 34 = .ok (.iconst 3, 1) := by decide +kernel
theorem dX12_fits_35 : decode cX12_fits 35 = .ok (.if_icmp .ne 5, 3) := by decide +kernel
theorem dX12_fits_40 : decode cX12_fits 40 = .ok (.iload_n 1, 1) := by decide +kernel
theorem dX12_fits_41 : decode cX12_fits 41 = .ok (.iconst 3, 1) := by decide +kernel
theorem dX12_fits_42 : decode cX12_fits 42 = .ok (.if_icmp .ne 5, 3) := by decide +kernel
theorem dX12_fits_47 : decode cX12_fits 47 = .ok (.iload_n 2, 1) := by decide +kernel
theorem dX12_fits_48 : decode cX12_fits 48 = .ok (.invokestatic 528, 3) := by decide +kernel
theorem dX12_fits_51 : decode cX12_fits 51 = .ok (.ifCond .eq 37, 3) := by decide +kernel
theorem dX12_fits_54 : decode cX12_fits 54 = .ok (.iload_n 1, 1) := by decide +kernel
theorem dX12_fits_55 : decode cX12_fits 55 = .ok (.invokestatic 531, 3) := by decide +kernel
theorem dX12_fits_58 : decode cX12_fits 58 = .ok (.ifCond .eq 17, 3) := by decide +kernel
theorem dX12_fits_75 : decode cX12_fits 75 = .ok (.aload_n 0, 1) := by decide +kernel
theorem dX12_fits_76 : decode cX12_fits 76 = .ok (.iload_n 2, 1) := by decide +kernel
theorem dX12_fits_77 : decode cX12_fits 77 = .ok (.bipush 10, 2) := by decide +kernel
theorem dX12_fits_79 : decode cX12_fits 79 = .ok (.isub, 1) := by decide +kernel
theorem dX12_fits_80 : decode cX12_fits 80 = .ok (.iload_n 1, 1) := by decide +kernel
theorem dX12_fits_81 : decode cX12_fits 81 = .ok (.bipush 10, 2) := by decide +kernel
theorem dX12_fits_83 : decode cX12_fits 83 = .ok (.isub, 1) := by decide +kernel
theorem dX12_fits_84 : decode cX12_fits 84 = .ok (.invokevirtual 518, 3) := by decide +kernel
theorem dX12_fits_87 : decode cX12_fits 87 = .ok (.ireturn, 1) := by decide +kernel
theorem dX12_fits_15 : decode cX12_fits 15 = .ok (.iconst 1, 1) := by decide +kernel
theorem dX12_fits_16 : decode cX12_fits 16 = .ok (.ireturn, 1) := by decide +kernel
theorem hV_X12_isReference : yX12_isReference.cls = RX12 ∧ yX12_isReference.cls ≠ "java/lang/invoke/MethodHandle" ∧ yX12_isReference.cls ≠ "java/lang/invoke/VarHandle" ∧ (parseMethodDescriptor yX12_isReference.desc).map (fun d => d.parameters.length) = some 1 := by decide +kernel
theorem hS_X12_isClassType : yX12_isClassType.cls ≠ "java/lang/invoke/MethodHandle" ∧ yX12_isClassType.cls ≠ "java/lang/invoke/VarHandle" ∧ (parseMethodDescriptor yX12_isClassType.desc).map (fun d => d.parameters.length) = some 1 := by decide +kernel
theorem hS_X12_isRow : yX12_isRow.cls ≠ "java/lang/invoke/MethodHandle" ∧ yX12_isRow.cls ≠ "java/lang/invoke/VarHandle" ∧ (parseMethodDescriptor yX12_isRow.desc).map (fun d => d.parameters.length) = some 1 := by decide +kernel
set_option maxHeartbeats 2000000 in
set_option maxRecDepth 100000 in
/-- fits(s, t) -/
theorem R_fits0 (l : Launch) (G : pT) (h0 : Nat) (a : Nat → Nat) (F : Nat → Int32) (B : Nat → Nat → Int32) (sx : Nat) (tx : Nat) (dc : Nat) (da : Nat → Int32) (hs : 10 ≤ sx ∧ sx < 10 + dc) (ht : 10 ≤ tx ∧ tx < 10 + dc) (hdc : dc ≤ 37) (hbi : ∀ i : Nat, i < 1600 → da i = 0 ∨ da i = 1) : PM l G pX0 yX12_fits cX12_fits 3 (some .boolean) ({ frames := 3, cells := 0, slots := 0, locals := 82 }) [.ref h0, .int (nI sx), .int (nI tx)] (mW G h0 a F (updA B 31 da)) (fun (v : Option Value) (u : Unit) => v = some (.int (fitF da sx tx))) (fun u => (mW G h0 a F (updA B 31 da))) := by
  intro sz
  refine Met.ofW (cc := cX12_fits) (maxL := 3) (ret := (some .boolean)) (by decide) rfl ?_
  intro p e s m args below meth c s₁ B9 hml hv
  obtain ⟨rfl, hsz, hP, hD0, hE, hX⟩ := hv
  have hx := B9.exec
  have hb := B9.bytes
  have hr := B9.returns
  have hts := atoms_spec (ws := Cond.code yX12_fits cX12_fits 3 (some .boolean) :: pw) B9.pre
  have hq : ∀ w ∈ pw, w.before _ s = true := fun w h => hts w (List.mem_cons_of_mem _ h)
  have hown : s.vm.findClass RX12 = some m.cls := findClass_of_methodNamed B9.named
  have hlocks := B9.notSynchronized
  subst hsz
  have hD := hD0.self (sz := s.heap.size)
  have hA : ∀ q : Nat, s.heap.size ≤ q → va_A (mW G h0 a F (updA B 31 da)) s.heap.size q := fun q h => Or.inr h
  have hP : va_P G.1 pCl (mW G h0 a F (updA B 31 da)) s.heap := hP
  generalize va_A (mW G h0 a F (updA B 31 da)) s.heap.size = A at hD hE hA ⊢
  have hS : va_S A s.heap s.heap [] := va_S.rf
  have hl := lv_entry ([.ref h0, .int (nI sx), .int (nI tx)]) (n := 3) (Nat.le_of_ble_eq_true rfl)
  rw [lg_entry_eq]
  generalize (lg_sl ([.ref h0, .int (nI sx), .int (nI tx)]) ++ List.replicate (3 - (lg_sl ([.ref h0, .int (nI sx), .int (nI tx)])).length) Slot.unset).toArray = ls at hl ⊢
  have hl : lv_has ls 3 [(0, .ref h0), (1, .int (nI sx)), (2, .int (nI tx))] := hl
  refine lv_iload_n hx hb dX12_fits_0 rfl (lv_at hl 1 rfl) ?_
  refine lv_if_eq (tgt := 8) hx hb dX12_fits_1 (by decide) (fun c1 => (by have n2 : sx = 0 := (nI_eq (a := sx) (b := 0) (by omega) (by omega)).mp c1; omega)) (fun c1 => ?_)
  refine lv_iload_n hx hb dX12_fits_4 rfl (lv_at hl 2 rfl) ?_
  refine lv_if_ne (tgt := 10) hx hb dX12_fits_5 (by decide) (fun c3 => ?_) (fun c3 => (by have n4 : tx = 0 := (nI_eq (a := tx) (b := 0) (by omega) (by omega)).mp c3; omega))
  refine lv_iload_n hx hb dX12_fits_10 rfl (lv_at hl 1 rfl) ?_
  refine lv_iload_n hx hb dX12_fits_11 rfl (lv_at hl 2 rfl) ?_
  refine lv_icmp_ne (tgt := 17) hx hb dX12_fits_12 (by decide) (fun c5 => ?_) (fun c5 => ?_)
  · have n6 : ¬ (sx = tx) := fun h9 => c5 ((nI_eq (a := sx) (b := tx) (by omega) (by omega)).mpr h9)
    refine lv_aload_n hx hb dX12_fits_17 rfl (lv_at hl 0 rfl) ?_
    refine lv_iload_n hx hb dX12_fits_18 rfl (lv_at hl 1 rfl) ?_
    have hP : va_P G.1 pCl (mW G h0 a F (updA B 31 da)) _ := hP
    have hD : va_D A (mW G h0 a F (updA B 31 da)) := mW_D hD
    refine pc_V0 (G := G) (As := [.int (nI sx)]) (rest := []) hx hb hml hown hq hE hX pX0_al hP hD hS hA hl.1 (R_isReference l G h0 a F (updA B 31 da) sx (by omega)) (gV pw_1783 pw_1784 pw_1785 pw_1523 pw_1779) hV_X12_isReference 0 9 rfl rfl rfl rfl (Nat.le_of_ble_eq_true rfl) dX12_fits_19 ⟨Nat.le_of_ble_eq_true rfl, Nat.le_of_ble_eq_true rfl⟩ ⟨Nat.le_of_ble_eq_true rfl, Nat.le_of_ble_eq_true rfl⟩ (fun v9 u7 H locs hw8 hP hD hS => ?_)
    obtain ⟨r10, rfl⟩ : ∃ z, z = u7 := ⟨_, rfl⟩
    obtain ⟨hw8, h11, h12, h13⟩ := hw8
    replace h11 : r10 ≤ 1 := h11
    replace h12 : 3 * r10 ≤ sx := h12
    replace h13 : sx ≤ 2 + 9000 * r10 := h13
    obtain rfl : v9 = some (.int (nI r10)) := hw8
    have hP : va_P G.1 pCl (mW G h0 a F (updA B 31 da)) _ := hP
    have hD : va_D A (mW G h0 a F (updA B 31 da)) := mW_D hD
    refine W.widen (k := 0) (n := 0) (Nat.le_of_ble_eq_true rfl) (Nat.le_of_ble_eq_true rfl) ?_
    refine W.eq (g2 := F0 m 22 ls [.int (nI r10)]) rfl ?_
    refine lv_if_eq (tgt := 38) hx hb dX12_fits_22 (by decide) (fun c14 => (by have n15 : r10 = 0 := (nI_eq (a := r10) (b := 0) (by omega) (by omega)).mp c14; omega)) (fun c14 => ?_)
    refine lv_aload_n hx hb dX12_fits_25 rfl (lv_at hl 0 rfl) ?_
    refine lv_iload_n hx hb dX12_fits_26 rfl (lv_at hl 2 rfl) ?_
    have hP : va_P G.1 pCl (mW G h0 a F (updA B 31 da)) _ := hP
    have hD : va_D A (mW G h0 a F (updA B 31 da)) := mW_D hD
    refine pc_V0 (G := G) (As := [.int (nI tx)]) (rest := []) hx hb hml hown hq hE hX pX0_al hP hD hS hA hl.1 (R_isReference l G h0 a F (updA B 31 da) tx (by omega)) (gV pw_1783 pw_1784 pw_1785 pw_1523 pw_1779) hV_X12_isReference 0 9 rfl rfl rfl rfl (Nat.le_of_ble_eq_true rfl) dX12_fits_27 ⟨Nat.le_of_ble_eq_true rfl, Nat.le_of_ble_eq_true rfl⟩ ⟨Nat.le_of_ble_eq_true rfl, Nat.le_of_ble_eq_true rfl⟩ (fun v18 u16 H locs hw17 hP hD hS => ?_)
    obtain ⟨r19, rfl⟩ : ∃ z, z = u16 := ⟨_, rfl⟩
    obtain ⟨hw17, h20, h21, h22⟩ := hw17
    replace h20 : r19 ≤ 1 := h20
    replace h21 : 3 * r19 ≤ tx := h21
    replace h22 : tx ≤ 2 + 9000 * r19 := h22
    obtain rfl : v18 = some (.int (nI r19)) := hw17
    have hP : va_P G.1 pCl (mW G h0 a F (updA B 31 da)) _ := hP
    have hD : va_D A (mW G h0 a F (updA B 31 da)) := mW_D hD
    refine W.widen (k := 0) (n := 0) (Nat.le_of_ble_eq_true rfl) (Nat.le_of_ble_eq_true rfl) ?_
    refine W.eq (g2 := F0 m 30 ls [.int (nI r19)]) rfl ?_
    refine lv_if_eq (tgt := 38) hx hb dX12_fits_30 (by decide) (fun c23 => (by have n24 : r19 = 0 := (nI_eq (a := r19) (b := 0) (by omega) (by omega)).mp c23; omega)) (fun c23 => ?_)
    refine lv_iload_n hx hb dX12_fits_33 rfl (lv_at hl 2 rfl) ?_
    refine lv_iconst (v := 3) hx hb dX12_fits_34 (by decide) ?_
    refine lv_icmp_ne (tgt := 40) hx hb dX12_fits_35 (by decide) (fun c25 => ?_) (fun c25 => (by have n26 : tx = 3 := (nI_eq (a := tx) (b := 3) (by omega) (by omega)).mp c25; omega))
    refine lv_iload_n hx hb dX12_fits_40 rfl (lv_at hl 1 rfl) ?_
    refine lv_iconst (v := 3) hx hb dX12_fits_41 (by decide) ?_
    refine lv_icmp_ne (tgt := 47) hx hb dX12_fits_42 (by decide) (fun c27 => ?_) (fun c27 => (by have n28 : sx = 3 := (nI_eq (a := sx) (b := 3) (by omega) (by omega)).mp c27; omega))
    refine lv_iload_n hx hb dX12_fits_47 rfl (lv_at hl 2 rfl) ?_
    refine pc_SN (G := G) (As := [.int (nI tx)]) (rest := []) hx hb hml hown hq hE hX pX0_al hP hS hA hl.1 (s_isClassType l G tx (by omega)) (gS pw_1786 pw_1787 pw_1523 pw_1781) hS_X12_isClassType rfl (Nat.le_of_ble_eq_true rfl) dX12_fits_48 ⟨Nat.le_of_ble_eq_true rfl, Nat.le_of_ble_eq_true rfl⟩ ⟨Nat.le_of_ble_eq_true rfl, Nat.le_of_ble_eq_true rfl⟩ (fun v31 u29 H locs hw30 hP hS => ?_)
    obtain ⟨r32, rfl, h33, h34, h35, h36⟩ := hw30
    refine W.widen (k := 0) (n := 0) (Nat.le_of_ble_eq_true rfl) (Nat.le_of_ble_eq_true rfl) ?_
    refine W.eq (g2 := F0 m 51 ls [.int (nI r32)]) rfl ?_
    refine lv_if_eq (tgt := 88) hx hb dX12_fits_51 (by decide) (fun c37 => absurd (h36 ((nI_eq (a := r32) (b := 0) (by omega) (by omega)).mp c37)) (by omega)) (fun c37 => ?_)
    refine lv_iload_n hx hb dX12_fits_54 rfl (lv_at hl 1 rfl) ?_
    refine pc_SN (G := G) (As := [.int (nI sx)]) (rest := []) hx hb hml hown hq hE hX pX0_al hP hS hA hl.1 (s_isRow l G sx (by omega)) (gS pw_1788 pw_1789 pw_1523 pw_1780) hS_X12_isRow rfl (Nat.le_of_ble_eq_true rfl) dX12_fits_55 ⟨Nat.le_of_ble_eq_true rfl, Nat.le_of_ble_eq_true rfl⟩ ⟨Nat.le_of_ble_eq_true rfl, Nat.le_of_ble_eq_true rfl⟩ (fun v40 u38 H locs hw39 hP hS => ?_)
    obtain ⟨r41, rfl, h42, h43, h44⟩ := hw39
    refine W.widen (k := 0) (n := 0) (Nat.le_of_ble_eq_true rfl) (Nat.le_of_ble_eq_true rfl) ?_
    refine W.eq (g2 := F0 m 58 ls [.int (nI r41)]) rfl ?_
    refine lv_if_eq (tgt := 75) hx hb dX12_fits_58 (by decide) (fun c45 => ?_) (fun c45 => (by have n46 : ¬ (r41 = 0) := fun h9 => c45 ((nI_eq (a := r41) (b := 0) (by omega) (by omega)).mpr h9); omega))
    refine lv_aload_n hx hb dX12_fits_75 rfl (lv_at hl 0 rfl) ?_
    refine lv_iload_n hx hb dX12_fits_76 rfl (lv_at hl 2 rfl) ?_
    refine lv_bipush (v := 10) hx hb dX12_fits_77 (by decide) ?_
    refine lv_isub hx hb dX12_fits_79 ?_
    refine lv_topi (fun x47 e48 => ?_)
    obtain rfl : x47 = nI (tx - 10) := e48.trans (nI_subN (a := 10) (b := tx) (by omega))
    refine lv_iload_n hx hb dX12_fits_80 rfl (lv_at hl 1 rfl) ?_
    refine lv_bipush (v := 10) hx hb dX12_fits_81 (by decide) ?_
    refine lv_isub hx hb dX12_fits_83 ?_
    refine lv_topi (fun x49 e50 => ?_)
    obtain rfl : x49 = nI (sx - 10) := e50.trans (nI_subN (a := 10) (b := sx) (by omega))
    have hP : va_P G.1 pCl (mW G h0 a F (updA (updA B 31 da) 31 da)) _ := hP
    have hD : va_D A (mW G h0 a F (updA (updA B 31 da) 31 da)) := mW_D hD
    refine pc_V0 (G := G) (As := [.int (nI (tx - 10)), .int (nI (sx - 10))]) (rest := []) hx hb hml hown hq hE hX pX0_al hP hD hS hA hl.1 (R_isAbove l G h0 a F (updA B 31 da) (tx - 10) (sx - 10) da (by omega) hbi) (gV pw_1772 pw_1773 pw_1774 pw_1523 pw_1760) hV_X12_isAbove 0 9 rfl rfl rfl rfl (Nat.le_of_ble_eq_true rfl) dX12_fits_84 ⟨Nat.le_of_ble_eq_true rfl, Nat.le_of_ble_eq_true rfl⟩ ⟨Nat.le_of_ble_eq_true rfl, Nat.le_of_ble_eq_true rfl⟩ (fun v53 u51 H locs hw52 hP hD hS => ?_)
    obtain rfl : v53 = some (.int (da (40 * (tx - 10) + (sx - 10)))) := hw52
    have hP : va_P G.1 pCl (mW G h0 a F (updA B 31 da)) _ := hP
    have hD : va_D A (mW G h0 a F (updA B 31 da)) := mW_D hD
    refine W.widen (k := 0) (n := 0) (Nat.le_of_ble_eq_true rfl) (Nat.le_of_ble_eq_true rfl) ?_
    refine W.eq (g2 := F0 m 87 ls [.int (da (40 * (tx - 10) + (sx - 10)))]) rfl ?_
    have hP : va_P G.1 pCl (mW G h0 a F (updA B 31 da)) _ := hP
    have hD : va_D A (mW G h0 a F (updA B 31 da)) := mW_D hD
    exact W.zret (v := (da (40 * (tx - 10) + (sx - 10)))) hx hb hr (bit_nar (hbi _ (by omega))) (fun t9 ht9 hW9 => ⟨⟨_, (), rfl, (congrArg (fun z => some (Value.int z)) (by first | exact (fit_v (by omega)).symm | exact (fit_e (by omega) (by omega) (by omega)).symm | exact (fit_n (by omega) (by omega) (by omega) (by omega)).symm | exact (fit_3 (by omega) (by omega)).symm | exact (fit_r1 (by omega) (by omega)).symm | exact (fit_r0 (by omega) (by omega) (by omega) (by omega)).symm | exact (fit_c (by omega) (by omega) (by omega) (by omega) (by omega)).symm | exact (fit_ro (by omega) (by omega) (by omega) (by omega)).symm)), by rw [ht9]; exact hP, hD⟩, hS.F ht9⟩) hS.2.2 dX12_fits_87
  · have n54 : sx = tx := (nI_eq (a := sx) (b := tx) (by omega) (by omega)).mp c5
    refine lv_iconst (v := 1) hx hb dX12_fits_15 (by decide) ?_
    have hP : va_P G.1 pCl (mW G h0 a F (updA B 31 da)) _ := hP
    have hD : va_D A (mW G h0 a F (updA B 31 da)) := mW_D hD
    exact W.zret (v := 1) hx hb hr (bit_nar (Or.inr rfl)) (fun t9 ht9 hW9 => ⟨⟨_, (), rfl, (congrArg (fun z => some (Value.int z)) (by first | exact (fit_v (by omega)).symm | exact (fit_e (by omega) (by omega) (by omega)).symm | exact (fit_n (by omega) (by omega) (by omega) (by omega)).symm | exact (fit_3 (by omega) (by omega)).symm | exact (fit_r1 (by omega) (by omega)).symm | exact (fit_r0 (by omega) (by omega) (by omega) (by omega)).symm | exact (fit_c (by omega) (by omega) (by omega) (by omega) (by omega)).symm | exact (fit_ro (by omega) (by omega) (by omega) (by omega)).symm)), by rw [ht9]; exact hP, hD⟩, hS.F ht9⟩) hS.2.2 dX12_fits_16
theorem dX12_fits_8 : decode cX12_fits 8 = .ok (.iconst 0, 1) := by decide +kernel
theorem dX12_fits_9 : decode cX12_fits 9 = .ok (.ireturn, 1) := by decide +kernel
theorem dX12_fits_38 : decode cX12_fits 38 = .ok (.iconst 0, 1) := by decide +kernel
theorem dX12_fits_39 : decode cX12_fits 39 = .ok (.ireturn, 1) := by decide +kernel
theorem dX12_fits_88 : decode cX12_fits 88 = .ok (.iload_n 1, 1) := by decide +kernel
theorem dX12_fits_89 : decode cX12_fits 89 = .ok (.invokestatic 531, 3) := by decide +kernel
theorem dX12_fits_92 : decode cX12_fits 92 = .ok (.ifCond .eq 46, 3) := by decide +kernel
theorem dX12_fits_138 : decode cX12_fits 138 = .ok (.iconst 0, 1) := by decide +kernel
theorem dX12_fits_139 : decode cX12_fits 139 = .ok (.ireturn, 1) := by decide +kernel
theorem dX12_fits_95 : decode cX12_fits 95 = .ok (.iload_n 1, 1) := by decide +kernel
theorem dX12_fits_96 : decode cX12_fits 96 = .ok (.sipush 1000, 3) := by decide +kernel
theorem dX12_fits_99 : decode cX12_fits 99 = .ok (.isub, 1) := by decide +kernel
theorem dX12_fits_100 : decode cX12_fits 100 = .ok (.invokestatic 528, 3) := by decide +kernel
theorem dX12_fits_103 : decode cX12_fits 103 = .ok (.ifCond .eq 35, 3) := by decide +kernel
theorem dX12_fits_106 : decode cX12_fits 106 = .ok (.iload_n 2, 1) := by decide +kernel
theorem dX12_fits_107 : decode cX12_fits 107 = .ok (.sipush 1000, 3) := by decide +kernel
theorem dX12_fits_110 : decode cX12_fits 110 = .ok (.isub, 1) := by decide +kernel
theorem dX12_fits_111 : decode cX12_fits 111 = .ok (.invokestatic 528, 3) := by decide +kernel
theorem dX12_fits_114 : decode cX12_fits 114 = .ok (.ifCond .eq 24, 3) := by decide +kernel
theorem dX12_fits_117 : decode cX12_fits 117 = .ok (.aload_n 0, 1) := by decide +kernel
theorem dX12_fits_118 : decode cX12_fits 118 = .ok (.iload_n 1, 1) := by decide +kernel
theorem dX12_fits_119 : decode cX12_fits 119 = .ok (.sipush 1000, 3) := by decide +kernel
theorem dX12_fits_122 : decode cX12_fits 122 = .ok (.isub, 1) := by decide +kernel
theorem dX12_fits_123 : decode cX12_fits 123 = .ok (.iload_n 2, 1) := by decide +kernel
theorem dX12_fits_124 : decode cX12_fits 124 = .ok (.sipush 1000, 3) := by decide +kernel
theorem dX12_fits_127 : decode cX12_fits 127 = .ok (.isub, 1) := by decide +kernel
theorem dX12_fits_128 : decode cX12_fits 128 = .ok (.invokevirtual 534, 3) := by decide +kernel
theorem dX12_fits_131 : decode cX12_fits 131 = .ok (.ifCond .eq 7, 3) := by decide +kernel
theorem dX12_fits_134 : decode cX12_fits 134 = .ok (.iconst 1, 1) := by decide +kernel
theorem dX12_fits_135 : decode cX12_fits 135 = .ok (.goto 4, 3) := by decide +kernel
theorem dX12_fits_61 : decode cX12_fits 61 = .ok (.iload_n 2, 1) := by decide +kernel
theorem dX12_fits_62 : decode cX12_fits 62 = .ok (.bipush 10, 2) := by decide +kernel
theorem dX12_fits_64 : decode cX12_fits 64 = .ok (.if_icmp .ne 7, 3) := by decide +kernel
theorem dX12_fits_71 : decode cX12_fits 71 = .ok (.iconst 0, 1) := by decide +kernel
theorem dX12_fits_72 : decode cX12_fits 72 = .ok (.goto 15, 3) := by decide +kernel
theorem dX12_fits_67 : decode cX12_fits 67 = .ok (.iconst 1, 1) := by decide +kernel
theorem dX12_fits_68 : decode cX12_fits 68 = .ok (.goto 19, 3) := by decide +kernel
theorem dX12_fits_45 : decode cX12_fits 45 = .ok (.iconst 1, 1) := by decide +kernel
theorem dX12_fits_46 : decode cX12_fits 46 = .ok (.ireturn, 1) := by decide +kernel
theorem hV_X12_fits : yX12_fits.cls = RX12 ∧ yX12_fits.cls ≠ "java/lang/invoke/MethodHandle" ∧ yX12_fits.cls ≠ "java/lang/invoke/VarHandle" ∧ (parseMethodDescriptor yX12_fits.desc).map (fun d => d.parameters.length) = some 2 := by decide +kernel
set_option maxHeartbeats 2000000 in
set_option maxRecDepth 100000 in
/-- fits(s, t) -/
theorem R_fits (l : Launch) (G : pT) (h0 : Nat) (a : Nat → Nat) (F : Nat → Int32) (B : Nat → Nat → Int32) (sx : Nat) (tx : Nat) (dc : Nat) (da : Nat → Int32) (hs : TyC dc sx) (ht : TyC dc tx) (hdc : dc ≤ 37) (hbi : ∀ i : Nat, i < 1600 → da i = 0 ∨ da i = 1) : PM l G pX0 yX12_fits cX12_fits 3 (some .boolean) ({ frames := 4, cells := 0, slots := 0, locals := 104 }) [.ref h0, .int (nI sx), .int (nI tx)] (mW G h0 a F (updA B 31 da)) (fun (v : Option Value) (u : Unit) => v = some (.int (fitF da sx tx))) (fun u => (mW G h0 a F (updA B 31 da))) := by
  intro sz
  refine Met.ofW (cc := cX12_fits) (maxL := 3) (ret := (some .boolean)) (by decide) rfl ?_
  intro p e s m args below meth c s₁ B9 hml hv
  obtain ⟨rfl, hsz, hP, hD0, hE, hX⟩ := hv
  have hx := B9.exec
  have hb := B9.bytes
  have hr := B9.returns
  have hts := atoms_spec (ws := Cond.code yX12_fits cX12_fits 3 (some .boolean) :: pw) B9.pre
  have hq : ∀ w ∈ pw, w.before _ s = true := fun w h => hts w (List.mem_cons_of_mem _ h)
  have hown : s.vm.findClass RX12 = some m.cls := findClass_of_methodNamed B9.named
  have hlocks := B9.notSynchronized
  subst hsz
  have hD := hD0.self (sz := s.heap.size)
  have hA : ∀ q : Nat, s.heap.size ≤ q → va_A (mW G h0 a F (updA B 31 da)) s.heap.size q := fun q h => Or.inr h
  have hP : va_P G.1 pCl (mW G h0 a F (updA B 31 da)) s.heap := hP
  generalize va_A (mW G h0 a F (updA B 31 da)) s.heap.size = A at hD hE hA ⊢
  have hS : va_S A s.heap s.heap [] := va_S.rf
  have hl := lv_entry ([.ref h0, .int (nI sx), .int (nI tx)]) (n := 3) (Nat.le_of_ble_eq_true rfl)
  rw [lg_entry_eq]
  generalize (lg_sl ([.ref h0, .int (nI sx), .int (nI tx)]) ++ List.replicate (3 - (lg_sl ([.ref h0, .int (nI sx), .int (nI tx)])).length) Slot.unset).toArray = ls at hl ⊢
  have hl : lv_has ls 3 [(0, .ref h0), (1, .int (nI sx)), (2, .int (nI tx))] := hl
  have hs5 := TyC.le hs hdc
  have ht5 := TyC.le ht hdc
  refine lv_iload_n hx hb dX12_fits_0 rfl (lv_at hl 1 rfl) ?_
  refine lv_if_eq (tgt := 8) hx hb dX12_fits_1 (by decide) (fun c1 => ?_) (fun c1 => ?_)
  · have n2 : sx = 0 := (nI_eq (a := sx) (b := 0) (by omega) (by omega)).mp c1
    refine lv_iconst (v := 0) hx hb dX12_fits_8 (by decide) ?_
    have hP : va_P G.1 pCl (mW G h0 a F (updA B 31 da)) _ := hP
    have hD : va_D A (mW G h0 a F (updA B 31 da)) := mW_D hD
    exact W.zret (v := 0) hx hb hr (bit_nar (Or.inl rfl)) (fun t9 ht9 hW9 => ⟨⟨_, (), rfl, (congrArg (fun z => some (Value.int z)) (by first | exact (fit_v (by omega)).symm | exact (fit_e (by omega) (by omega) (by omega)).symm | exact (fit_n (by omega) (by omega) (by omega) (by omega)).symm | exact (fit_3 (by omega) (by omega)).symm | exact (fit_r1 (by omega) (by omega)).symm | exact (fit_r0 (by omega) (by omega) (by omega) (by omega)).symm | exact (fit_c (by omega) (by omega) (by omega) (by omega) (by omega)).symm | exact (fit_ro (by omega) (by omega) (by omega) (by omega)).symm)), by rw [ht9]; exact hP, hD⟩, hS.F ht9⟩) hS.2.2 dX12_fits_9
  · have n3 : ¬ (sx = 0) := fun h9 => c1 ((nI_eq (a := sx) (b := 0) (by omega) (by omega)).mpr h9)
    refine lv_iload_n hx hb dX12_fits_4 rfl (lv_at hl 2 rfl) ?_
    refine lv_if_ne (tgt := 10) hx hb dX12_fits_5 (by decide) (fun c4 => ?_) (fun c4 => ?_)
    · have n5 : ¬ (tx = 0) := fun h9 => c4 ((nI_eq (a := tx) (b := 0) (by omega) (by omega)).mpr h9)
      refine lv_iload_n hx hb dX12_fits_10 rfl (lv_at hl 1 rfl) ?_
      refine lv_iload_n hx hb dX12_fits_11 rfl (lv_at hl 2 rfl) ?_
      refine lv_icmp_ne (tgt := 17) hx hb dX12_fits_12 (by decide) (fun c6 => ?_) (fun c6 => ?_)
      · have n7 : ¬ (sx = tx) := fun h9 => c6 ((nI_eq (a := sx) (b := tx) (by omega) (by omega)).mpr h9)
        refine lv_aload_n hx hb dX12_fits_17 rfl (lv_at hl 0 rfl) ?_
        refine lv_iload_n hx hb dX12_fits_18 rfl (lv_at hl 1 rfl) ?_
        have hP : va_P G.1 pCl (mW G h0 a F (updA B 31 da)) _ := hP
        have hD : va_D A (mW G h0 a F (updA B 31 da)) := mW_D hD
        refine pc_V0 (G := G) (As := [.int (nI sx)]) (rest := []) hx hb hml hown hq hE hX pX0_al hP hD hS hA hl.1 (R_isReference l G h0 a F (updA B 31 da) sx (by omega)) (gV pw_1783 pw_1784 pw_1785 pw_1523 pw_1779) hV_X12_isReference 0 9 rfl rfl rfl rfl (Nat.le_of_ble_eq_true rfl) dX12_fits_19 ⟨Nat.le_of_ble_eq_true rfl, Nat.le_of_ble_eq_true rfl⟩ ⟨Nat.le_of_ble_eq_true rfl, Nat.le_of_ble_eq_true rfl⟩ (fun v10 u8 H locs hw9 hP hD hS => ?_)
        obtain ⟨r11, rfl⟩ : ∃ z, z = u8 := ⟨_, rfl⟩
        obtain ⟨hw9, h12, h13, h14⟩ := hw9
        replace h12 : r11 ≤ 1 := h12
        replace h13 : 3 * r11 ≤ sx := h13
        replace h14 : sx ≤ 2 + 9000 * r11 := h14
        obtain rfl : v10 = some (.int (nI r11)) := hw9
        have hP : va_P G.1 pCl (mW G h0 a F (updA B 31 da)) _ := hP
        have hD : va_D A (mW G h0 a F (updA B 31 da)) := mW_D hD
        refine W.widen (k := 0) (n := 0) (Nat.le_of_ble_eq_true rfl) (Nat.le_of_ble_eq_true rfl) ?_
        refine W.eq (g2 := F0 m 22 ls [.int (nI r11)]) rfl ?_
        refine lv_if_eq (tgt := 38) hx hb dX12_fits_22 (by decide) (fun c15 => ?_) (fun c15 => ?_)
        · have n16 : r11 = 0 := (nI_eq (a := r11) (b := 0) (by omega) (by omega)).mp c15
          refine lv_iconst (v := 0) hx hb dX12_fits_38 (by decide) ?_
          have hP : va_P G.1 pCl (mW G h0 a F (updA B 31 da)) _ := hP
          have hD : va_D A (mW G h0 a F (updA B 31 da)) := mW_D hD
          exact W.zret (v := 0) hx hb hr (bit_nar (Or.inl rfl)) (fun t9 ht9 hW9 => ⟨⟨_, (), rfl, (congrArg (fun z => some (Value.int z)) (by first | exact (fit_v (by omega)).symm | exact (fit_e (by omega) (by omega) (by omega)).symm | exact (fit_n (by omega) (by omega) (by omega) (by omega)).symm | exact (fit_3 (by omega) (by omega)).symm | exact (fit_r1 (by omega) (by omega)).symm | exact (fit_r0 (by omega) (by omega) (by omega) (by omega)).symm | exact (fit_c (by omega) (by omega) (by omega) (by omega) (by omega)).symm | exact (fit_ro (by omega) (by omega) (by omega) (by omega)).symm)), by rw [ht9]; exact hP, hD⟩, hS.F ht9⟩) hS.2.2 dX12_fits_39
        · have n17 : ¬ (r11 = 0) := fun h9 => c15 ((nI_eq (a := r11) (b := 0) (by omega) (by omega)).mpr h9)
          refine lv_aload_n hx hb dX12_fits_25 rfl (lv_at hl 0 rfl) ?_
          refine lv_iload_n hx hb dX12_fits_26 rfl (lv_at hl 2 rfl) ?_
          have hP : va_P G.1 pCl (mW G h0 a F (updA B 31 da)) _ := hP
          have hD : va_D A (mW G h0 a F (updA B 31 da)) := mW_D hD
          refine pc_V0 (G := G) (As := [.int (nI tx)]) (rest := []) hx hb hml hown hq hE hX pX0_al hP hD hS hA hl.1 (R_isReference l G h0 a F (updA B 31 da) tx (by omega)) (gV pw_1783 pw_1784 pw_1785 pw_1523 pw_1779) hV_X12_isReference 0 9 rfl rfl rfl rfl (Nat.le_of_ble_eq_true rfl) dX12_fits_27 ⟨Nat.le_of_ble_eq_true rfl, Nat.le_of_ble_eq_true rfl⟩ ⟨Nat.le_of_ble_eq_true rfl, Nat.le_of_ble_eq_true rfl⟩ (fun v20 u18 H locs hw19 hP hD hS => ?_)
          obtain ⟨r21, rfl⟩ : ∃ z, z = u18 := ⟨_, rfl⟩
          obtain ⟨hw19, h22, h23, h24⟩ := hw19
          replace h22 : r21 ≤ 1 := h22
          replace h23 : 3 * r21 ≤ tx := h23
          replace h24 : tx ≤ 2 + 9000 * r21 := h24
          obtain rfl : v20 = some (.int (nI r21)) := hw19
          have hP : va_P G.1 pCl (mW G h0 a F (updA B 31 da)) _ := hP
          have hD : va_D A (mW G h0 a F (updA B 31 da)) := mW_D hD
          refine W.widen (k := 0) (n := 0) (Nat.le_of_ble_eq_true rfl) (Nat.le_of_ble_eq_true rfl) ?_
          refine W.eq (g2 := F0 m 30 ls [.int (nI r21)]) rfl ?_
          refine lv_if_eq (tgt := 38) hx hb dX12_fits_30 (by decide) (fun c25 => ?_) (fun c25 => ?_)
          · have n26 : r21 = 0 := (nI_eq (a := r21) (b := 0) (by omega) (by omega)).mp c25
            refine lv_iconst (v := 0) hx hb dX12_fits_38 (by decide) ?_
            have hP : va_P G.1 pCl (mW G h0 a F (updA B 31 da)) _ := hP
            have hD : va_D A (mW G h0 a F (updA B 31 da)) := mW_D hD
            exact W.zret (v := 0) hx hb hr (bit_nar (Or.inl rfl)) (fun t9 ht9 hW9 => ⟨⟨_, (), rfl, (congrArg (fun z => some (Value.int z)) (by first | exact (fit_v (by omega)).symm | exact (fit_e (by omega) (by omega) (by omega)).symm | exact (fit_n (by omega) (by omega) (by omega) (by omega)).symm | exact (fit_3 (by omega) (by omega)).symm | exact (fit_r1 (by omega) (by omega)).symm | exact (fit_r0 (by omega) (by omega) (by omega) (by omega)).symm | exact (fit_c (by omega) (by omega) (by omega) (by omega) (by omega)).symm | exact (fit_ro (by omega) (by omega) (by omega) (by omega)).symm)), by rw [ht9]; exact hP, hD⟩, hS.F ht9⟩) hS.2.2 dX12_fits_39
          · have n27 : ¬ (r21 = 0) := fun h9 => c25 ((nI_eq (a := r21) (b := 0) (by omega) (by omega)).mpr h9)
            refine lv_iload_n hx hb dX12_fits_33 rfl (lv_at hl 2 rfl) ?_
            refine lv_iconst (v := 3) hx hb dX12_fits_34 (by decide) ?_
            refine lv_icmp_ne (tgt := 40) hx hb dX12_fits_35 (by decide) (fun c28 => ?_) (fun c28 => ?_)
            · have n29 : ¬ (tx = 3) := fun h9 => c28 ((nI_eq (a := tx) (b := 3) (by omega) (by omega)).mpr h9)
              have h30 : 10 ≤ tx := TyC.mid ht (by omega)
              refine lv_iload_n hx hb dX12_fits_40 rfl (lv_at hl 1 rfl) ?_
              refine lv_iconst (v := 3) hx hb dX12_fits_41 (by decide) ?_
              refine lv_icmp_ne (tgt := 47) hx hb dX12_fits_42 (by decide) (fun c31 => ?_) (fun c31 => ?_)
              · have n32 : ¬ (sx = 3) := fun h9 => c31 ((nI_eq (a := sx) (b := 3) (by omega) (by omega)).mpr h9)
                have h33 : 10 ≤ sx := TyC.mid hs (by omega)
                refine lv_iload_n hx hb dX12_fits_47 rfl (lv_at hl 2 rfl) ?_
                refine pc_SN (G := G) (As := [.int (nI tx)]) (rest := []) hx hb hml hown hq hE hX pX0_al hP hS hA hl.1 (s_isClassType l G tx (by omega)) (gS pw_1786 pw_1787 pw_1523 pw_1781) hS_X12_isClassType rfl (Nat.le_of_ble_eq_true rfl) dX12_fits_48 ⟨Nat.le_of_ble_eq_true rfl, Nat.le_of_ble_eq_true rfl⟩ ⟨Nat.le_of_ble_eq_true rfl, Nat.le_of_ble_eq_true rfl⟩ (fun v36 u34 H locs hw35 hP hS => ?_)
                obtain ⟨r37, rfl, h38, h39, h40, h41⟩ := hw35
                refine W.widen (k := 0) (n := 0) (Nat.le_of_ble_eq_true rfl) (Nat.le_of_ble_eq_true rfl) ?_
                refine W.eq (g2 := F0 m 51 ls [.int (nI r37)]) rfl ?_
                refine lv_if_eq (tgt := 88) hx hb dX12_fits_51 (by decide) (fun c42 => ?_) (fun c42 => ?_)
                · have n43 : r37 = 0 := (nI_eq (a := r37) (b := 0) (by omega) (by omega)).mp c42
                  have h44 : 1000 ≤ tx := Or.resolve_left (h41 (by omega)) (by omega)
                  refine lv_iload_n hx hb dX12_fits_88 rfl (lv_at hl 1 rfl) ?_
                  refine pc_SN (G := G) (As := [.int (nI sx)]) (rest := []) hx hb hml hown hq hE hX pX0_al hP hS hA hl.1 (s_isRow l G sx (by omega)) (gS pw_1788 pw_1789 pw_1523 pw_1780) hS_X12_isRow rfl (Nat.le_of_ble_eq_true rfl) dX12_fits_89 ⟨Nat.le_of_ble_eq_true rfl, Nat.le_of_ble_eq_true rfl⟩ ⟨Nat.le_of_ble_eq_true rfl, Nat.le_of_ble_eq_true rfl⟩ (fun v47 u45 H locs hw46 hP hS => ?_)
                  obtain ⟨r48, rfl, h49, h50, h51⟩ := hw46
                  refine W.widen (k := 0) (n := 0) (Nat.le_of_ble_eq_true rfl) (Nat.le_of_ble_eq_true rfl) ?_
                  refine W.eq (g2 := F0 m 92 ls [.int (nI r48)]) rfl ?_
                  refine lv_if_eq (tgt := 138) hx hb dX12_fits_92 (by decide) (fun c52 => ?_) (fun c52 => ?_)
                  · have n53 : r48 = 0 := (nI_eq (a := r48) (b := 0) (by omega) (by omega)).mp c52
                    refine lv_iconst (v := 0) hx hb dX12_fits_138 (by decide) ?_
                    have hP : va_P G.1 pCl (mW G h0 a F (updA B 31 da)) _ := hP
                    have hD : va_D A (mW G h0 a F (updA B 31 da)) := mW_D hD
                    exact W.zret (v := 0) hx hb hr (bit_nar (Or.inl rfl)) (fun t9 ht9 hW9 => ⟨⟨_, (), rfl, (congrArg (fun z => some (Value.int z)) (by first | exact (fit_v (by omega)).symm | exact (fit_e (by omega) (by omega) (by omega)).symm | exact (fit_n (by omega) (by omega) (by omega) (by omega)).symm | exact (fit_3 (by omega) (by omega)).symm | exact (fit_r1 (by omega) (by omega)).symm | exact (fit_r0 (by omega) (by omega) (by omega) (by omega)).symm | exact (fit_c (by omega) (by omega) (by omega) (by omega) (by omega)).symm | exact (fit_ro (by omega) (by omega) (by omega) (by omega)).symm)), by rw [ht9]; exact hP, hD⟩, hS.F ht9⟩) hS.2.2 dX12_fits_139
                  · have n54 : ¬ (r48 = 0) := fun h9 => c52 ((nI_eq (a := r48) (b := 0) (by omega) (by omega)).mpr h9)
                    refine lv_iload_n hx hb dX12_fits_95 rfl (lv_at hl 1 rfl) ?_
                    refine lv_sipush (v := 1000) hx hb dX12_fits_96 (by decide) ?_
                    refine lv_isub hx hb dX12_fits_99 ?_
                    refine lv_topi (fun x55 e56 => ?_)
                    obtain rfl : x55 = nI (sx - 1000) := e56.trans (nI_subN (a := 1000) (b := sx) (by omega))
                    refine pc_SN (G := G) (As := [.int (nI (sx - 1000))]) (rest := []) hx hb hml hown hq hE hX pX0_al hP hS hA hl.1 (s_isClassType l G (sx - 1000) (by omega)) (gS pw_1786 pw_1787 pw_1523 pw_1781) hS_X12_isClassType rfl (Nat.le_of_ble_eq_true rfl) dX12_fits_100 ⟨Nat.le_of_ble_eq_true rfl, Nat.le_of_ble_eq_true rfl⟩ ⟨Nat.le_of_ble_eq_true rfl, Nat.le_of_ble_eq_true rfl⟩ (fun v59 u57 H locs hw58 hP hS => ?_)
                    obtain ⟨r60, rfl, h61, h62, h63, h64⟩ := hw58
                    refine W.widen (k := 0) (n := 0) (Nat.le_of_ble_eq_true rfl) (Nat.le_of_ble_eq_true rfl) ?_
                    refine W.eq (g2 := F0 m 103 ls [.int (nI r60)]) rfl ?_
                    refine lv_if_eq (tgt := 138) hx hb dX12_fits_103 (by decide) (fun c65 => ?_) (fun c65 => ?_)
                    · have n66 : r60 = 0 := (nI_eq (a := r60) (b := 0) (by omega) (by omega)).mp c65
                      have h67 : sx < 1010 ∨ 2000 ≤ sx := Or.elim (h64 (by omega)) (fun z => by omega) (fun z => by omega)
                      refine lv_iconst (v := 0) hx hb dX12_fits_138 (by decide) ?_
                      have hP : va_P G.1 pCl (mW G h0 a F (updA B 31 da)) _ := hP
                      have hD : va_D A (mW G h0 a F (updA B 31 da)) := mW_D hD
                      exact W.zret (v := 0) hx hb hr (bit_nar (Or.inl rfl)) (fun t9 ht9 hW9 => ⟨⟨_, (), rfl, (congrArg (fun z => some (Value.int z)) (by first | exact (fit_v (by omega)).symm | exact (fit_e (by omega) (by omega) (by omega)).symm | exact (fit_n (by omega) (by omega) (by omega) (by omega)).symm | exact (fit_3 (by omega) (by omega)).symm | exact (fit_r1 (by omega) (by omega)).symm | exact (fit_r0 (by omega) (by omega) (by omega) (by omega)).symm | exact (fit_c (by omega) (by omega) (by omega) (by omega) (by omega)).symm | exact (fit_ro (by omega) (by omega) (by omega) (by omega)).symm)), by rw [ht9]; exact hP, hD⟩, hS.F ht9⟩) hS.2.2 dX12_fits_139
                    · have n68 : ¬ (r60 = 0) := fun h9 => c65 ((nI_eq (a := r60) (b := 0) (by omega) (by omega)).mpr h9)
                      have h69 : sx < 1010 + dc := TyC.row hs (by omega) (by omega) hdc
                      refine lv_iload_n hx hb dX12_fits_106 rfl (lv_at hl 2 rfl) ?_
                      refine lv_sipush (v := 1000) hx hb dX12_fits_107 (by decide) ?_
                      refine lv_isub hx hb dX12_fits_110 ?_
                      refine lv_topi (fun x70 e71 => ?_)
                      obtain rfl : x70 = nI (tx - 1000) := e71.trans (nI_subN (a := 1000) (b := tx) (by omega))
                      refine pc_SN (G := G) (As := [.int (nI (tx - 1000))]) (rest := []) hx hb hml hown hq hE hX pX0_al hP hS hA hl.1 (s_isClassType l G (tx - 1000) (by omega)) (gS pw_1786 pw_1787 pw_1523 pw_1781) hS_X12_isClassType rfl (Nat.le_of_ble_eq_true rfl) dX12_fits_111 ⟨Nat.le_of_ble_eq_true rfl, Nat.le_of_ble_eq_true rfl⟩ ⟨Nat.le_of_ble_eq_true rfl, Nat.le_of_ble_eq_true rfl⟩ (fun v74 u72 H locs hw73 hP hS => ?_)
                      obtain ⟨r75, rfl, h76, h77, h78, h79⟩ := hw73
                      refine W.widen (k := 0) (n := 0) (Nat.le_of_ble_eq_true rfl) (Nat.le_of_ble_eq_true rfl) ?_
                      refine W.eq (g2 := F0 m 114 ls [.int (nI r75)]) rfl ?_
                      refine lv_if_eq (tgt := 138) hx hb dX12_fits_114 (by decide) (fun c80 => ?_) (fun c80 => ?_)
                      · have n81 : r75 = 0 := (nI_eq (a := r75) (b := 0) (by omega) (by omega)).mp c80
                        have h82 : tx < 1010 ∨ 2000 ≤ tx := Or.elim (h79 (by omega)) (fun z => by omega) (fun z => by omega)
                        refine lv_iconst (v := 0) hx hb dX12_fits_138 (by decide) ?_
                        have hP : va_P G.1 pCl (mW G h0 a F (updA B 31 da)) _ := hP
                        have hD : va_D A (mW G h0 a F (updA B 31 da)) := mW_D hD
                        exact W.zret (v := 0) hx hb hr (bit_nar (Or.inl rfl)) (fun t9 ht9 hW9 => ⟨⟨_, (), rfl, (congrArg (fun z => some (Value.int z)) (by first | exact (fit_v (by omega)).symm | exact (fit_e (by omega) (by omega) (by omega)).symm | exact (fit_n (by omega) (by omega) (by omega) (by omega)).symm | exact (fit_3 (by omega) (by omega)).symm | exact (fit_r1 (by omega) (by omega)).symm | exact (fit_r0 (by omega) (by omega) (by omega) (by omega)).symm | exact (fit_c (by omega) (by omega) (by omega) (by omega) (by omega)).symm | exact (fit_ro (by omega) (by omega) (by omega) (by omega)).symm)), by rw [ht9]; exact hP, hD⟩, hS.F ht9⟩) hS.2.2 dX12_fits_139
                      · have n83 : ¬ (r75 = 0) := fun h9 => c80 ((nI_eq (a := r75) (b := 0) (by omega) (by omega)).mpr h9)
                        have h84 : tx < 1010 + dc := TyC.row ht (by omega) (by omega) hdc
                        refine lv_aload_n hx hb dX12_fits_117 rfl (lv_at hl 0 rfl) ?_
                        refine lv_iload_n hx hb dX12_fits_118 rfl (lv_at hl 1 rfl) ?_
                        refine lv_sipush (v := 1000) hx hb dX12_fits_119 (by decide) ?_
                        refine lv_isub hx hb dX12_fits_122 ?_
                        refine lv_topi (fun x85 e86 => ?_)
                        obtain rfl : x85 = nI (sx - 1000) := e86.trans (nI_subN (a := 1000) (b := sx) (by omega))
                        refine lv_iload_n hx hb dX12_fits_123 rfl (lv_at hl 2 rfl) ?_
                        refine lv_sipush (v := 1000) hx hb dX12_fits_124 (by decide) ?_
                        refine lv_isub hx hb dX12_fits_127 ?_
                        refine lv_topi (fun x87 e88 => ?_)
                        obtain rfl : x87 = nI (tx - 1000) := e88.trans (nI_subN (a := 1000) (b := tx) (by omega))
                        have hP : va_P G.1 pCl (mW G h0 a F (updA (updA B 31 da) 31 da)) _ := hP
                        have hD : va_D A (mW G h0 a F (updA (updA B 31 da) 31 da)) := mW_D hD
                        refine pc_V0 (G := G) (As := [.int (nI (sx - 1000)), .int (nI (tx - 1000))]) (rest := []) hx hb hml hown hq hE hX pX0_al hP hD hS hA hl.1 (R_fits0 l G h0 a F (updA B 31 da) (sx - 1000) (tx - 1000) dc da (by omega) (by omega) (by omega) hbi) (gV pw_1790 pw_1791 pw_1792 pw_1523 pw_1782) hV_X12_fits 0 9 rfl rfl rfl rfl (Nat.le_of_ble_eq_true rfl) dX12_fits_128 ⟨Nat.le_of_ble_eq_true rfl, Nat.le_of_ble_eq_true rfl⟩ ⟨Nat.le_of_ble_eq_true rfl, Nat.le_of_ble_eq_true rfl⟩ (fun v91 u89 H locs hw90 hP hD hS => ?_)
                        obtain rfl : v91 = some (.int (fitF da (sx - 1000) (tx - 1000))) := hw90
                        have hP : va_P G.1 pCl (mW G h0 a F (updA B 31 da)) _ := hP
                        have hD : va_D A (mW G h0 a F (updA B 31 da)) := mW_D hD
                        refine W.widen (k := 0) (n := 0) (Nat.le_of_ble_eq_true rfl) (Nat.le_of_ble_eq_true rfl) ?_
                        refine W.eq (g2 := F0 m 131 ls [.int (fitF da (sx - 1000) (tx - 1000))]) rfl ?_
                        refine lv_if_eq (tgt := 138) hx hb dX12_fits_131 (by decide) (fun c92 => ?_) (fun c92 => ?_)
                        · refine lv_iconst (v := 0) hx hb dX12_fits_138 (by decide) ?_
                          have hP : va_P G.1 pCl (mW G h0 a F (updA B 31 da)) _ := hP
                          have hD : va_D A (mW G h0 a F (updA B 31 da)) := mW_D hD
                          exact W.zret (v := 0) hx hb hr (bit_nar (Or.inl rfl)) (fun t9 ht9 hW9 => ⟨⟨_, (), rfl, (congrArg (fun z => some (Value.int z)) (by first | exact ((fit_rrE (by omega) (by omega) (by omega) (by omega) (by omega)).trans c92).symm | exact (fit_v (by omega)).symm | exact (fit_e (by omega) (by omega) (by omega)).symm | exact (fit_n (by omega) (by omega) (by omega) (by omega)).symm | exact (fit_3 (by omega) (by omega)).symm | exact (fit_r1 (by omega) (by omega)).symm | exact (fit_r0 (by omega) (by omega) (by omega) (by omega)).symm | exact (fit_c (by omega) (by omega) (by omega) (by omega) (by omega)).symm | exact (fit_ro (by omega) (by omega) (by omega) (by omega)).symm)), by rw [ht9]; exact hP, hD⟩, hS.F ht9⟩) hS.2.2 dX12_fits_139
                        · refine lv_iconst (v := 1) hx hb dX12_fits_134 (by decide) ?_
                          refine lv_goto (tgt := 139) hx hb dX12_fits_135 (by decide) ?_
                          have hP : va_P G.1 pCl (mW G h0 a F (updA B 31 da)) _ := hP
                          have hD : va_D A (mW G h0 a F (updA B 31 da)) := mW_D hD
                          exact W.zret (v := 1) hx hb hr (bit_nar (Or.inr rfl)) (fun t9 ht9 hW9 => ⟨⟨_, (), rfl, (congrArg (fun z => some (Value.int z)) (by first | exact ((fit_rrE (by omega) (by omega) (by omega) (by omega) (by omega)).trans ((fit_bit hbi (by omega) (by omega) (by omega) (by omega)).resolve_left c92)).symm | exact (fit_v (by omega)).symm | exact (fit_e (by omega) (by omega) (by omega)).symm | exact (fit_n (by omega) (by omega) (by omega) (by omega)).symm | exact (fit_3 (by omega) (by omega)).symm | exact (fit_r1 (by omega) (by omega)).symm | exact (fit_r0 (by omega) (by omega) (by omega) (by omega)).symm | exact (fit_c (by omega) (by omega) (by omega) (by omega) (by omega)).symm | exact (fit_ro (by omega) (by omega) (by omega) (by omega)).symm)), by rw [ht9]; exact hP, hD⟩, hS.F ht9⟩) hS.2.2 dX12_fits_139
                · have n93 : ¬ (r37 = 0) := fun h9 => c42 ((nI_eq (a := r37) (b := 0) (by omega) (by omega)).mpr h9)
                  have h94 : tx < 10 + dc := TyC.cls ht (by omega) (by omega)
                  refine lv_iload_n hx hb dX12_fits_54 rfl (lv_at hl 1 rfl) ?_
                  refine pc_SN (G := G) (As := [.int (nI sx)]) (rest := []) hx hb hml hown hq hE hX pX0_al hP hS hA hl.1 (s_isRow l G sx (by omega)) (gS pw_1788 pw_1789 pw_1523 pw_1780) hS_X12_isRow rfl (Nat.le_of_ble_eq_true rfl) dX12_fits_55 ⟨Nat.le_of_ble_eq_true rfl, Nat.le_of_ble_eq_true rfl⟩ ⟨Nat.le_of_ble_eq_true rfl, Nat.le_of_ble_eq_true rfl⟩ (fun v97 u95 H locs hw96 hP hS => ?_)
                  obtain ⟨r98, rfl, h99, h100, h101⟩ := hw96
                  refine W.widen (k := 0) (n := 0) (Nat.le_of_ble_eq_true rfl) (Nat.le_of_ble_eq_true rfl) ?_
                  refine W.eq (g2 := F0 m 58 ls [.int (nI r98)]) rfl ?_
                  refine lv_if_eq (tgt := 75) hx hb dX12_fits_58 (by decide) (fun c102 => ?_) (fun c102 => ?_)
                  · have n103 : r98 = 0 := (nI_eq (a := r98) (b := 0) (by omega) (by omega)).mp c102
                    have h104 : sx < 10 + dc := TyC.cls hs (by omega) (by omega)
                    refine lv_aload_n hx hb dX12_fits_75 rfl (lv_at hl 0 rfl) ?_
                    refine lv_iload_n hx hb dX12_fits_76 rfl (lv_at hl 2 rfl) ?_
                    refine lv_bipush (v := 10) hx hb dX12_fits_77 (by decide) ?_
                    refine lv_isub hx hb dX12_fits_79 ?_
                    refine lv_topi (fun x105 e106 => ?_)
                    obtain rfl : x105 = nI (tx - 10) := e106.trans (nI_subN (a := 10) (b := tx) (by omega))
                    refine lv_iload_n hx hb dX12_fits_80 rfl (lv_at hl 1 rfl) ?_
                    refine lv_bipush (v := 10) hx hb dX12_fits_81 (by decide) ?_
                    refine lv_isub hx hb dX12_fits_83 ?_
                    refine lv_topi (fun x107 e108 => ?_)
                    obtain rfl : x107 = nI (sx - 10) := e108.trans (nI_subN (a := 10) (b := sx) (by omega))
                    have hP : va_P G.1 pCl (mW G h0 a F (updA (updA B 31 da) 31 da)) _ := hP
                    have hD : va_D A (mW G h0 a F (updA (updA B 31 da) 31 da)) := mW_D hD
                    refine pc_V0 (G := G) (As := [.int (nI (tx - 10)), .int (nI (sx - 10))]) (rest := []) hx hb hml hown hq hE hX pX0_al hP hD hS hA hl.1 (R_isAbove l G h0 a F (updA B 31 da) (tx - 10) (sx - 10) da (by omega) hbi) (gV pw_1772 pw_1773 pw_1774 pw_1523 pw_1760) hV_X12_isAbove 0 9 rfl rfl rfl rfl (Nat.le_of_ble_eq_true rfl) dX12_fits_84 ⟨Nat.le_of_ble_eq_true rfl, Nat.le_of_ble_eq_true rfl⟩ ⟨Nat.le_of_ble_eq_true rfl, Nat.le_of_ble_eq_true rfl⟩ (fun v111 u109 H locs hw110 hP hD hS => ?_)
                    obtain rfl : v111 = some (.int (da (40 * (tx - 10) + (sx - 10)))) := hw110
                    have hP : va_P G.1 pCl (mW G h0 a F (updA B 31 da)) _ := hP
                    have hD : va_D A (mW G h0 a F (updA B 31 da)) := mW_D hD
                    refine W.widen (k := 0) (n := 0) (Nat.le_of_ble_eq_true rfl) (Nat.le_of_ble_eq_true rfl) ?_
                    refine W.eq (g2 := F0 m 87 ls [.int (da (40 * (tx - 10) + (sx - 10)))]) rfl ?_
                    have hP : va_P G.1 pCl (mW G h0 a F (updA B 31 da)) _ := hP
                    have hD : va_D A (mW G h0 a F (updA B 31 da)) := mW_D hD
                    exact W.zret (v := (da (40 * (tx - 10) + (sx - 10)))) hx hb hr (bit_nar (hbi _ (by omega))) (fun t9 ht9 hW9 => ⟨⟨_, (), rfl, (congrArg (fun z => some (Value.int z)) (by first | exact (fit_v (by omega)).symm | exact (fit_e (by omega) (by omega) (by omega)).symm | exact (fit_n (by omega) (by omega) (by omega) (by omega)).symm | exact (fit_3 (by omega) (by omega)).symm | exact (fit_r1 (by omega) (by omega)).symm | exact (fit_r0 (by omega) (by omega) (by omega) (by omega)).symm | exact (fit_c (by omega) (by omega) (by omega) (by omega) (by omega)).symm | exact (fit_ro (by omega) (by omega) (by omega) (by omega)).symm)), by rw [ht9]; exact hP, hD⟩, hS.F ht9⟩) hS.2.2 dX12_fits_87
                  · have n112 : ¬ (r98 = 0) := fun h9 => c102 ((nI_eq (a := r98) (b := 0) (by omega) (by omega)).mpr h9)
                    refine lv_iload_n hx hb dX12_fits_61 rfl (lv_at hl 2 rfl) ?_
                    refine lv_bipush (v := 10) hx hb dX12_fits_62 (by decide) ?_
                    refine lv_icmp_ne (tgt := 71) hx hb dX12_fits_64 (by decide) (fun c113 => ?_) (fun c113 => ?_)
                    · have n114 : ¬ (tx = 10) := fun h9 => c113 ((nI_eq (a := tx) (b := 10) (by omega) (by omega)).mpr h9)
                      refine lv_iconst (v := 0) hx hb dX12_fits_71 (by decide) ?_
                      refine lv_goto (tgt := 87) hx hb dX12_fits_72 (by decide) ?_
                      have hP : va_P G.1 pCl (mW G h0 a F (updA B 31 da)) _ := hP
                      have hD : va_D A (mW G h0 a F (updA B 31 da)) := mW_D hD
                      exact W.zret (v := 0) hx hb hr (bit_nar (Or.inl rfl)) (fun t9 ht9 hW9 => ⟨⟨_, (), rfl, (congrArg (fun z => some (Value.int z)) (by first | exact (fit_v (by omega)).symm | exact (fit_e (by omega) (by omega) (by omega)).symm | exact (fit_n (by omega) (by omega) (by omega) (by omega)).symm | exact (fit_3 (by omega) (by omega)).symm | exact (fit_r1 (by omega) (by omega)).symm | exact (fit_r0 (by omega) (by omega) (by omega) (by omega)).symm | exact (fit_c (by omega) (by omega) (by omega) (by omega) (by omega)).symm | exact (fit_ro (by omega) (by omega) (by omega) (by omega)).symm)), by rw [ht9]; exact hP, hD⟩, hS.F ht9⟩) hS.2.2 dX12_fits_87
                    · have n115 : tx = 10 := (nI_eq (a := tx) (b := 10) (by omega) (by omega)).mp c113
                      refine lv_iconst (v := 1) hx hb dX12_fits_67 (by decide) ?_
                      refine lv_goto (tgt := 87) hx hb dX12_fits_68 (by decide) ?_
                      have hP : va_P G.1 pCl (mW G h0 a F (updA B 31 da)) _ := hP
                      have hD : va_D A (mW G h0 a F (updA B 31 da)) := mW_D hD
                      exact W.zret (v := 1) hx hb hr (bit_nar (Or.inr rfl)) (fun t9 ht9 hW9 => ⟨⟨_, (), rfl, (congrArg (fun z => some (Value.int z)) (by first | exact (fit_v (by omega)).symm | exact (fit_e (by omega) (by omega) (by omega)).symm | exact (fit_n (by omega) (by omega) (by omega) (by omega)).symm | exact (fit_3 (by omega) (by omega)).symm | exact (fit_r1 (by omega) (by omega)).symm | exact (fit_r0 (by omega) (by omega) (by omega) (by omega)).symm | exact (fit_c (by omega) (by omega) (by omega) (by omega) (by omega)).symm | exact (fit_ro (by omega) (by omega) (by omega) (by omega)).symm)), by rw [ht9]; exact hP, hD⟩, hS.F ht9⟩) hS.2.2 dX12_fits_87
              · have n116 : sx = 3 := (nI_eq (a := sx) (b := 3) (by omega) (by omega)).mp c31
                refine lv_iconst (v := 1) hx hb dX12_fits_45 (by decide) ?_
                have hP : va_P G.1 pCl (mW G h0 a F (updA B 31 da)) _ := hP
                have hD : va_D A (mW G h0 a F (updA B 31 da)) := mW_D hD
                exact W.zret (v := 1) hx hb hr (bit_nar (Or.inr rfl)) (fun t9 ht9 hW9 => ⟨⟨_, (), rfl, (congrArg (fun z => some (Value.int z)) (by first | exact (fit_v (by omega)).symm | exact (fit_e (by omega) (by omega) (by omega)).symm | exact (fit_n (by omega) (by omega) (by omega) (by omega)).symm | exact (fit_3 (by omega) (by omega)).symm | exact (fit_r1 (by omega) (by omega)).symm | exact (fit_r0 (by omega) (by omega) (by omega) (by omega)).symm | exact (fit_c (by omega) (by omega) (by omega) (by omega) (by omega)).symm | exact (fit_ro (by omega) (by omega) (by omega) (by omega)).symm)), by rw [ht9]; exact hP, hD⟩, hS.F ht9⟩) hS.2.2 dX12_fits_46
            · have n117 : tx = 3 := (nI_eq (a := tx) (b := 3) (by omega) (by omega)).mp c28
              refine lv_iconst (v := 0) hx hb dX12_fits_38 (by decide) ?_
              have hP : va_P G.1 pCl (mW G h0 a F (updA B 31 da)) _ := hP
              have hD : va_D A (mW G h0 a F (updA B 31 da)) := mW_D hD
              exact W.zret (v := 0) hx hb hr (bit_nar (Or.inl rfl)) (fun t9 ht9 hW9 => ⟨⟨_, (), rfl, (congrArg (fun z => some (Value.int z)) (by first | exact (fit_v (by omega)).symm | exact (fit_e (by omega) (by omega) (by omega)).symm | exact (fit_n (by omega) (by omega) (by omega) (by omega)).symm | exact (fit_3 (by omega) (by omega)).symm | exact (fit_r1 (by omega) (by omega)).symm | exact (fit_r0 (by omega) (by omega) (by omega) (by omega)).symm | exact (fit_c (by omega) (by omega) (by omega) (by omega) (by omega)).symm | exact (fit_ro (by omega) (by omega) (by omega) (by omega)).symm)), by rw [ht9]; exact hP, hD⟩, hS.F ht9⟩) hS.2.2 dX12_fits_39
      · have n118 : sx = tx := (nI_eq (a := sx) (b := tx) (by omega) (by omega)).mp c6
        refine lv_iconst (v := 1) hx hb dX12_fits_15 (by decide) ?_
        have hP : va_P G.1 pCl (mW G h0 a F (updA B 31 da)) _ := hP
        have hD : va_D A (mW G h0 a F (updA B 31 da)) := mW_D hD
        exact W.zret (v := 1) hx hb hr (bit_nar (Or.inr rfl)) (fun t9 ht9 hW9 => ⟨⟨_, (), rfl, (congrArg (fun z => some (Value.int z)) (by first | exact (fit_v (by omega)).symm | exact (fit_e (by omega) (by omega) (by omega)).symm | exact (fit_n (by omega) (by omega) (by omega) (by omega)).symm | exact (fit_3 (by omega) (by omega)).symm | exact (fit_r1 (by omega) (by omega)).symm | exact (fit_r0 (by omega) (by omega) (by omega) (by omega)).symm | exact (fit_c (by omega) (by omega) (by omega) (by omega) (by omega)).symm | exact (fit_ro (by omega) (by omega) (by omega) (by omega)).symm)), by rw [ht9]; exact hP, hD⟩, hS.F ht9⟩) hS.2.2 dX12_fits_16
    · have n119 : tx = 0 := (nI_eq (a := tx) (b := 0) (by omega) (by omega)).mp c4
      refine lv_iconst (v := 0) hx hb dX12_fits_8 (by decide) ?_
      have hP : va_P G.1 pCl (mW G h0 a F (updA B 31 da)) _ := hP
      have hD : va_D A (mW G h0 a F (updA B 31 da)) := mW_D hD
      exact W.zret (v := 0) hx hb hr (bit_nar (Or.inl rfl)) (fun t9 ht9 hW9 => ⟨⟨_, (), rfl, (congrArg (fun z => some (Value.int z)) (by first | exact (fit_v (by omega)).symm | exact (fit_e (by omega) (by omega) (by omega)).symm | exact (fit_n (by omega) (by omega) (by omega) (by omega)).symm | exact (fit_3 (by omega) (by omega)).symm | exact (fit_r1 (by omega) (by omega)).symm | exact (fit_r0 (by omega) (by omega) (by omega) (by omega)).symm | exact (fit_c (by omega) (by omega) (by omega) (by omega) (by omega)).symm | exact (fit_ro (by omega) (by omega) (by omega) (by omega)).symm)), by rw [ht9]; exact hP, hD⟩, hS.F ht9⟩) hS.2.2 dX12_fits_9
