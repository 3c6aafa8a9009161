theorem dX12_input_0 : decode cX12_input 0 = .ok (.aload_n 0, 1) := by decide +kernel
theorem dX12_input_1 : decode cX12_input 1 = .ok (.iconst 0, 1) := by decide +kernel
theorem dX12_input_2 : decode cX12_input 2 = .ok (.putfield 252, 3) := by decide +kernel
theorem dX12_input_5 : decode cX12_input 5 = .ok (.aload_n 0, 1) := by decide +kernel
theorem dX12_input_6 : decode cX12_input 6 = .ok (.getfield 689, 3) := by decide +kernel
theorem dX12_input_9 : decode cX12_input 9 = .ok (.sipush 200, 3) := by decide +kernel
theorem dX12_input_12 : decode cX12_input 12 = .ok (.if_icmp .ne 5, 3) := by decide +kernel
theorem dX12_input_17 : decode cX12_input 17 = .ok (.aload_n 0, 1) := by decide +kernel
theorem dX12_input_18 : decode cX12_input 18 = .ok (.getfield 162, 3) := by decide +kernel
theorem dX12_input_21 : decode cX12_input 21 = .ok (.aload_n 0, 1) := by decide +kernel
theorem dX12_input_22 : decode cX12_input 22 = .ok (.getfield 689, 3) := by decide +kernel
theorem dX12_input_25 : decode cX12_input 25 = .ok (.iload_n 1, 1) := by decide +kernel
theorem dX12_input_26 : decode cX12_input 26 = .ok (.iastore, 1) := by decide +kernel
theorem dX12_input_27 : decode cX12_input 27 = .ok (.aload_n 0, 1) := by decide +kernel
theorem dX12_input_28 : decode cX12_input 28 = .ok (.dup, 1) := by decide +kernel
theorem dX12_input_29 : decode cX12_input 29 = .ok (.getfield 689, 3) := by decide +kernel
theorem dX12_input_32 : decode cX12_input 32 = .ok (.iconst 1, 1) := by decide +kernel
theorem dX12_input_33 : decode cX12_input 33 = .ok (.iadd, 1) := by decide +kernel
theorem dX12_input_34 : decode cX12_input 34 = .ok (.putfield 689, 3) := by decide +kernel
theorem dX12_input_37 : decode cX12_input 37 = .ok (.aload_n 0, 1) := by decide +kernel
theorem dX12_input_38 : decode cX12_input 38 = .ok (.getfield 689, 3) := by decide +kernel
theorem dX12_input_41 : decode cX12_input 41 = .ok (.ireturn, 1) := by decide +kernel
theorem dX12_input_15 : decode cX12_input 15 = .ok (.iconst (-1), 1) := by decide +kernel
theorem dX12_input_16 : decode cX12_input 16 = .ok (.ireturn, 1) := by decide +kernel
set_option maxHeartbeats 2000000 in
set_option maxRecDepth 100000 in
/-- input(v) -/
theorem R_input (l : Launch) (G : pT) (h0 : Nat) (a : Nat → Nat) (F : Nat → Int32) (B : Nat → Nat → Int32) (x : Int32) (im : Nat) (him : im ≤ 200) : PM l G pX0 yX12_input cX12_input 2 (some .int) ({ frames := 2, cells := 0, slots := 0, locals := 60 }) [.ref h0, .int x] (mW G h0 a (upd F 85 (nI im)) B) (fun (v : Option Value) (u : Nat × (Nat → Int32) × Int32) => v = some (.int u.2.2) ∧ (u.1 ≤ 200) ∧ (InQ im u.1 u.2.2)) (fun u => (mW G h0 a (upd (upd F 0 0) 85 (nI u.1)) (updA B 50 u.2.1))) := by
  intro sz
  refine Met.ofW (cc := cX12_input) (maxL := 2) (ret := (some .int)) (by decide) rfl ?_
  intro p e s m args below meth c s₁ B9 hml hv
  obtain ⟨rfl, hsz, hP, hD0, hE, hX⟩ := hv
  have hx := B9.exec
  have hb := B9.bytes
  have hr := B9.returns
  have hts := atoms_spec (ws := Cond.code yX12_input cX12_input 2 (some .int) :: pw) B9.pre
  have hq : ∀ w ∈ pw, w.before _ s = true := fun w h => hts w (List.mem_cons_of_mem _ h)
  have hown : s.vm.findClass RX12 = some m.cls := findClass_of_methodNamed B9.named
  have hlocks := B9.notSynchronized
  subst hsz
  have hD := hD0.self (sz := s.heap.size)
  have hA : ∀ q : Nat, s.heap.size ≤ q → va_A (mW G h0 a (upd F 85 (nI im)) B) s.heap.size q := fun q h => Or.inr h
  have hP : va_P G.1 pCl (mW G h0 a (upd F 85 (nI im)) B) s.heap := hP
  generalize va_A (mW G h0 a (upd F 85 (nI im)) B) s.heap.size = A at hD hE hA ⊢
  have hS : va_S A s.heap s.heap [] := va_S.rf
  have hl := lv_entry ([.ref h0, .int x]) (n := 2) (Nat.le_of_ble_eq_true rfl)
  rw [lg_entry_eq]
  generalize (lg_sl ([.ref h0, .int x]) ++ List.replicate (2 - (lg_sl ([.ref h0, .int x])).length) Slot.unset).toArray = ls at hl ⊢
  have hl : lv_has ls 2 [(0, .ref h0), (1, .int x)] := hl
  refine lv_aload_n hx hb dX12_input_0 rfl (lv_at hl 0 rfl) ?_
  refine lv_iconst (v := 0) hx hb dX12_input_1 (by decide) ?_
  refine r_put (v := 0) (ty := .int) hx hb hown hq hE hP hD hS 0 252 tFX12_0 (by decide) pw_1515 (by decide) rfl rfl (ms_0 a _ _) dX12_input_2 (fun H locs hP hD hS => ?_)
  refine lv_aload_n hx hb dX12_input_5 rfl (lv_at hl 0 rfl) ?_
  refine r_get (v := .int (nI im)) hx hb hown hq hE hP 85 689 tFX12_85 (by decide) pw_1961 rfl dX12_input_6 ?_
  refine lv_sipush (v := 200) hx hb dX12_input_9 (by decide) ?_
  refine lv_icmp_ne (tgt := 17) hx hb dX12_input_12 (by decide) (fun c1 => ?_) (fun c1 => ?_)
  · have n2 : ¬ (im = 200) := fun h9 => c1 ((nI_eq (a := im) (b := 200) (by omega) (by omega)).mpr h9)
    refine lv_aload_n hx hb dX12_input_17 rfl (lv_at hl 0 rfl) ?_
    refine r_get (v := .ref (a 50)) hx hb hown hq hE hP 84 162 tFX12_84 (by decide) pw_1481 rfl dX12_input_18 ?_
    refine lv_aload_n hx hb dX12_input_21 rfl (lv_at hl 0 rfl) ?_
    refine r_get (v := .int (nI im)) hx hb hown hq hE hP 85 689 tFX12_85 (by decide) pw_1961 rfl dX12_input_22 ?_
    refine lv_iload_n hx hb dX12_input_25 rfl (lv_at hl 1 rfl) ?_
    refine r_sti (f := (B 50)) (j := im) hx hb hE hP hD hS 50 (ma_50 G a _) rfl (mas_50 G a _) (by omega) (by decide) dX12_input_26 (fun H locs hP hD hS => ?_)
    refine lv_aload_n hx hb dX12_input_27 rfl (lv_at hl 0 rfl) ?_
    refine lv_dup hx hb dX12_input_28 rfl ?_
    refine r_get (v := .int (nI im)) hx hb hown hq hE hP 85 689 tFX12_85 (by decide) pw_1961 rfl dX12_input_29 ?_
    refine lv_iconst (v := 1) hx hb dX12_input_32 (by decide) ?_
    refine lv_iadd hx hb dX12_input_33 ?_
    refine lv_topi (fun x3 e4 => ?_)
    obtain rfl : x3 = nI (im + 1) := e4.trans (nI_add (im) (1))
    refine r_put (v := (nI (im + 1))) (ty := .int) hx hb hown hq hE hP hD hS 85 689 tFX12_85 (by decide) pw_1961 (by decide) rfl rfl (ms_85 a _ _) dX12_input_34 (fun H locs hP hD hS => ?_)
    refine lv_aload_n hx hb dX12_input_37 rfl (lv_at hl 0 rfl) ?_
    refine r_get (v := .int (nI (im + 1))) hx hb hown hq hE hP 85 689 tFX12_85 (by decide) pw_1961 rfl dX12_input_38 ?_
    have hz5 : (im + 1) ≤ 200 := (by omega)
    have hz6 : InQ im (im + 1) (nI (im + 1)) := (Or.inl ⟨by omega, rfl, rfl⟩)
    have hP : va_P G.1 pCl (mW G h0 a (upd (upd F 0 0) 85 (nI (im + 1))) (updA B 50 (upd (B 50) im x))) _ := mW_to (F := F) (l1 := [(85, (nI im)), (0, 0), (85, (nI (im + 1)))]) (l2 := [(0, 0), (85, (nI (im + 1)))]) (V := [(nI (im + 1)), 0, (nI (im + 1)), 0, (nI (im + 1))]) rfl rfl rfl hP
    have hD : va_D A (mW G h0 a (upd (upd F 0 0) 85 (nI (im + 1))) (updA B 50 (upd (B 50) im x))) := mW_D hD
    exact W.iret (v := (nI (im + 1))) hx hb hr (fun t9 ht9 hW9 => ⟨⟨_, ((im + 1), (upd (B 50) im x), (nI (im + 1))), rfl, ⟨rfl, hz5, hz6⟩, by rw [ht9]; exact hP, hD⟩, hS.F ht9⟩) hS.2.2 dX12_input_41
  · have n7 : im = 200 := (nI_eq (a := im) (b := 200) (by omega) (by omega)).mp c1
    refine lv_iconst (v := (-1)) hx hb dX12_input_15 (by decide) ?_
    have hz8 : im ≤ 200 := (by omega)
    have hz9 : InQ im im ((-1) : Int32) := (Or.inr ⟨by omega, rfl, rfl⟩)
    have hP : va_P G.1 pCl (mW G h0 a (upd (upd F 0 0) 85 (nI im)) (updA B 50 (B 50))) _ := mW_to (F := F) (l1 := [(85, (nI im)), (0, 0)]) (l2 := [(0, 0), (85, (nI im))]) (V := [(nI im), 0, 0, (nI im)]) rfl rfl (show B = (updA B 50 (B 50)) from updsA_eq2 (F := B) (l1 := []) (l2 := [(50, (B 50))]) (V := [(B 50)]) rfl rfl) hP
    have hD : va_D A (mW G h0 a (upd (upd F 0 0) 85 (nI im)) (updA B 50 (B 50))) := mW_D hD
    exact W.iret (v := (-1)) hx hb hr (fun t9 ht9 hW9 => ⟨⟨_, (im, (B 50), ((-1) : Int32)), rfl, ⟨rfl, hz8, hz9⟩, by rw [ht9]; exact hP, hD⟩, hS.F ht9⟩) hS.2.2 dX12_input_16
theorem dX12_forget_0 : decode cX12_forget 0 = .ok (.aload_n 0, 1) := by decide +kernel
theorem dX12_forget_1 : decode cX12_forget 1 = .ok (.iconst 0, 1) := by decide +kernel
theorem dX12_forget_2 : decode cX12_forget 2 = .ok (.putfield 252, 3) := by decide +kernel
theorem dX12_forget_5 : decode cX12_forget 5 = .ok (.aload_n 0, 1) := by decide +kernel
theorem dX12_forget_6 : decode cX12_forget 6 = .ok (.iconst 0, 1) := by decide +kernel
theorem dX12_forget_7 : decode cX12_forget 7 = .ok (.putfield 689, 3) := by decide +kernel
theorem dX12_forget_10 : decode cX12_forget 10 = .ok (.return_, 1) := by decide +kernel
set_option maxHeartbeats 2000000 in
set_option maxRecDepth 100000 in
/-- forget() -/
theorem R_forget (l : Launch) (G : pT) (h0 : Nat) (a : Nat → Nat) (F : Nat → Int32) (B : Nat → Nat → Int32) : PM l G pX0 yX12_forget cX12_forget 1 none ({ frames := 2, cells := 0, slots := 0, locals := 60 }) [.ref h0] (mW G h0 a F B) (fun (v : Option Value) (u : Unit) => v = none) (fun u => (mW G h0 a (upd (upd F 0 0) 85 0) B)) := by
  intro sz
  refine Met.ofW (cc := cX12_forget) (maxL := 1) (ret := none) (by decide) rfl ?_
  intro p e s m args below meth c s₁ B9 hml hv
  obtain ⟨rfl, hsz, hP, hD0, hE, hX⟩ := hv
  have hx := B9.exec
  have hb := B9.bytes
  have hr := B9.returns
  have hts := atoms_spec (ws := Cond.code yX12_forget cX12_forget 1 none :: pw) B9.pre
  have hq : ∀ w ∈ pw, w.before _ s = true := fun w h => hts w (List.mem_cons_of_mem _ h)
  have hown : s.vm.findClass RX12 = some m.cls := findClass_of_methodNamed B9.named
  have hlocks := B9.notSynchronized
  subst hsz
  have hD := hD0.self (sz := s.heap.size)
  have hA : ∀ q : Nat, s.heap.size ≤ q → va_A (mW G h0 a F B) s.heap.size q := fun q h => Or.inr h
  have hP : va_P G.1 pCl (mW G h0 a F B) s.heap := hP
  generalize va_A (mW G h0 a F B) s.heap.size = A at hD hE hA ⊢
  have hS : va_S A s.heap s.heap [] := va_S.rf
  have hl := lv_entry ([.ref h0]) (n := 1) (Nat.le_of_ble_eq_true rfl)
  rw [lg_entry_eq]
  generalize (lg_sl ([.ref h0]) ++ List.replicate (1 - (lg_sl ([.ref h0])).length) Slot.unset).toArray = ls at hl ⊢
  have hl : lv_has ls 1 [(0, .ref h0)] := hl
  refine lv_aload_n hx hb dX12_forget_0 rfl (lv_at hl 0 rfl) ?_
  refine lv_iconst (v := 0) hx hb dX12_forget_1 (by decide) ?_
  refine r_put (v := 0) (ty := .int) hx hb hown hq hE hP hD hS 0 252 tFX12_0 (by decide) pw_1515 (by decide) rfl rfl (ms_0 a _ _) dX12_forget_2 (fun H locs hP hD hS => ?_)
  refine lv_aload_n hx hb dX12_forget_5 rfl (lv_at hl 0 rfl) ?_
  refine lv_iconst (v := 0) hx hb dX12_forget_6 (by decide) ?_
  refine r_put (v := 0) (ty := .int) hx hb hown hq hE hP hD hS 85 689 tFX12_85 (by decide) pw_1961 (by decide) rfl rfl (ms_85 a _ _) dX12_forget_7 (fun H locs hP hD hS => ?_)
  have hP : va_P G.1 pCl (mW G h0 a (upd (upd F 0 0) 85 0) B) _ := hP
  have hD : va_D A (mW G h0 a (upd (upd F 0 0) 85 0) B) := mW_D hD
  exact W.vret hx hb hr (fun t9 ht9 hW9 => ⟨⟨_, (), rfl, rfl, by rw [ht9]; exact hP, hD⟩, hS.F ht9⟩) hS.2.2 dX12_forget_10
theorem dX12_result_0 : decode cX12_result 0 = .ok (.aload_n 0, 1) := by decide +kernel
theorem dX12_result_1 : decode cX12_result 1 = .ok (.iconst 0, 1) := by decide +kernel
theorem dX12_result_2 : decode cX12_result 2 = .ok (.putfield 252, 3) := by decide +kernel
theorem dX12_result_5 : decode cX12_result 5 = .ok (.aload_n 0, 1) := by decide +kernel
theorem dX12_result_6 : decode cX12_result 6 = .ok (.getfield 233, 3) := by decide +kernel
theorem dX12_result_9 : decode cX12_result 9 = .ok (.ifCond .ne 10, 3) := by decide +kernel
theorem dX12_result_19 : decode cX12_result 19 = .ok (.iconst 0, 1) := by decide +kernel
theorem dX12_result_20 : decode cX12_result 20 = .ok (.ireturn, 1) := by decide +kernel
theorem dX12_result_12 : decode cX12_result 12 = .ok (.aload_n 0, 1) := by decide +kernel
theorem dX12_result_13 : decode cX12_result 13 = .ok (.getfield 763, 3) := by decide +kernel
theorem dX12_result_16 : decode cX12_result 16 = .ok (.goto 4, 3) := by decide +kernel
set_option maxHeartbeats 2000000 in
set_option maxRecDepth 100000 in
/-- result() -/
theorem R_result (l : Launch) (G : pT) (h0 : Nat) (a : Nat → Nat) (F : Nat → Int32) (B : Nat → Nat → Int32) : PM l G pX0 yX12_result cX12_result 1 (some .int) ({ frames := 2, cells := 0, slots := 0, locals := 60 }) [.ref h0] (mW G h0 a F B) (fun (v : Option Value) (u : Int32) => v = some (.int u)) (fun u => (mW G h0 a (upd F 0 0) B)) := by
  intro sz
  refine Met.ofW (cc := cX12_result) (maxL := 1) (ret := (some .int)) (by decide) rfl ?_
  intro p e s m args below meth c s₁ B9 hml hv
  obtain ⟨rfl, hsz, hP, hD0, hE, hX⟩ := hv
  have hx := B9.exec
  have hb := B9.bytes
  have hr := B9.returns
  have hts := atoms_spec (ws := Cond.code yX12_result cX12_result 1 (some .int) :: pw) B9.pre
  have hq : ∀ w ∈ pw, w.before _ s = true := fun w h => hts w (List.mem_cons_of_mem _ h)
  have hown : s.vm.findClass RX12 = some m.cls := findClass_of_methodNamed B9.named
  have hlocks := B9.notSynchronized
  subst hsz
  have hD := hD0.self (sz := s.heap.size)
  have hA : ∀ q : Nat, s.heap.size ≤ q → va_A (mW G h0 a F B) s.heap.size q := fun q h => Or.inr h
  have hP : va_P G.1 pCl (mW G h0 a F B) s.heap := hP
  generalize va_A (mW G h0 a F B) s.heap.size = A at hD hE hA ⊢
  have hS : va_S A s.heap s.heap [] := va_S.rf
  have hl := lv_entry ([.ref h0]) (n := 1) (Nat.le_of_ble_eq_true rfl)
  rw [lg_entry_eq]
  generalize (lg_sl ([.ref h0]) ++ List.replicate (1 - (lg_sl ([.ref h0])).length) Slot.unset).toArray = ls at hl ⊢
  have hl : lv_has ls 1 [(0, .ref h0)] := hl
  refine lv_aload_n hx hb dX12_result_0 rfl (lv_at hl 0 rfl) ?_
  refine lv_iconst (v := 0) hx hb dX12_result_1 (by decide) ?_
  refine r_put (v := 0) (ty := .int) hx hb hown hq hE hP hD hS 0 252 tFX12_0 (by decide) pw_1515 (by decide) rfl rfl (ms_0 a _ _) dX12_result_2 (fun H locs hP hD hS => ?_)
  refine lv_aload_n hx hb dX12_result_5 rfl (lv_at hl 0 rfl) ?_
  refine r_get (v := .int (F 116)) hx hb hown hq hE hP 116 233 tFX12_116 (by decide) pw_1506 rfl dX12_result_6 ?_
  refine lv_if_ne (tgt := 19) hx hb dX12_result_9 (by decide) (fun c1 => ?_) (fun c1 => ?_)
  · refine lv_iconst (v := 0) hx hb dX12_result_19 (by decide) ?_
    have hP : va_P G.1 pCl (mW G h0 a (upd F 0 0) B) _ := hP
    have hD : va_D A (mW G h0 a (upd F 0 0) B) := mW_D hD
    exact W.iret (v := 0) hx hb hr (fun t9 ht9 hW9 => ⟨⟨_, (0 : Int32), rfl, rfl, by rw [ht9]; exact hP, hD⟩, hS.F ht9⟩) hS.2.2 dX12_result_20
  · refine lv_aload_n hx hb dX12_result_12 rfl (lv_at hl 0 rfl) ?_
    refine r_get (v := .int (F 118)) hx hb hown hq hE hP 118 763 tFX12_118 (by decide) pw_2022 rfl dX12_result_13 ?_
    refine lv_goto (tgt := 20) hx hb dX12_result_16 (by decide) ?_
    have hP : va_P G.1 pCl (mW G h0 a (upd F 0 0) B) _ := hP
    have hD : va_D A (mW G h0 a (upd F 0 0) B) := mW_D hD
    exact W.iret (v := (F 118)) hx hb hr (fun t9 ht9 hW9 => ⟨⟨_, (F 118), rfl, rfl, by rw [ht9]; exact hP, hD⟩, hS.F ht9⟩) hS.2.2 dX12_result_20
theorem dX12_output_0 : decode cX12_output 0 = .ok (.aload_n 0, 1) := by decide +kernel
theorem dX12_output_1 : decode cX12_output 1 = .ok (.iconst 0, 1) := by decide +kernel
theorem dX12_output_2 : decode cX12_output 2 = .ok (.putfield 252, 3) := by decide +kernel
theorem dX12_output_5 : decode cX12_output 5 = .ok (.iload_n 1, 1) := by decide +kernel
theorem dX12_output_6 : decode cX12_output 6 = .ok (.iconst 0, 1) := by decide +kernel
theorem dX12_output_7 : decode cX12_output 7 = .ok (.aload_n 0, 1) := by decide +kernel
theorem dX12_output_8 : decode cX12_output 8 = .ok (.getfield 656, 3) := by decide +kernel
theorem dX12_output_11 : decode cX12_output 11 = .ok (.iconst 1, 1) := by decide +kernel
theorem dX12_output_12 : decode cX12_output 12 = .ok (.isub, 1) := by decide +kernel
theorem dX12_output_13 : decode cX12_output 13 = .ok (.invokestatic 261, 3) := by decide +kernel
theorem dX12_output_16 : decode cX12_output 16 = .ok (.ifCond .eq 12, 3) := by decide +kernel
theorem dX12_output_28 : decode cX12_output 28 = .ok (.iconst 0, 1) := by decide +kernel
theorem dX12_output_29 : decode cX12_output 29 = .ok (.ireturn, 1) := by decide +kernel
theorem dX12_output_19 : decode cX12_output 19 = .ok (.aload_n 0, 1) := by decide +kernel
theorem dX12_output_20 : decode cX12_output 20 = .ok (.getfield 165, 3) := by decide +kernel
theorem dX12_output_23 : decode cX12_output 23 = .ok (.iload_n 1, 1) := by decide +kernel
theorem dX12_output_24 : decode cX12_output 24 = .ok (.iaload, 1) := by decide +kernel
theorem dX12_output_25 : decode cX12_output 25 = .ok (.goto 4, 3) := by decide +kernel
set_option maxHeartbeats 2000000 in
set_option maxRecDepth 100000 in
/-- output(i) -/
theorem R_output (l : Launch) (G : pT) (h0 : Nat) (a : Nat → Nat) (F : Nat → Int32) (B : Nat → Nat → Int32) (x : Int32) (ou : Nat) (hou : ou ≤ 400) : PM l G pX0 yX12_output cX12_output 2 (some .int) ({ frames := 3, cells := 0, slots := 0, locals := 82 }) [.ref h0, .int x] (mW G h0 a (upd F 87 (nI ou)) B) (fun (v : Option Value) (u : Int32) => v = some (.int u)) (fun u => (mW G h0 a (upd (upd F 0 0) 87 (nI ou)) B)) := by
  intro sz
  refine Met.ofW (cc := cX12_output) (maxL := 2) (ret := (some .int)) (by decide) rfl ?_
  intro p e s m args below meth c s₁ B9 hml hv
  obtain ⟨rfl, hsz, hP, hD0, hE, hX⟩ := hv
  have hx := B9.exec
  have hb := B9.bytes
  have hr := B9.returns
  have hts := atoms_spec (ws := Cond.code yX12_output cX12_output 2 (some .int) :: pw) B9.pre
  have hq : ∀ w ∈ pw, w.before _ s = true := fun w h => hts w (List.mem_cons_of_mem _ h)
  have hown : s.vm.findClass RX12 = some m.cls := findClass_of_methodNamed B9.named
  have hlocks := B9.notSynchronized
  subst hsz
  have hD := hD0.self (sz := s.heap.size)
  have hA : ∀ q : Nat, s.heap.size ≤ q → va_A (mW G h0 a (upd F 87 (nI ou)) B) s.heap.size q := fun q h => Or.inr h
  have hP : va_P G.1 pCl (mW G h0 a (upd F 87 (nI ou)) B) s.heap := hP
  generalize va_A (mW G h0 a (upd F 87 (nI ou)) B) s.heap.size = A at hD hE hA ⊢
  have hS : va_S A s.heap s.heap [] := va_S.rf
  have hl := lv_entry ([.ref h0, .int x]) (n := 2) (Nat.le_of_ble_eq_true rfl)
  rw [lg_entry_eq]
  generalize (lg_sl ([.ref h0, .int x]) ++ List.replicate (2 - (lg_sl ([.ref h0, .int x])).length) Slot.unset).toArray = ls at hl ⊢
  have hl : lv_has ls 2 [(0, .ref h0), (1, .int x)] := hl
  refine lv_aload_n hx hb dX12_output_0 rfl (lv_at hl 0 rfl) ?_
  refine lv_iconst (v := 0) hx hb dX12_output_1 (by decide) ?_
  refine r_put (v := 0) (ty := .int) hx hb hown hq hE hP hD hS 0 252 tFX12_0 (by decide) pw_1515 (by decide) rfl rfl (ms_0 a _ _) dX12_output_2 (fun H locs hP hD hS => ?_)
  refine lv_iload_n hx hb dX12_output_5 rfl (lv_at hl 1 rfl) ?_
  refine lv_iconst (v := 0) hx hb dX12_output_6 (by decide) ?_
  refine lv_aload_n hx hb dX12_output_7 rfl (lv_at hl 0 rfl) ?_
  refine r_get (v := .int (nI ou)) hx hb hown hq hE hP 87 656 tFX12_87 (by decide) pw_1924 rfl dX12_output_8 ?_
  refine lv_iconst (v := 1) hx hb dX12_output_11 (by decide) ?_
  refine lv_isub hx hb dX12_output_12 ?_
  refine lv_topi (fun x1 e2 => ?_)
  refine pc_SN (G := G) (As := [.int x, .int 0, .int x1]) (rest := []) hx hb hml hown hq hE hX pX0_al hP hS hA hl.1 (s_in l G x 0 x1) (gS pw_1521 pw_1522 pw_1523 pw_1513) hS_X12_in rfl (Nat.le_of_ble_eq_true rfl) dX12_output_13 ⟨Nat.le_of_ble_eq_true rfl, Nat.le_of_ble_eq_true rfl⟩ ⟨Nat.le_of_ble_eq_true rfl, Nat.le_of_ble_eq_true rfl⟩ (fun v5 u3 H locs hw4 hP hS => ?_)
  obtain rfl : v5 = some (.int (isin x 0 x1)) := hw4
  refine W.widen (k := 0) (n := 0) (Nat.le_of_ble_eq_true rfl) (Nat.le_of_ble_eq_true rfl) ?_
  refine W.eq (g2 := F0 m 16 ls [.int (isin x 0 x1)]) rfl ?_
  refine lv_if_eq (tgt := 28) hx hb dX12_output_16 (by decide) (fun c6 => ?_) (fun c6 => ?_)
  · refine lv_iconst (v := 0) hx hb dX12_output_28 (by decide) ?_
    have hP : va_P G.1 pCl (mW G h0 a (upd (upd F 0 0) 87 (nI ou)) B) _ := mW_to (F := F) (l1 := [(87, (nI ou)), (0, 0)]) (l2 := [(0, 0), (87, (nI ou))]) (V := [(nI ou), 0, 0, (nI ou)]) rfl rfl rfl hP
    have hD : va_D A (mW G h0 a (upd (upd F 0 0) 87 (nI ou)) B) := mW_D hD
    exact W.iret (v := 0) hx hb hr (fun t9 ht9 hW9 => ⟨⟨_, (0 : Int32), rfl, rfl, by rw [ht9]; exact hP, hD⟩, hS.F ht9⟩) hS.2.2 dX12_output_29
  · rw [e2] at c6
    obtain ⟨i9, hki9, hli9⟩ := isin_m (n := ou) (by omega) c6
    rw [hki9] at hl
    refine lv_aload_n hx hb dX12_output_19 rfl (lv_at hl 0 rfl) ?_
    refine r_get (v := .ref (a 51)) hx hb hown hq hE hP 86 165 tFX12_86 (by decide) pw_1482 rfl dX12_output_20 ?_
    refine lv_iload_n hx hb dX12_output_23 rfl (lv_at hl 1 rfl) ?_
    refine r_ldi (f := (B 51)) (j := i9) hx hb hE hP 51 (ma_51 G a _) rfl (by omega) (by decide) dX12_output_24 ?_
    refine lv_goto (tgt := 29) hx hb dX12_output_25 (by decide) ?_
    have hP : va_P G.1 pCl (mW G h0 a (upd (upd F 0 0) 87 (nI ou)) B) _ := mW_to (F := F) (l1 := [(87, (nI ou)), (0, 0)]) (l2 := [(0, 0), (87, (nI ou))]) (V := [(nI ou), 0, 0, (nI ou)]) rfl rfl rfl hP
    have hD : va_D A (mW G h0 a (upd (upd F 0 0) 87 (nI ou)) B) := mW_D hD
    exact W.iret (v := ((B 51) i9)) hx hb hr (fun t9 ht9 hW9 => ⟨⟨_, ((B 51) i9), rfl, rfl, by rw [ht9]; exact hP, hD⟩, hS.F ht9⟩) hS.2.2 dX12_output_29
theorem dX12_count_0 : decode cX12_count 0 = .ok (.aload_n 0, 1) := by decide +kernel
theorem dX12_count_1 : decode cX12_count 1 = .ok (.iconst 0, 1) := by decide +kernel
theorem dX12_count_2 : decode cX12_count 2 = .ok (.putfield 252, 3) := by decide +kernel
theorem dX12_count_5 : decode cX12_count 5 = .ok (.iload_n 1, 1) := by decide +kernel
theorem dX12_count_6 : decode cX12_count 6 = .ok (.iconst 2, 1) := by decide +kernel
theorem dX12_count_7 : decode cX12_count 7 = .ok (.if_icmp .lt 9, 3) := by decide +kernel
theorem dX12_count_16 : decode cX12_count 16 = .ok (.iload_n 1, 1) := by decide +kernel
theorem dX12_count_17 : decode cX12_count 17 = .ok (.ifCond .ne 10, 3) := by decide +kernel
theorem dX12_count_27 : decode cX12_count 27 = .ok (.iload_n 1, 1) := by decide +kernel
theorem dX12_count_28 : decode cX12_count 28 = .ok (.iconst 1, 1) := by decide +kernel
theorem dX12_count_29 : decode cX12_count 29 = .ok (.if_icmp .ne 10, 3) := by decide +kernel
theorem dX12_count_39 : decode cX12_count 39 = .ok (.iconst (-1), 1) := by decide +kernel
theorem dX12_count_40 : decode cX12_count 40 = .ok (.ireturn, 1) := by decide +kernel
theorem dX12_count_32 : decode cX12_count 32 = .ok (.aload_n 0, 1) := by decide +kernel
theorem dX12_count_33 : decode cX12_count 33 = .ok (.getfield 689, 3) := by decide +kernel
theorem dX12_count_36 : decode cX12_count 36 = .ok (.goto 4, 3) := by decide +kernel
theorem dX12_count_20 : decode cX12_count 20 = .ok (.aload_n 0, 1) := by decide +kernel
theorem dX12_count_21 : decode cX12_count 21 = .ok (.getfield 255, 3) := by decide +kernel
theorem dX12_count_24 : decode cX12_count 24 = .ok (.goto 16, 3) := by decide +kernel
theorem dX12_count_10 : decode cX12_count 10 = .ok (.iload_n 1, 1) := by decide +kernel
theorem dX12_count_11 : decode cX12_count 11 = .ok (.bipush 11, 2) := by decide +kernel
theorem dX12_count_13 : decode cX12_count 13 = .ok (.if_icmp .le 28, 3) := by decide +kernel
theorem dX12_count_41 : decode cX12_count 41 = .ok (.iload_n 1, 1) := by decide +kernel
theorem dX12_count_42 : decode cX12_count 42 = .ok (.iconst 5, 1) := by decide +kernel
theorem dX12_count_43 : decode cX12_count 43 = .ok (.if_icmp .ge 43, 3) := by decide +kernel
theorem dX12_count_86 : decode cX12_count 86 = .ok (.aload_n 0, 1) := by decide +kernel
theorem dX12_count_87 : decode cX12_count 87 = .ok (.getfield 653, 3) := by decide +kernel
theorem dX12_count_90 : decode cX12_count 90 = .ok (.ifCond .ne 5, 3) := by decide +kernel
theorem dX12_count_95 : decode cX12_count 95 = .ok (.iload_n 1, 1) := by decide +kernel
theorem dX12_count_96 : decode cX12_count 96 = .ok (.tableswitch 70 5 10 #[40, 45, 50, 55, 60, 65], 40) := by decide +kernel
theorem dX12_count_136 : decode cX12_count 136 = .ok (.aload_n 0, 1) := by decide +kernel
theorem dX12_count_137 : decode cX12_count 137 = .ok (.getfield 748, 3) := by decide +kernel
theorem dX12_count_140 : decode cX12_count 140 = .ok (.ireturn, 1) := by decide +kernel
theorem dX12_count_141 : decode cX12_count 141 = .ok (.aload_n 0, 1) := by decide +kernel
theorem dX12_count_142 : decode cX12_count 142 = .ok (.getfield 656, 3) := by decide +kernel
theorem dX12_count_145 : decode cX12_count 145 = .ok (.ireturn, 1) := by decide +kernel
theorem dX12_count_146 : decode cX12_count 146 = .ok (.aload_n 0, 1) := by decide +kernel
theorem dX12_count_147 : decode cX12_count 147 = .ok (.getfield 769, 3) := by decide +kernel
theorem dX12_count_150 : decode cX12_count 150 = .ok (.ireturn, 1) := by decide +kernel
theorem dX12_count_151 : decode cX12_count 151 = .ok (.aload_n 0, 1) := by decide +kernel
theorem dX12_count_152 : decode cX12_count 152 = .ok (.getfield 739, 3) := by decide +kernel
theorem dX12_count_155 : decode cX12_count 155 = .ok (.ireturn, 1) := by decide +kernel
theorem dX12_count_156 : decode cX12_count 156 = .ok (.aload_n 0, 1) := by decide +kernel
theorem dX12_count_157 : decode cX12_count 157 = .ok (.getfield 742, 3) := by decide +kernel
theorem dX12_count_160 : decode cX12_count 160 = .ok (.ireturn, 1) := by decide +kernel
theorem dX12_count_161 : decode cX12_count 161 = .ok (.aload_n 0, 1) := by decide +kernel
theorem dX12_count_162 : decode cX12_count 162 = .ok (.getfield 772, 3) := by decide +kernel
theorem dX12_count_165 : decode cX12_count 165 = .ok (.ireturn, 1) := by decide +kernel
theorem dX12_count_166 : decode cX12_count 166 = .ok (.aload_n 0, 1) := by decide +kernel
theorem dX12_count_167 : decode cX12_count 167 = .ok (.getfield 775, 3) := by decide +kernel
theorem dX12_count_170 : decode cX12_count 170 = .ok (.ireturn, 1) := by decide +kernel
theorem dX12_count_93 : decode cX12_count 93 = .ok (.iconst 0, 1) := by decide +kernel
theorem dX12_count_94 : decode cX12_count 94 = .ok (.ireturn, 1) := by decide +kernel
theorem dX12_count_46 : decode cX12_count 46 = .ok (.aload_n 0, 1) := by decide +kernel
theorem dX12_count_47 : decode cX12_count 47 = .ok (.getfield 649, 3) := by decide +kernel
theorem dX12_count_50 : decode cX12_count 50 = .ok (.ifCond .ne 7, 3) := by decide +kernel
theorem dX12_count_57 : decode cX12_count 57 = .ok (.iload_n 1, 1) := by decide +kernel
theorem dX12_count_58 : decode cX12_count 58 = .ok (.iconst 2, 1) := by decide +kernel
theorem dX12_count_59 : decode cX12_count 59 = .ok (.if_icmp .ne 10, 3) := by decide +kernel
theorem dX12_count_69 : decode cX12_count 69 = .ok (.iload_n 1, 1) := by decide +kernel
theorem dX12_count_70 : decode cX12_count 70 = .ok (.iconst 3, 1) := by decide +kernel
theorem dX12_count_71 : decode cX12_count 71 = .ok (.if_icmp .ne 10, 3) := by decide +kernel
theorem dX12_count_81 : decode cX12_count 81 = .ok (.aload_n 0, 1) := by decide +kernel
theorem dX12_count_82 : decode cX12_count 82 = .ok (.getfield 422, 3) := by decide +kernel
theorem dX12_count_85 : decode cX12_count 85 = .ok (.ireturn, 1) := by decide +kernel
theorem dX12_count_74 : decode cX12_count 74 = .ok (.aload_n 0, 1) := by decide +kernel
theorem dX12_count_75 : decode cX12_count 75 = .ok (.getfield 384, 3) := by decide +kernel
theorem dX12_count_78 : decode cX12_count 78 = .ok (.goto 7, 3) := by decide +kernel
theorem dX12_count_62 : decode cX12_count 62 = .ok (.aload_n 0, 1) := by decide +kernel
theorem dX12_count_63 : decode cX12_count 63 = .ok (.getfield 314, 3) := by decide +kernel
theorem dX12_count_66 : decode cX12_count 66 = .ok (.goto 19, 3) := by decide +kernel
theorem dX12_count_53 : decode cX12_count 53 = .ok (.iconst 0, 1) := by decide +kernel
theorem dX12_count_54 : decode cX12_count 54 = .ok (.goto 31, 3) := by decide +kernel
set_option maxHeartbeats 2000000 in
set_option maxRecDepth 100000 in
/-- count(what) -/
theorem R_count (l : Launch) (G : pT) (h0 : Nat) (a : Nat → Nat) (F : Nat → Int32) (B : Nat → Nat → Int32) (x : Int32) : PM l G pX0 yX12_count cX12_count 2 (some .int) ({ frames := 2, cells := 0, slots := 0, locals := 60 }) [.ref h0, .int x] (mW G h0 a F B) (fun (v : Option Value) (u : Int32) => v = some (.int u)) (fun u => (mW G h0 a (upd F 0 0) B)) := by
  intro sz
  refine Met.ofW (cc := cX12_count) (maxL := 2) (ret := (some .int)) (by decide) rfl ?_
  intro p e s m args below meth c s₁ B9 hml hv
  obtain ⟨rfl, hsz, hP, hD0, hE, hX⟩ := hv
  have hx := B9.exec
  have hb := B9.bytes
  have hr := B9.returns
  have hts := atoms_spec (ws := Cond.code yX12_count cX12_count 2 (some .int) :: pw) B9.pre
  have hq : ∀ w ∈ pw, w.before _ s = true := fun w h => hts w (List.mem_cons_of_mem _ h)
  have hown : s.vm.findClass RX12 = some m.cls := findClass_of_methodNamed B9.named
  have hlocks := B9.notSynchronized
  subst hsz
  have hD := hD0.self (sz := s.heap.size)
  have hA : ∀ q : Nat, s.heap.size ≤ q → va_A (mW G h0 a F B) s.heap.size q := fun q h => Or.inr h
  have hP : va_P G.1 pCl (mW G h0 a F B) s.heap := hP
  generalize va_A (mW G h0 a F B) s.heap.size = A at hD hE hA ⊢
  have hS : va_S A s.heap s.heap [] := va_S.rf
  have hl := lv_entry ([.ref h0, .int x]) (n := 2) (Nat.le_of_ble_eq_true rfl)
  rw [lg_entry_eq]
  generalize (lg_sl ([.ref h0, .int x]) ++ List.replicate (2 - (lg_sl ([.ref h0, .int x])).length) Slot.unset).toArray = ls at hl ⊢
  have hl : lv_has ls 2 [(0, .ref h0), (1, .int x)] := hl
  refine lv_aload_n hx hb dX12_count_0 rfl (lv_at hl 0 rfl) ?_
  refine lv_iconst (v := 0) hx hb dX12_count_1 (by decide) ?_
  refine r_put (v := 0) (ty := .int) hx hb hown hq hE hP hD hS 0 252 tFX12_0 (by decide) pw_1515 (by decide) rfl rfl (ms_0 a _ _) dX12_count_2 (fun H locs hP hD hS => ?_)
  refine lv_iload_n hx hb dX12_count_5 rfl (lv_at hl 1 rfl) ?_
  refine lv_iconst (v := 2) hx hb dX12_count_6 (by decide) ?_
  refine lv_icmp_lt (tgt := 16) hx hb dX12_count_7 (by decide) (fun c1 => ?_) (fun c1 => ?_)
  · refine lv_iload_n hx hb dX12_count_16 rfl (lv_at hl 1 rfl) ?_
    refine lv_if_ne (tgt := 27) hx hb dX12_count_17 (by decide) (fun c2 => ?_) (fun c2 => ?_)
    · refine lv_iload_n hx hb dX12_count_27 rfl (lv_at hl 1 rfl) ?_
      refine lv_iconst (v := 1) hx hb dX12_count_28 (by decide) ?_
      refine lv_icmp_ne (tgt := 39) hx hb dX12_count_29 (by decide) (fun c3 => ?_) (fun c3 => ?_)
      · refine lv_iconst (v := (-1)) hx hb dX12_count_39 (by decide) ?_
        have hP : va_P G.1 pCl (mW G h0 a (upd F 0 0) B) _ := hP
        have hD : va_D A (mW G h0 a (upd F 0 0) B) := mW_D hD
        exact W.iret (v := (-1)) hx hb hr (fun t9 ht9 hW9 => ⟨⟨_, ((-1) : Int32), rfl, rfl, by rw [ht9]; exact hP, hD⟩, hS.F ht9⟩) hS.2.2 dX12_count_40
      · refine lv_aload_n hx hb dX12_count_32 rfl (lv_at hl 0 rfl) ?_
        refine r_get (v := .int (F 85)) hx hb hown hq hE hP 85 689 tFX12_85 (by decide) pw_1961 rfl dX12_count_33 ?_
        refine lv_goto (tgt := 40) hx hb dX12_count_36 (by decide) ?_
        have hP : va_P G.1 pCl (mW G h0 a (upd F 0 0) B) _ := hP
        have hD : va_D A (mW G h0 a (upd F 0 0) B) := mW_D hD
        exact W.iret (v := (F 85)) hx hb hr (fun t9 ht9 hW9 => ⟨⟨_, (F 85), rfl, rfl, by rw [ht9]; exact hP, hD⟩, hS.F ht9⟩) hS.2.2 dX12_count_40
    · refine lv_aload_n hx hb dX12_count_20 rfl (lv_at hl 0 rfl) ?_
      refine r_get (v := .int (F 2)) hx hb hown hq hE hP 2 255 tFX12_2 (by decide) pw_1516 rfl dX12_count_21 ?_
      refine lv_goto (tgt := 40) hx hb dX12_count_24 (by decide) ?_
      have hP : va_P G.1 pCl (mW G h0 a (upd F 0 0) B) _ := hP
      have hD : va_D A (mW G h0 a (upd F 0 0) B) := mW_D hD
      exact W.iret (v := (F 2)) hx hb hr (fun t9 ht9 hW9 => ⟨⟨_, (F 2), rfl, rfl, by rw [ht9]; exact hP, hD⟩, hS.F ht9⟩) hS.2.2 dX12_count_40
  · refine lv_iload_n hx hb dX12_count_10 rfl (lv_at hl 1 rfl) ?_
    refine lv_bipush (v := 11) hx hb dX12_count_11 (by decide) ?_
    refine lv_icmp_le (tgt := 41) hx hb dX12_count_13 (by decide) (fun c4 => ?_) (fun c4 => ?_)
    · refine lv_iload_n hx hb dX12_count_41 rfl (lv_at hl 1 rfl) ?_
      refine lv_iconst (v := 5) hx hb dX12_count_42 (by decide) ?_
      refine lv_icmp_ge (tgt := 86) hx hb dX12_count_43 (by decide) (fun c5 => ?_) (fun c5 => ?_)
      · refine lv_aload_n hx hb dX12_count_86 rfl (lv_at hl 0 rfl) ?_
        refine r_get (v := .int (F 83)) hx hb hown hq hE hP 83 653 tFX12_83 (by decide) pw_1923 rfl dX12_count_87 ?_
        refine lv_if_ne (tgt := 95) hx hb dX12_count_90 (by decide) (fun c6 => ?_) (fun c6 => ?_)
        · refine lv_iload_n hx hb dX12_count_95 rfl (lv_at hl 1 rfl) ?_
          by_cases h7 : x = 5
          · subst h7
            refine lv_tableIn (tgt := 136) (off := 40) hx hb dX12_count_96 (by decide) (by decide) (by decide) (by decide) ?_
            refine lv_aload_n hx hb dX12_count_136 rfl (lv_at hl 0 rfl) ?_
            refine r_get (v := .int (F 117)) hx hb hown hq hE hP 117 748 tFX12_117 (by decide) pw_2001 rfl dX12_count_137 ?_
            have hP : va_P G.1 pCl (mW G h0 a (upd F 0 0) B) _ := hP
            have hD : va_D A (mW G h0 a (upd F 0 0) B) := mW_D hD
            exact W.iret (v := (F 117)) hx hb hr (fun t9 ht9 hW9 => ⟨⟨_, (F 117), rfl, rfl, by rw [ht9]; exact hP, hD⟩, hS.F ht9⟩) hS.2.2 dX12_count_140
          by_cases h8 : x = 6
          · subst h8
            refine lv_tableIn (tgt := 141) (off := 45) hx hb dX12_count_96 (by decide) (by decide) (by decide) (by decide) ?_
            refine lv_aload_n hx hb dX12_count_141 rfl (lv_at hl 0 rfl) ?_
            refine r_get (v := .int (F 87)) hx hb hown hq hE hP 87 656 tFX12_87 (by decide) pw_1924 rfl dX12_count_142 ?_
            have hP : va_P G.1 pCl (mW G h0 a (upd F 0 0) B) _ := hP
            have hD : va_D A (mW G h0 a (upd F 0 0) B) := mW_D hD
            exact W.iret (v := (F 87)) hx hb hr (fun t9 ht9 hW9 => ⟨⟨_, (F 87), rfl, rfl, by rw [ht9]; exact hP, hD⟩, hS.F ht9⟩) hS.2.2 dX12_count_145
          by_cases h9 : x = 7
          · subst h9
            refine lv_tableIn (tgt := 146) (off := 50) hx hb dX12_count_96 (by decide) (by decide) (by decide) (by decide) ?_
            refine lv_aload_n hx hb dX12_count_146 rfl (lv_at hl 0 rfl) ?_
            refine r_get (v := .int (F 120)) hx hb hown hq hE hP 120 769 tFX12_120 (by decide) pw_2065 rfl dX12_count_147 ?_
            have hP : va_P G.1 pCl (mW G h0 a (upd F 0 0) B) _ := hP
            have hD : va_D A (mW G h0 a (upd F 0 0) B) := mW_D hD
            exact W.iret (v := (F 120)) hx hb hr (fun t9 ht9 hW9 => ⟨⟨_, (F 120), rfl, rfl, by rw [ht9]; exact hP, hD⟩, hS.F ht9⟩) hS.2.2 dX12_count_150
          by_cases h10 : x = 8
          · subst h10
            refine lv_tableIn (tgt := 151) (off := 55) hx hb dX12_count_96 (by decide) (by decide) (by decide) (by decide) ?_
            refine lv_aload_n hx hb dX12_count_151 rfl (lv_at hl 0 rfl) ?_
            refine r_get (v := .int (F 121)) hx hb hown hq hE hP 121 739 tFX12_121 (by decide) pw_1988 rfl dX12_count_152 ?_
            have hP : va_P G.1 pCl (mW G h0 a (upd F 0 0) B) _ := hP
            have hD : va_D A (mW G h0 a (upd F 0 0) B) := mW_D hD
            exact W.iret (v := (F 121)) hx hb hr (fun t9 ht9 hW9 => ⟨⟨_, (F 121), rfl, rfl, by rw [ht9]; exact hP, hD⟩, hS.F ht9⟩) hS.2.2 dX12_count_155
          by_cases h11 : x = 9
          · subst h11
            refine lv_tableIn (tgt := 156) (off := 60) hx hb dX12_count_96 (by decide) (by decide) (by decide) (by decide) ?_
            refine lv_aload_n hx hb dX12_count_156 rfl (lv_at hl 0 rfl) ?_
            refine r_get (v := .int (F 122)) hx hb hown hq hE hP 122 742 tFX12_122 (by decide) pw_1989 rfl dX12_count_157 ?_
            have hP : va_P G.1 pCl (mW G h0 a (upd F 0 0) B) _ := hP
            have hD : va_D A (mW G h0 a (upd F 0 0) B) := mW_D hD
            exact W.iret (v := (F 122)) hx hb hr (fun t9 ht9 hW9 => ⟨⟨_, (F 122), rfl, rfl, by rw [ht9]; exact hP, hD⟩, hS.F ht9⟩) hS.2.2 dX12_count_160
          by_cases h12 : x = 10
          · subst h12
            refine lv_tableIn (tgt := 161) (off := 65) hx hb dX12_count_96 (by decide) (by decide) (by decide) (by decide) ?_
            refine lv_aload_n hx hb dX12_count_161 rfl (lv_at hl 0 rfl) ?_
            refine r_get (v := .int (F 123)) hx hb hown hq hE hP 123 772 tFX12_123 (by decide) pw_2014 rfl dX12_count_162 ?_
            have hP : va_P G.1 pCl (mW G h0 a (upd F 0 0) B) _ := hP
            have hD : va_D A (mW G h0 a (upd F 0 0) B) := mW_D hD
            exact W.iret (v := (F 123)) hx hb hr (fun t9 ht9 hW9 => ⟨⟨_, (F 123), rfl, rfl, by rw [ht9]; exact hP, hD⟩, hS.F ht9⟩) hS.2.2 dX12_count_165
          refine lv_tableOut (tgt := 166) hx hb dX12_count_96 (sw_out10 h7 h8 h9 h10 h11 h12) (by decide) ?_
          refine lv_aload_n hx hb dX12_count_166 rfl (lv_at hl 0 rfl) ?_
          refine r_get (v := .int (F 124)) hx hb hown hq hE hP 124 775 tFX12_124 (by decide) pw_2015 rfl dX12_count_167 ?_
          have hP : va_P G.1 pCl (mW G h0 a (upd F 0 0) B) _ := hP
          have hD : va_D A (mW G h0 a (upd F 0 0) B) := mW_D hD
          exact W.iret (v := (F 124)) hx hb hr (fun t9 ht9 hW9 => ⟨⟨_, (F 124), rfl, rfl, by rw [ht9]; exact hP, hD⟩, hS.F ht9⟩) hS.2.2 dX12_count_170
        · refine lv_iconst (v := 0) hx hb dX12_count_93 (by decide) ?_
          have hP : va_P G.1 pCl (mW G h0 a (upd F 0 0) B) _ := hP
          have hD : va_D A (mW G h0 a (upd F 0 0) B) := mW_D hD
          exact W.iret (v := 0) hx hb hr (fun t9 ht9 hW9 => ⟨⟨_, (0 : Int32), rfl, rfl, by rw [ht9]; exact hP, hD⟩, hS.F ht9⟩) hS.2.2 dX12_count_94
      · refine lv_aload_n hx hb dX12_count_46 rfl (lv_at hl 0 rfl) ?_
        refine r_get (v := .int (F 82)) hx hb hown hq hE hP 82 649 tFX12_82 (by decide) pw_1922 rfl dX12_count_47 ?_
        refine lv_if_ne (tgt := 57) hx hb dX12_count_50 (by decide) (fun c13 => ?_) (fun c13 => ?_)
        · refine lv_iload_n hx hb dX12_count_57 rfl (lv_at hl 1 rfl) ?_
          refine lv_iconst (v := 2) hx hb dX12_count_58 (by decide) ?_
          refine lv_icmp_ne (tgt := 69) hx hb dX12_count_59 (by decide) (fun c14 => ?_) (fun c14 => ?_)
          · refine lv_iload_n hx hb dX12_count_69 rfl (lv_at hl 1 rfl) ?_
            refine lv_iconst (v := 3) hx hb dX12_count_70 (by decide) ?_
            refine lv_icmp_ne (tgt := 81) hx hb dX12_count_71 (by decide) (fun c15 => ?_) (fun c15 => ?_)
            · refine lv_aload_n hx hb dX12_count_81 rfl (lv_at hl 0 rfl) ?_
              refine r_get (v := .int (F 59)) hx hb hown hq hE hP 59 422 tFX12_59 (by decide) pw_1724 rfl dX12_count_82 ?_
              have hP : va_P G.1 pCl (mW G h0 a (upd F 0 0) B) _ := hP
              have hD : va_D A (mW G h0 a (upd F 0 0) B) := mW_D hD
              exact W.iret (v := (F 59)) hx hb hr (fun t9 ht9 hW9 => ⟨⟨_, (F 59), rfl, rfl, by rw [ht9]; exact hP, hD⟩, hS.F ht9⟩) hS.2.2 dX12_count_85
            · refine lv_aload_n hx hb dX12_count_74 rfl (lv_at hl 0 rfl) ?_
              refine r_get (v := .int (F 35)) hx hb hown hq hE hP 35 384 tFX12_35 (by decide) pw_1732 rfl dX12_count_75 ?_
              refine lv_goto (tgt := 85) hx hb dX12_count_78 (by decide) ?_
              have hP : va_P G.1 pCl (mW G h0 a (upd F 0 0) B) _ := hP
              have hD : va_D A (mW G h0 a (upd F 0 0) B) := mW_D hD
              exact W.iret (v := (F 35)) hx hb hr (fun t9 ht9 hW9 => ⟨⟨_, (F 35), rfl, rfl, by rw [ht9]; exact hP, hD⟩, hS.F ht9⟩) hS.2.2 dX12_count_85
          · refine lv_aload_n hx hb dX12_count_62 rfl (lv_at hl 0 rfl) ?_
            refine r_get (v := .int (F 9)) hx hb hown hq hE hP 9 314 tFX12_9 (by decide) pw_1568 rfl dX12_count_63 ?_
            refine lv_goto (tgt := 85) hx hb dX12_count_66 (by decide) ?_
            have hP : va_P G.1 pCl (mW G h0 a (upd F 0 0) B) _ := hP
            have hD : va_D A (mW G h0 a (upd F 0 0) B) := mW_D hD
            exact W.iret (v := (F 9)) hx hb hr (fun t9 ht9 hW9 => ⟨⟨_, (F 9), rfl, rfl, by rw [ht9]; exact hP, hD⟩, hS.F ht9⟩) hS.2.2 dX12_count_85
        · refine lv_iconst (v := 0) hx hb dX12_count_53 (by decide) ?_
          refine lv_goto (tgt := 85) hx hb dX12_count_54 (by decide) ?_
          have hP : va_P G.1 pCl (mW G h0 a (upd F 0 0) B) _ := hP
          have hD : va_D A (mW G h0 a (upd F 0 0) B) := mW_D hD
          exact W.iret (v := 0) hx hb hr (fun t9 ht9 hW9 => ⟨⟨_, (0 : Int32), rfl, rfl, by rw [ht9]; exact hP, hD⟩, hS.F ht9⟩) hS.2.2 dX12_count_85
    · refine lv_iload_n hx hb dX12_count_16 rfl (lv_at hl 1 rfl) ?_
      refine lv_if_ne (tgt := 27) hx hb dX12_count_17 (by decide) (fun c16 => ?_) (fun c16 => ?_)
      · refine lv_iload_n hx hb dX12_count_27 rfl (lv_at hl 1 rfl) ?_
        refine lv_iconst (v := 1) hx hb dX12_count_28 (by decide) ?_
        refine lv_icmp_ne (tgt := 39) hx hb dX12_count_29 (by decide) (fun c17 => ?_) (fun c17 => ?_)
        · refine lv_iconst (v := (-1)) hx hb dX12_count_39 (by decide) ?_
          have hP : va_P G.1 pCl (mW G h0 a (upd F 0 0) B) _ := hP
          have hD : va_D A (mW G h0 a (upd F 0 0) B) := mW_D hD
          exact W.iret (v := (-1)) hx hb hr (fun t9 ht9 hW9 => ⟨⟨_, ((-1) : Int32), rfl, rfl, by rw [ht9]; exact hP, hD⟩, hS.F ht9⟩) hS.2.2 dX12_count_40
        · refine lv_aload_n hx hb dX12_count_32 rfl (lv_at hl 0 rfl) ?_
          refine r_get (v := .int (F 85)) hx hb hown hq hE hP 85 689 tFX12_85 (by decide) pw_1961 rfl dX12_count_33 ?_
          refine lv_goto (tgt := 40) hx hb dX12_count_36 (by decide) ?_
          have hP : va_P G.1 pCl (mW G h0 a (upd F 0 0) B) _ := hP
          have hD : va_D A (mW G h0 a (upd F 0 0) B) := mW_D hD
          exact W.iret (v := (F 85)) hx hb hr (fun t9 ht9 hW9 => ⟨⟨_, (F 85), rfl, rfl, by rw [ht9]; exact hP, hD⟩, hS.F ht9⟩) hS.2.2 dX12_count_40
      · refine lv_aload_n hx hb dX12_count_20 rfl (lv_at hl 0 rfl) ?_
        refine r_get (v := .int (F 2)) hx hb hown hq hE hP 2 255 tFX12_2 (by decide) pw_1516 rfl dX12_count_21 ?_
        refine lv_goto (tgt := 40) hx hb dX12_count_24 (by decide) ?_
        have hP : va_P G.1 pCl (mW G h0 a (upd F 0 0) B) _ := hP
        have hD : va_D A (mW G h0 a (upd F 0 0) B) := mW_D hD
        exact W.iret (v := (F 2)) hx hb hr (fun t9 ht9 hW9 => ⟨⟨_, (F 2), rfl, rfl, by rw [ht9]; exact hP, hD⟩, hS.F ht9⟩) hS.2.2 dX12_count_40
theorem dX12_refusals_0 : decode cX12_refusals 0 = .ok (.aload_n 0, 1) := by decide +kernel
theorem dX12_refusals_1 : decode cX12_refusals 1 = .ok (.iconst 0, 1) := by decide +kernel
theorem dX12_refusals_2 : decode cX12_refusals 2 = .ok (.putfield 252, 3) := by decide +kernel
theorem dX12_refusals_5 : decode cX12_refusals 5 = .ok (.iconst 0, 1) := by decide +kernel
theorem dX12_refusals_6 : decode cX12_refusals 6 = .ok (.ireturn, 1) := by decide +kernel
set_option maxHeartbeats 2000000 in
set_option maxRecDepth 100000 in
/-- refusals() -/
theorem R_refusals (l : Launch) (G : pT) (h0 : Nat) (a : Nat → Nat) (F : Nat → Int32) (B : Nat → Nat → Int32) : PM l G pX0 yX12_refusals cX12_refusals 1 (some .int) ({ frames := 2, cells := 0, slots := 0, locals := 60 }) [.ref h0] (mW G h0 a F B) (fun (v : Option Value) (u : Unit) => v = some (.int 0)) (fun u => (mW G h0 a (upd F 0 0) B)) := by
  intro sz
  refine Met.ofW (cc := cX12_refusals) (maxL := 1) (ret := (some .int)) (by decide) rfl ?_
  intro p e s m args below meth c s₁ B9 hml hv
  obtain ⟨rfl, hsz, hP, hD0, hE, hX⟩ := hv
  have hx := B9.exec
  have hb := B9.bytes
  have hr := B9.returns
  have hts := atoms_spec (ws := Cond.code yX12_refusals cX12_refusals 1 (some .int) :: pw) B9.pre
  have hq : ∀ w ∈ pw, w.before _ s = true := fun w h => hts w (List.mem_cons_of_mem _ h)
  have hown : s.vm.findClass RX12 = some m.cls := findClass_of_methodNamed B9.named
  have hlocks := B9.notSynchronized
  subst hsz
  have hD := hD0.self (sz := s.heap.size)
  have hA : ∀ q : Nat, s.heap.size ≤ q → va_A (mW G h0 a F B) s.heap.size q := fun q h => Or.inr h
  have hP : va_P G.1 pCl (mW G h0 a F B) s.heap := hP
  generalize va_A (mW G h0 a F B) s.heap.size = A at hD hE hA ⊢
  have hS : va_S A s.heap s.heap [] := va_S.rf
  have hl := lv_entry ([.ref h0]) (n := 1) (Nat.le_of_ble_eq_true rfl)
  rw [lg_entry_eq]
  generalize (lg_sl ([.ref h0]) ++ List.replicate (1 - (lg_sl ([.ref h0])).length) Slot.unset).toArray = ls at hl ⊢
  have hl : lv_has ls 1 [(0, .ref h0)] := hl
  refine lv_aload_n hx hb dX12_refusals_0 rfl (lv_at hl 0 rfl) ?_
  refine lv_iconst (v := 0) hx hb dX12_refusals_1 (by decide) ?_
  refine r_put (v := 0) (ty := .int) hx hb hown hq hE hP hD hS 0 252 tFX12_0 (by decide) pw_1515 (by decide) rfl rfl (ms_0 a _ _) dX12_refusals_2 (fun H locs hP hD hS => ?_)
  refine lv_iconst (v := 0) hx hb dX12_refusals_5 (by decide) ?_
  have hP : va_P G.1 pCl (mW G h0 a (upd F 0 0) B) _ := hP
  have hD : va_D A (mW G h0 a (upd F 0 0) B) := mW_D hD
  exact W.iret (v := 0) hx hb hr (fun t9 ht9 hW9 => ⟨⟨_, (), rfl, rfl, by rw [ht9]; exact hP, hD⟩, hS.F ht9⟩) hS.2.2 dX12_refusals_6
theorem dX12_run_39 : decode cX12_run 39 = .ok (.iconst 1, 1) := by decide +kernel
theorem dX12_run_50 : decode cX12_run 50 = .ok (.iconst 0, 1) := by decide +kernel
theorem dX12_run_51 : decode cX12_run 51 = .ok (.ireturn, 1) := by decide +kernel
theorem dX12_run_35 : decode cX12_run 35 = .ok (.iconst 2, 1) := by decide +kernel
theorem dX12_run_36 : decode cX12_run 36 = .ok (.goto 4, 3) := by decide +kernel
set_option maxHeartbeats 2000000 in
set_option maxRecDepth 100000 in
/-- run(f, c), refused -/
theorem R_run0 (l : Launch) (G : pT) (h0 : Nat) (a : Nat → Nat) (F : Nat → Int32) (B : Nat → Nat → Int32) (f9 : Int32) (c9 : Int32) (hp : Int32) (hz9 : isin f9 0 20000 = 0 ∨ isin c9 10 3000 = 0 ∨ hp = 0) : PM l G pX0 yX12_run cX12_run 5 (some .int) ({ frames := 3, cells := 0, slots := 0, locals := 82 }) [.ref h0, .int f9, .int c9] (mW G h0 a (upd F 82 hp) B) (fun (v : Option Value) (u : Int32) => v = some (.int 0)) (fun u => (mW G h0 a (upd (upd F 0 u) 82 hp) B)) := by
  intro sz
  refine Met.ofW (cc := cX12_run) (maxL := 5) (ret := (some .int)) (by decide) rfl ?_
  intro p e s m args below meth c s₁ B9 hml hv
  obtain ⟨rfl, hsz, hP, hD0, hE, hX⟩ := hv
  have hx := B9.exec
  have hb := B9.bytes
  have hr := B9.returns
  have hts := atoms_spec (ws := Cond.code yX12_run cX12_run 5 (some .int) :: pw) B9.pre
  have hq : ∀ w ∈ pw, w.before _ s = true := fun w h => hts w (List.mem_cons_of_mem _ h)
  have hown : s.vm.findClass RX12 = some m.cls := findClass_of_methodNamed B9.named
  have hlocks := B9.notSynchronized
  subst hsz
  have hD := hD0.self (sz := s.heap.size)
  have hA : ∀ q : Nat, s.heap.size ≤ q → va_A (mW G h0 a (upd F 82 hp) B) s.heap.size q := fun q h => Or.inr h
  have hP : va_P G.1 pCl (mW G h0 a (upd F 82 hp) B) s.heap := hP
  generalize va_A (mW G h0 a (upd F 82 hp) B) s.heap.size = A at hD hE hA ⊢
  have hS : va_S A s.heap s.heap [] := va_S.rf
  have hl := lv_entry ([.ref h0, .int f9, .int c9]) (n := 5) (Nat.le_of_ble_eq_true rfl)
  rw [lg_entry_eq]
  generalize (lg_sl ([.ref h0, .int f9, .int c9]) ++ List.replicate (5 - (lg_sl ([.ref h0, .int f9, .int c9])).length) Slot.unset).toArray = ls at hl ⊢
  have hl : lv_has ls 5 [(0, .ref h0), (1, .int f9), (2, .int c9)] := hl
  refine lv_aload_n hx hb dX12_run_0 rfl (lv_at hl 0 rfl) ?_
  refine lv_iload_n hx hb dX12_run_1 rfl (lv_at hl 1 rfl) ?_
  refine lv_iconst (v := 0) hx hb dX12_run_2 (by decide) ?_
  refine lv_sipush (v := 20000) hx hb dX12_run_3 (by decide) ?_
  refine pc_SN (G := G) (As := [.int f9, .int 0, .int 20000]) (rest := [.ref h0]) hx hb hml hown hq hE hX pX0_al hP hS hA hl.1 (s_in l G f9 0 20000) (gS pw_1521 pw_1522 pw_1523 pw_1513) hS_X12_in rfl (Nat.le_of_ble_eq_true rfl) dX12_run_6 ⟨Nat.le_of_ble_eq_true rfl, Nat.le_of_ble_eq_true rfl⟩ ⟨Nat.le_of_ble_eq_true rfl, Nat.le_of_ble_eq_true rfl⟩ (fun v3 u1 H locs hw2 hP hS => ?_)
  obtain rfl : v3 = some (.int (isin f9 0 20000)) := hw2
  refine W.widen (k := 0) (n := 0) (Nat.le_of_ble_eq_true rfl) (Nat.le_of_ble_eq_true rfl) ?_
  refine W.eq (g2 := F0 m 9 ls [.int (isin f9 0 20000), .ref h0]) rfl ?_
  refine lv_if_eq (tgt := 39) hx hb dX12_run_9 (by decide) (fun c4 => ?_) (fun c4 => ?_)
  · refine lv_iconst (v := 1) hx hb dX12_run_39 (by decide) ?_
    refine r_put (v := 1) (ty := .int) hx hb hown hq hE hP hD hS 0 252 tFX12_0 (by decide) pw_1515 (by decide) rfl rfl (ms_0 a _ _) dX12_run_40 (fun H locs hP hD hS => ?_)
    refine lv_aload_n hx hb dX12_run_43 rfl (lv_at hl 0 rfl) ?_
    refine r_get (v := .int 1) hx hb hown hq hE hP 0 252 tFX12_0 (by decide) pw_1515 rfl dX12_run_44 ?_
    refine lv_if_le (tgt := 52) hx hb dX12_run_47 (by decide) (fun c5 => absurd c5 (by decide)) (fun c5 => ?_)
    refine lv_iconst (v := 0) hx hb dX12_run_50 (by decide) ?_
    have hP : va_P G.1 pCl (mW G h0 a (upd (upd F 0 (1 : Int32)) 82 hp) B) _ := mW_to (F := F) (l1 := [(82, hp), (0, 1)]) (l2 := [(0, (1 : Int32)), (82, hp)]) (V := [hp, (1 : Int32), (1 : Int32), hp]) rfl rfl rfl hP
    have hD : va_D A (mW G h0 a (upd (upd F 0 (1 : Int32)) 82 hp) B) := mW_D hD
    exact W.iret (v := 0) hx hb hr (fun t9 ht9 hW9 => ⟨⟨_, (1 : Int32), rfl, rfl, by rw [ht9]; exact hP, hD⟩, hS.F ht9⟩) hS.2.2 dX12_run_51
  · refine lv_iload_n hx hb dX12_run_12 rfl (lv_at hl 2 rfl) ?_
    refine lv_bipush (v := 10) hx hb dX12_run_13 (by decide) ?_
    refine lv_sipush (v := 3000) hx hb dX12_run_15 (by decide) ?_
    refine pc_SN (G := G) (As := [.int c9, .int 10, .int 3000]) (rest := [.ref h0]) hx hb hml hown hq hE hX pX0_al hP hS hA hl.1 (s_in l G c9 10 3000) (gS pw_1521 pw_1522 pw_1523 pw_1513) hS_X12_in rfl (Nat.le_of_ble_eq_true rfl) dX12_run_18 ⟨Nat.le_of_ble_eq_true rfl, Nat.le_of_ble_eq_true rfl⟩ ⟨Nat.le_of_ble_eq_true rfl, Nat.le_of_ble_eq_true rfl⟩ (fun v8 u6 H locs hw7 hP hS => ?_)
    obtain rfl : v8 = some (.int (isin c9 10 3000)) := hw7
    refine W.widen (k := 0) (n := 0) (Nat.le_of_ble_eq_true rfl) (Nat.le_of_ble_eq_true rfl) ?_
    refine W.eq (g2 := F0 m 21 ls [.int (isin c9 10 3000), .ref h0]) rfl ?_
    refine lv_if_eq (tgt := 39) hx hb dX12_run_21 (by decide) (fun c10 => ?_) (fun c10 => ?_)
    · refine lv_iconst (v := 1) hx hb dX12_run_39 (by decide) ?_
      refine r_put (v := 1) (ty := .int) hx hb hown hq hE hP hD hS 0 252 tFX12_0 (by decide) pw_1515 (by decide) rfl rfl (ms_0 a _ _) dX12_run_40 (fun H locs hP hD hS => ?_)
      refine lv_aload_n hx hb dX12_run_43 rfl (lv_at hl 0 rfl) ?_
      refine r_get (v := .int 1) hx hb hown hq hE hP 0 252 tFX12_0 (by decide) pw_1515 rfl dX12_run_44 ?_
      refine lv_if_le (tgt := 52) hx hb dX12_run_47 (by decide) (fun c11 => absurd c11 (by decide)) (fun c11 => ?_)
      refine lv_iconst (v := 0) hx hb dX12_run_50 (by decide) ?_
      have hP : va_P G.1 pCl (mW G h0 a (upd (upd F 0 (1 : Int32)) 82 hp) B) _ := mW_to (F := F) (l1 := [(82, hp), (0, 1)]) (l2 := [(0, (1 : Int32)), (82, hp)]) (V := [hp, (1 : Int32), (1 : Int32), hp]) rfl rfl rfl hP
      have hD : va_D A (mW G h0 a (upd (upd F 0 (1 : Int32)) 82 hp) B) := mW_D hD
      exact W.iret (v := 0) hx hb hr (fun t9 ht9 hW9 => ⟨⟨_, (1 : Int32), rfl, rfl, by rw [ht9]; exact hP, hD⟩, hS.F ht9⟩) hS.2.2 dX12_run_51
    · refine lv_aload_n hx hb dX12_run_24 rfl (lv_at hl 0 rfl) ?_
      refine r_get (v := .int hp) hx hb hown hq hE hP 82 649 tFX12_82 (by decide) pw_1922 rfl dX12_run_25 ?_
      refine lv_if_eq (tgt := 35) hx hb dX12_run_28 (by decide) (fun c12 => ?_) (fun c12 => (absurd hz9 (fun z => z.elim c4 (fun z => z.elim c10 c12))))
      refine lv_iconst (v := 2) hx hb dX12_run_35 (by decide) ?_
      refine lv_goto (tgt := 40) hx hb dX12_run_36 (by decide) ?_
      refine r_put (v := 2) (ty := .int) hx hb hown hq hE hP hD hS 0 252 tFX12_0 (by decide) pw_1515 (by decide) rfl rfl (ms_0 a _ _) dX12_run_40 (fun H locs hP hD hS => ?_)
      refine lv_aload_n hx hb dX12_run_43 rfl (lv_at hl 0 rfl) ?_
      refine r_get (v := .int 2) hx hb hown hq hE hP 0 252 tFX12_0 (by decide) pw_1515 rfl dX12_run_44 ?_
      refine lv_if_le (tgt := 52) hx hb dX12_run_47 (by decide) (fun c13 => absurd c13 (by decide)) (fun c13 => ?_)
      refine lv_iconst (v := 0) hx hb dX12_run_50 (by decide) ?_
      have hP : va_P G.1 pCl (mW G h0 a (upd (upd F 0 (2 : Int32)) 82 hp) B) _ := mW_to (F := F) (l1 := [(82, hp), (0, 2)]) (l2 := [(0, (2 : Int32)), (82, hp)]) (V := [hp, (2 : Int32), (2 : Int32), hp]) rfl rfl rfl hP
      have hD : va_D A (mW G h0 a (upd (upd F 0 (2 : Int32)) 82 hp) B) := mW_D hD
      exact W.iret (v := 0) hx hb hr (fun t9 ht9 hW9 => ⟨⟨_, (2 : Int32), rfl, rfl, by rw [ht9]; exact hP, hD⟩, hS.F ht9⟩) hS.2.2 dX12_run_51
