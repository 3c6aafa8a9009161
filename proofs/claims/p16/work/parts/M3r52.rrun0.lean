theorem vp_bit {b : Nat} (h : b ≤ 1) : vp_nar .boolean (nI b) = nI b := by
  rcases (show b = 0 ∨ b = 1 by omega) with e | e <;> rw [e] <;> rfl
/-- class of a value: a built one by its number, else by its row -/
def clF (oc : Nat → Int32) (x : Nat) : Int32 := if 4000 < x then nI (x - 4000) else oc (x - 1)
theorem clF_1 {oc : Nat → Int32} {x : Nat} (h : 4000 < x) : clF oc x = nI (x - 4000) := if_pos h
theorem clF_2 {oc : Nat → Int32} {x : Nat} (h : ¬ 4000 < x) : clF oc x = oc (x - 1) := if_neg h
theorem dX12_push_0 : decode cX12_push 0 = .ok (.aload_n 0, 1) := by decide +kernel
theorem dX12_push_1 : decode cX12_push 1 = .ok (.getfield 218, 3) := by decide +kernel
theorem dX12_push_4 : decode cX12_push 4 = .ok (.aload_n 0, 1) := by decide +kernel
theorem dX12_push_5 : decode cX12_push 5 = .ok (.getfield 698, 3) := by decide +kernel
theorem dX12_push_8 : decode cX12_push 8 = .ok (.iload_n 1, 1) := by decide +kernel
theorem dX12_push_9 : decode cX12_push 9 = .ok (.iastore, 1) := by decide +kernel
theorem dX12_push_10 : decode cX12_push 10 = .ok (.aload_n 0, 1) := by decide +kernel
theorem dX12_push_11 : decode cX12_push 11 = .ok (.getfield 221, 3) := by decide +kernel
theorem dX12_push_14 : decode cX12_push 14 = .ok (.aload_n 0, 1) := by decide +kernel
theorem dX12_push_15 : decode cX12_push 15 = .ok (.getfield 698, 3) := by decide +kernel
theorem dX12_push_18 : decode cX12_push 18 = .ok (.iload_n 2, 1) := by decide +kernel
theorem dX12_push_19 : decode cX12_push 19 = .ok (.bastore, 1) := by decide +kernel
theorem dX12_push_20 : decode cX12_push 20 = .ok (.aload_n 0, 1) := by decide +kernel
theorem dX12_push_21 : decode cX12_push 21 = .ok (.dup, 1) := by decide +kernel
theorem dX12_push_22 : decode cX12_push 22 = .ok (.getfield 698, 3) := by decide +kernel
theorem dX12_push_25 : decode cX12_push 25 = .ok (.iconst 1, 1) := by decide +kernel
theorem dX12_push_26 : decode cX12_push 26 = .ok (.iadd, 1) := by decide +kernel
theorem dX12_push_27 : decode cX12_push 27 = .ok (.putfield 698, 3) := by decide +kernel
theorem dX12_push_30 : decode cX12_push 30 = .ok (.return_, 1) := by decide +kernel
set_option maxHeartbeats 2000000 in
set_option maxRecDepth 100000 in
/-- push(v, isReference) -/
theorem R_push (l : Launch) (G : pT) (h0 : Nat) (a : Nat → Nat) (F : Nat → Int32) (B : Nat → Nat → Int32) (x : Int32) (b9 : Nat) (tp : Nat) (stk : Nat → Int32) (rfr : Nat → Int32) (hb9 : b9 ≤ 1) (htp : tp < 40000) : PM l G pX0 yX12_push cX12_push 3 none ({ frames := 2, cells := 0, slots := 0, locals := 60 }) [.ref h0, .int x, .int (nI b9)] (mW G h0 a (upd F 111 (nI tp)) (updA (updA B 68 stk) 69 rfr)) (fun (v : Option Value) (u : (Nat → Int32)) => v = none ∧ (u = upd rfr tp (nI b9))) (fun u => (mW G h0 a (upd F 111 (nI (tp + 1))) (updA (updA B 68 (upd stk tp x)) 69 u))) := by
  intro sz
  refine Met.ofW (cc := cX12_push) (maxL := 3) (ret := none) (by decide) rfl ?_
  intro p e s m args below meth c s₁ B9 hml hv
  obtain ⟨rfl, hsz, hP, hD0, hE, hX⟩ := hv
  have hx := B9.exec
  have hb := B9.bytes
  have hr := B9.returns
  have hts := atoms_spec (ws := Cond.code yX12_push cX12_push 3 none :: pw) B9.pre
  have hq : ∀ w ∈ pw, w.before _ s = true := fun w h => hts w (List.mem_cons_of_mem _ h)
  have hown : s.vm.findClass RX12 = some m.cls := findClass_of_methodNamed B9.named
  have hlocks := B9.notSynchronized
  subst hsz
  have hD := hD0.self (sz := s.heap.size)
  have hA : ∀ q : Nat, s.heap.size ≤ q → va_A (mW G h0 a (upd F 111 (nI tp)) (updA (updA B 68 stk) 69 rfr)) s.heap.size q := fun q h => Or.inr h
  have hP : va_P G.1 pCl (mW G h0 a (upd F 111 (nI tp)) (updA (updA B 68 stk) 69 rfr)) s.heap := hP
  generalize va_A (mW G h0 a (upd F 111 (nI tp)) (updA (updA B 68 stk) 69 rfr)) s.heap.size = A at hD hE hA ⊢
  have hS : va_S A s.heap s.heap [] := va_S.rf
  have hl := lv_entry ([.ref h0, .int x, .int (nI b9)]) (n := 3) (Nat.le_of_ble_eq_true rfl)
  rw [lg_entry_eq]
  generalize (lg_sl ([.ref h0, .int x, .int (nI b9)]) ++ List.replicate (3 - (lg_sl ([.ref h0, .int x, .int (nI b9)])).length) Slot.unset).toArray = ls at hl ⊢
  have hl : lv_has ls 3 [(0, .ref h0), (1, .int x), (2, .int (nI b9))] := hl
  refine lv_aload_n hx hb dX12_push_0 rfl (lv_at hl 0 rfl) ?_
  refine r_get (v := .ref (a 68)) hx hb hown hq hE hP 109 218 tFX12_109 (by decide) pw_1501 rfl dX12_push_1 ?_
  refine lv_aload_n hx hb dX12_push_4 rfl (lv_at hl 0 rfl) ?_
  refine r_get (v := .int (nI tp)) hx hb hown hq hE hP 111 698 tFX12_111 (by decide) pw_1964 rfl dX12_push_5 ?_
  refine lv_iload_n hx hb dX12_push_8 rfl (lv_at hl 1 rfl) ?_
  refine r_sti (f := stk) (j := tp) hx hb hE hP hD hS 68 (ma_68 G a _) rfl (mas_68 G a _) (by omega) (by decide) dX12_push_9 (fun H locs hP hD hS => ?_)
  refine lv_aload_n hx hb dX12_push_10 rfl (lv_at hl 0 rfl) ?_
  refine r_get (v := .ref (a 69)) hx hb hown hq hE hP 110 221 tFX12_110 (by decide) pw_1502 rfl dX12_push_11 ?_
  refine lv_aload_n hx hb dX12_push_14 rfl (lv_at hl 0 rfl) ?_
  refine r_get (v := .int (nI tp)) hx hb hown hq hE hP 111 698 tFX12_111 (by decide) pw_1964 rfl dX12_push_15 ?_
  refine lv_iload_n hx hb dX12_push_18 rfl (lv_at hl 2 rfl) ?_
  refine r_stz (f := rfr) (j := tp) hx hb hE hP hD hS 69 (ma_69 G a _) rfl (mas_69 G a _) (by omega) (by decide) dX12_push_19 (fun H locs hP hD hS => ?_)
  refine lv_aload_n hx hb dX12_push_20 rfl (lv_at hl 0 rfl) ?_
  refine lv_dup hx hb dX12_push_21 rfl ?_
  refine r_get (v := .int (nI tp)) hx hb hown hq hE hP 111 698 tFX12_111 (by decide) pw_1964 rfl dX12_push_22 ?_
  refine lv_iconst (v := 1) hx hb dX12_push_25 (by decide) ?_
  refine lv_iadd hx hb dX12_push_26 ?_
  refine lv_topi (fun x1 e2 => ?_)
  obtain rfl : x1 = nI (tp + 1) := e2.trans (nI_add (tp) (1))
  refine r_put (v := (nI (tp + 1))) (ty := .int) hx hb hown hq hE hP hD hS 111 698 tFX12_111 (by decide) pw_1964 (by decide) rfl rfl (ms_111 a _ _) dX12_push_27 (fun H locs hP hD hS => ?_)
  have hz3 : (upd rfr tp (vp_nar .boolean (nI b9))) = upd rfr tp (nI b9) := (by rw [vp_bit hb9])
  have hP : va_P G.1 pCl (mW G h0 a (upd F 111 (nI (tp + 1))) (updA (updA B 68 (upd stk tp x)) 69 (upd rfr tp (vp_nar .boolean (nI b9))))) _ := mW_to (F := F) (l1 := [(111, (nI tp)), (111, (nI (tp + 1)))]) (l2 := [(111, (nI (tp + 1)))]) (V := [(nI (tp + 1)), (nI (tp + 1)), (nI (tp + 1))]) rfl rfl (show (updA (updA (updA (updA B 68 stk) 69 rfr) 68 (upd stk tp x)) 69 (upd rfr tp (vp_nar .boolean (nI b9)))) = (updA (updA B 68 (upd stk tp x)) 69 (upd rfr tp (vp_nar .boolean (nI b9)))) from updsA_eq2 (F := B) (l1 := [(68, stk), (69, rfr), (68, (upd stk tp x)), (69, (upd rfr tp (vp_nar .boolean (nI b9))))]) (l2 := [(68, (upd stk tp x)), (69, (upd rfr tp (vp_nar .boolean (nI b9))))]) (V := [(upd stk tp x), (upd rfr tp (vp_nar .boolean (nI b9))), (upd stk tp x), (upd rfr tp (vp_nar .boolean (nI b9))), (upd stk tp x), (upd rfr tp (vp_nar .boolean (nI b9)))]) rfl rfl) hP
  have hD : va_D A (mW G h0 a (upd F 111 (nI (tp + 1))) (updA (updA B 68 (upd stk tp x)) 69 (upd rfr tp (vp_nar .boolean (nI b9))))) := mW_D hD
  exact W.vret hx hb hr (fun t9 ht9 hW9 => ⟨⟨_, (upd rfr tp (vp_nar .boolean (nI b9))), rfl, ⟨rfl, hz3⟩, by rw [ht9]; exact hP, hD⟩, hS.F ht9⟩) hS.2.2 dX12_push_30
theorem dX12_pop_0 : decode cX12_pop 0 = .ok (.aload_n 0, 1) := by decide +kernel
theorem dX12_pop_1 : decode cX12_pop 1 = .ok (.dup, 1) := by decide +kernel
theorem dX12_pop_2 : decode cX12_pop 2 = .ok (.getfield 698, 3) := by decide +kernel
theorem dX12_pop_5 : decode cX12_pop 5 = .ok (.iconst 1, 1) := by decide +kernel
theorem dX12_pop_6 : decode cX12_pop 6 = .ok (.isub, 1) := by decide +kernel
theorem dX12_pop_7 : decode cX12_pop 7 = .ok (.putfield 698, 3) := by decide +kernel
theorem dX12_pop_10 : decode cX12_pop 10 = .ok (.aload_n 0, 1) := by decide +kernel
theorem dX12_pop_11 : decode cX12_pop 11 = .ok (.getfield 218, 3) := by decide +kernel
theorem dX12_pop_14 : decode cX12_pop 14 = .ok (.aload_n 0, 1) := by decide +kernel
theorem dX12_pop_15 : decode cX12_pop 15 = .ok (.getfield 698, 3) := by decide +kernel
theorem dX12_pop_18 : decode cX12_pop 18 = .ok (.iaload, 1) := by decide +kernel
theorem dX12_pop_19 : decode cX12_pop 19 = .ok (.ireturn, 1) := by decide +kernel
set_option maxHeartbeats 2000000 in
set_option maxRecDepth 100000 in
/-- pop() -/
theorem R_pop (l : Launch) (G : pT) (h0 : Nat) (a : Nat → Nat) (F : Nat → Int32) (B : Nat → Nat → Int32) (tp : Nat) (stk : Nat → Int32) (htp : 1 ≤ tp ∧ tp ≤ 40000) : PM l G pX0 yX12_pop cX12_pop 1 (some .int) ({ frames := 2, cells := 0, slots := 0, locals := 60 }) [.ref h0] (mW G h0 a (upd F 111 (nI tp)) (updA B 68 stk)) (fun (v : Option Value) (u : Unit) => v = some (.int (stk (tp - 1)))) (fun u => (mW G h0 a (upd F 111 (nI (tp - 1))) (updA B 68 stk))) := by
  intro sz
  refine Met.ofW (cc := cX12_pop) (maxL := 1) (ret := (some .int)) (by decide) rfl ?_
  intro p e s m args below meth c s₁ B9 hml hv
  obtain ⟨rfl, hsz, hP, hD0, hE, hX⟩ := hv
  have hx := B9.exec
  have hb := B9.bytes
  have hr := B9.returns
  have hts := atoms_spec (ws := Cond.code yX12_pop cX12_pop 1 (some .int) :: pw) B9.pre
  have hq : ∀ w ∈ pw, w.before _ s = true := fun w h => hts w (List.mem_cons_of_mem _ h)
  have hown : s.vm.findClass RX12 = some m.cls := findClass_of_methodNamed B9.named
  have hlocks := B9.notSynchronized
  subst hsz
  have hD := hD0.self (sz := s.heap.size)
  have hA : ∀ q : Nat, s.heap.size ≤ q → va_A (mW G h0 a (upd F 111 (nI tp)) (updA B 68 stk)) s.heap.size q := fun q h => Or.inr h
  have hP : va_P G.1 pCl (mW G h0 a (upd F 111 (nI tp)) (updA B 68 stk)) s.heap := hP
  generalize va_A (mW G h0 a (upd F 111 (nI tp)) (updA B 68 stk)) s.heap.size = A at hD hE hA ⊢
  have hS : va_S A s.heap s.heap [] := va_S.rf
  have hl := lv_entry ([.ref h0]) (n := 1) (Nat.le_of_ble_eq_true rfl)
  rw [lg_entry_eq]
  generalize (lg_sl ([.ref h0]) ++ List.replicate (1 - (lg_sl ([.ref h0])).length) Slot.unset).toArray = ls at hl ⊢
  have hl : lv_has ls 1 [(0, .ref h0)] := hl
  refine lv_aload_n hx hb dX12_pop_0 rfl (lv_at hl 0 rfl) ?_
  refine lv_dup hx hb dX12_pop_1 rfl ?_
  refine r_get (v := .int (nI tp)) hx hb hown hq hE hP 111 698 tFX12_111 (by decide) pw_1964 rfl dX12_pop_2 ?_
  refine lv_iconst (v := 1) hx hb dX12_pop_5 (by decide) ?_
  refine lv_isub hx hb dX12_pop_6 ?_
  refine lv_topi (fun x1 e2 => ?_)
  obtain rfl : x1 = nI (tp - 1) := e2.trans (nI_subN (a := 1) (b := tp) (by omega))
  refine r_put (v := (nI (tp - 1))) (ty := .int) hx hb hown hq hE hP hD hS 111 698 tFX12_111 (by decide) pw_1964 (by decide) rfl rfl (ms_111 a _ _) dX12_pop_7 (fun H locs hP hD hS => ?_)
  refine lv_aload_n hx hb dX12_pop_10 rfl (lv_at hl 0 rfl) ?_
  refine r_get (v := .ref (a 68)) hx hb hown hq hE hP 109 218 tFX12_109 (by decide) pw_1501 rfl dX12_pop_11 ?_
  refine lv_aload_n hx hb dX12_pop_14 rfl (lv_at hl 0 rfl) ?_
  refine r_get (v := .int (nI (tp - 1))) hx hb hown hq hE hP 111 698 tFX12_111 (by decide) pw_1964 rfl dX12_pop_15 ?_
  refine r_ldi (f := stk) (j := (tp - 1)) hx hb hE hP 68 (ma_68 G a _) rfl (by omega) (by decide) dX12_pop_18 ?_
  have hP : va_P G.1 pCl (mW G h0 a (upd F 111 (nI (tp - 1))) (updA B 68 stk)) _ := mW_to (F := F) (l1 := [(111, (nI tp)), (111, (nI (tp - 1)))]) (l2 := [(111, (nI (tp - 1)))]) (V := [(nI (tp - 1)), (nI (tp - 1)), (nI (tp - 1))]) rfl rfl rfl hP
  have hD : va_D A (mW G h0 a (upd F 111 (nI (tp - 1))) (updA B 68 stk)) := mW_D hD
  exact W.iret (v := (stk (tp - 1))) hx hb hr (fun t9 ht9 hW9 => ⟨⟨_, (), rfl, rfl, by rw [ht9]; exact hP, hD⟩, hS.F ht9⟩) hS.2.2 dX12_pop_19
theorem dX12_begin_0 : decode cX12_begin 0 = .ok (.aload_n 0, 1) := by decide +kernel
theorem dX12_begin_1 : decode cX12_begin 1 = .ok (.iload_n 1, 1) := by decide +kernel
theorem dX12_begin_2 : decode cX12_begin 2 = .ok (.putfield 751, 3) := by decide +kernel
theorem dX12_begin_5 : decode cX12_begin 5 = .ok (.aload_n 0, 1) := by decide +kernel
theorem dX12_begin_6 : decode cX12_begin 6 = .ok (.iconst 1, 1) := by decide +kernel
theorem dX12_begin_7 : decode cX12_begin 7 = .ok (.putfield 754, 3) := by decide +kernel
theorem dX12_begin_10 : decode cX12_begin 10 = .ok (.return_, 1) := by decide +kernel
set_option maxHeartbeats 2000000 in
set_option maxRecDepth 100000 in
/-- begin(n) -/
theorem R_begin (l : Launch) (G : pT) (h0 : Nat) (a : Nat → Nat) (F : Nat → Int32) (B : Nat → Nat → Int32) (x : Int32) : PM l G pX0 yX12_begin cX12_begin 2 none ({ frames := 2, cells := 0, slots := 0, locals := 60 }) [.ref h0, .int x] (mW G h0 a F B) (fun (v : Option Value) (u : Unit) => v = none) (fun u => (mW G h0 a (upd (upd F 125 x) 126 1) B)) := by
  intro sz
  refine Met.ofW (cc := cX12_begin) (maxL := 2) (ret := none) (by decide) rfl ?_
  intro p e s m args below meth c s₁ B9 hml hv
  obtain ⟨rfl, hsz, hP, hD0, hE, hX⟩ := hv
  have hx := B9.exec
  have hb := B9.bytes
  have hr := B9.returns
  have hts := atoms_spec (ws := Cond.code yX12_begin cX12_begin 2 none :: pw) B9.pre
  have hq : ∀ w ∈ pw, w.before _ s = true := fun w h => hts w (List.mem_cons_of_mem _ h)
  have hown : s.vm.findClass RX12 = some m.cls := findClass_of_methodNamed B9.named
  have hlocks := B9.notSynchronized
  subst hsz
  have hD := hD0.self (sz := s.heap.size)
  have hA : ∀ q : Nat, s.heap.size ≤ q → va_A (mW G h0 a F B) s.heap.size q := fun q h => Or.inr h
  have hP : va_P G.1 pCl (mW G h0 a F B) s.heap := hP
  generalize va_A (mW G h0 a F B) s.heap.size = A at hD hE hA ⊢
  have hS : va_S A s.heap s.heap [] := va_S.rf
  have hl := lv_entry ([.ref h0, .int x]) (n := 2) (Nat.le_of_ble_eq_true rfl)
  rw [lg_entry_eq]
  generalize (lg_sl ([.ref h0, .int x]) ++ List.replicate (2 - (lg_sl ([.ref h0, .int x])).length) Slot.unset).toArray = ls at hl ⊢
  have hl : lv_has ls 2 [(0, .ref h0), (1, .int x)] := hl
  refine lv_aload_n hx hb dX12_begin_0 rfl (lv_at hl 0 rfl) ?_
  refine lv_iload_n hx hb dX12_begin_1 rfl (lv_at hl 1 rfl) ?_
  refine r_put (v := x) (ty := .int) hx hb hown hq hE hP hD hS 125 751 tFX12_125 (by decide) pw_2003 (by decide) rfl rfl (ms_125 a _ _) dX12_begin_2 (fun H locs hP hD hS => ?_)
  refine lv_aload_n hx hb dX12_begin_5 rfl (lv_at hl 0 rfl) ?_
  refine lv_iconst (v := 1) hx hb dX12_begin_6 (by decide) ?_
  refine r_put (v := 1) (ty := .boolean) hx hb hown hq hE hP hD hS 126 754 tFX12_126 (by decide) pw_2004 (by decide) rfl rfl (ms_126 a _ _) dX12_begin_7 (fun H locs hP hD hS => ?_)
  have hP : va_P G.1 pCl (mW G h0 a (upd (upd F 125 x) 126 1) B) _ := hP
  have hD : va_D A (mW G h0 a (upd (upd F 125 x) 126 1) B) := mW_D hD
  exact W.vret hx hb hr (fun t9 ht9 hW9 => ⟨⟨_, (), rfl, rfl, by rw [ht9]; exact hP, hD⟩, hS.F ht9⟩) hS.2.2 dX12_begin_10
theorem dX12_comesToEnd_0 : decode cX12_comesToEnd 0 = .ok (.aload_n 0, 1) := by decide +kernel
theorem dX12_comesToEnd_1 : decode cX12_comesToEnd 1 = .ok (.iload_n 1, 1) := by decide +kernel
theorem dX12_comesToEnd_2 : decode cX12_comesToEnd 2 = .ok (.putfield 751, 3) := by decide +kernel
theorem dX12_comesToEnd_5 : decode cX12_comesToEnd 5 = .ok (.aload_n 0, 1) := by decide +kernel
theorem dX12_comesToEnd_6 : decode cX12_comesToEnd 6 = .ok (.iconst 0, 1) := by decide +kernel
theorem dX12_comesToEnd_7 : decode cX12_comesToEnd 7 = .ok (.putfield 754, 3) := by decide +kernel
theorem dX12_comesToEnd_10 : decode cX12_comesToEnd 10 = .ok (.return_, 1) := by decide +kernel
set_option maxHeartbeats 2000000 in
set_option maxRecDepth 100000 in
/-- comesToEnd(n) -/
theorem R_comesToEnd (l : Launch) (G : pT) (h0 : Nat) (a : Nat → Nat) (F : Nat → Int32) (B : Nat → Nat → Int32) (x : Int32) : PM l G pX0 yX12_comesToEnd cX12_comesToEnd 2 none ({ frames := 2, cells := 0, slots := 0, locals := 60 }) [.ref h0, .int x] (mW G h0 a F B) (fun (v : Option Value) (u : Unit) => v = none) (fun u => (mW G h0 a (upd (upd F 125 x) 126 0) B)) := by
  intro sz
  refine Met.ofW (cc := cX12_comesToEnd) (maxL := 2) (ret := none) (by decide) rfl ?_
  intro p e s m args below meth c s₁ B9 hml hv
  obtain ⟨rfl, hsz, hP, hD0, hE, hX⟩ := hv
  have hx := B9.exec
  have hb := B9.bytes
  have hr := B9.returns
  have hts := atoms_spec (ws := Cond.code yX12_comesToEnd cX12_comesToEnd 2 none :: pw) B9.pre
  have hq : ∀ w ∈ pw, w.before _ s = true := fun w h => hts w (List.mem_cons_of_mem _ h)
  have hown : s.vm.findClass RX12 = some m.cls := findClass_of_methodNamed B9.named
  have hlocks := B9.notSynchronized
  subst hsz
  have hD := hD0.self (sz := s.heap.size)
  have hA : ∀ q : Nat, s.heap.size ≤ q → va_A (mW G h0 a F B) s.heap.size q := fun q h => Or.inr h
  have hP : va_P G.1 pCl (mW G h0 a F B) s.heap := hP
  generalize va_A (mW G h0 a F B) s.heap.size = A at hD hE hA ⊢
  have hS : va_S A s.heap s.heap [] := va_S.rf
  have hl := lv_entry ([.ref h0, .int x]) (n := 2) (Nat.le_of_ble_eq_true rfl)
  rw [lg_entry_eq]
  generalize (lg_sl ([.ref h0, .int x]) ++ List.replicate (2 - (lg_sl ([.ref h0, .int x])).length) Slot.unset).toArray = ls at hl ⊢
  have hl : lv_has ls 2 [(0, .ref h0), (1, .int x)] := hl
  refine lv_aload_n hx hb dX12_comesToEnd_0 rfl (lv_at hl 0 rfl) ?_
  refine lv_iload_n hx hb dX12_comesToEnd_1 rfl (lv_at hl 1 rfl) ?_
  refine r_put (v := x) (ty := .int) hx hb hown hq hE hP hD hS 125 751 tFX12_125 (by decide) pw_2003 (by decide) rfl rfl (ms_125 a _ _) dX12_comesToEnd_2 (fun H locs hP hD hS => ?_)
  refine lv_aload_n hx hb dX12_comesToEnd_5 rfl (lv_at hl 0 rfl) ?_
  refine lv_iconst (v := 0) hx hb dX12_comesToEnd_6 (by decide) ?_
  refine r_put (v := 0) (ty := .boolean) hx hb hown hq hE hP hD hS 126 754 tFX12_126 (by decide) pw_2004 (by decide) rfl rfl (ms_126 a _ _) dX12_comesToEnd_7 (fun H locs hP hD hS => ?_)
  have hP : va_P G.1 pCl (mW G h0 a (upd (upd F 125 x) 126 0) B) _ := hP
  have hD : va_D A (mW G h0 a (upd (upd F 125 x) 126 0) B) := mW_D hD
  exact W.vret hx hb hr (fun t9 ht9 hW9 => ⟨⟨_, (), rfl, rfl, by rw [ht9]; exact hP, hD⟩, hS.F ht9⟩) hS.2.2 dX12_comesToEnd_10
theorem dX12_pays_0 : decode cX12_pays 0 = .ok (.aload_n 0, 1) := by decide +kernel
theorem dX12_pays_1 : decode cX12_pays 1 = .ok (.getfield 748, 3) := by decide +kernel
theorem dX12_pays_4 : decode cX12_pays 4 = .ok (.ifCond .ne 10, 3) := by decide +kernel
theorem dX12_pays_14 : decode cX12_pays 14 = .ok (.aload_n 0, 1) := by decide +kernel
theorem dX12_pays_15 : decode cX12_pays 15 = .ok (.dup, 1) := by decide +kernel
theorem dX12_pays_16 : decode cX12_pays 16 = .ok (.getfield 748, 3) := by decide +kernel
theorem dX12_pays_19 : decode cX12_pays 19 = .ok (.iconst 1, 1) := by decide +kernel
theorem dX12_pays_20 : decode cX12_pays 20 = .ok (.isub, 1) := by decide +kernel
theorem dX12_pays_21 : decode cX12_pays 21 = .ok (.putfield 748, 3) := by decide +kernel
theorem dX12_pays_24 : decode cX12_pays 24 = .ok (.iconst 1, 1) := by decide +kernel
theorem dX12_pays_25 : decode cX12_pays 25 = .ok (.ireturn, 1) := by decide +kernel
theorem dX12_pays_7 : decode cX12_pays 7 = .ok (.aload_n 0, 1) := by decide +kernel
theorem dX12_pays_8 : decode cX12_pays 8 = .ok (.iconst 2, 1) := by decide +kernel
theorem dX12_pays_9 : decode cX12_pays 9 = .ok (.putfield 233, 3) := by decide +kernel
theorem dX12_pays_12 : decode cX12_pays 12 = .ok (.iconst 0, 1) := by decide +kernel
theorem dX12_pays_13 : decode cX12_pays 13 = .ok (.ireturn, 1) := by decide +kernel
set_option maxHeartbeats 2000000 in
set_option maxRecDepth 100000 in
/-- pays() -/
theorem R_pays (l : Launch) (G : pT) (h0 : Nat) (a : Nat → Nat) (F : Nat → Int32) (B : Nat → Nat → Int32) (fu : Nat) (en : Int32) (hfu : fu ≤ 20000) : PM l G pX0 yX12_pays cX12_pays 1 (some .boolean) ({ frames := 2, cells := 0, slots := 0, locals := 60 }) [.ref h0] (mW G h0 a (upd (upd F 116 en) 117 (nI fu)) B) (fun (v : Option Value) (u : Nat × Nat × Int32) => v = some (.int (nI u.1)) ∧ (u.1 ≤ 1) ∧ (u.2.1 + u.1 = fu) ∧ (If (u.1 = 1) (u.2.2 = en)) ∧ (If (u.1 = 0) (u.2.2 = 2))) (fun u => (mW G h0 a (upd (upd F 116 u.2.2) 117 (nI u.2.1)) B)) := by
  intro sz
  refine Met.ofW (cc := cX12_pays) (maxL := 1) (ret := (some .boolean)) (by decide) rfl ?_
  intro p e s m args below meth c s₁ B9 hml hv
  obtain ⟨rfl, hsz, hP, hD0, hE, hX⟩ := hv
  have hx := B9.exec
  have hb := B9.bytes
  have hr := B9.returns
  have hts := atoms_spec (ws := Cond.code yX12_pays cX12_pays 1 (some .boolean) :: pw) B9.pre
  have hq : ∀ w ∈ pw, w.before _ s = true := fun w h => hts w (List.mem_cons_of_mem _ h)
  have hown : s.vm.findClass RX12 = some m.cls := findClass_of_methodNamed B9.named
  have hlocks := B9.notSynchronized
  subst hsz
  have hD := hD0.self (sz := s.heap.size)
  have hA : ∀ q : Nat, s.heap.size ≤ q → va_A (mW G h0 a (upd (upd F 116 en) 117 (nI fu)) B) s.heap.size q := fun q h => Or.inr h
  have hP : va_P G.1 pCl (mW G h0 a (upd (upd F 116 en) 117 (nI fu)) B) s.heap := hP
  generalize va_A (mW G h0 a (upd (upd F 116 en) 117 (nI fu)) B) s.heap.size = A at hD hE hA ⊢
  have hS : va_S A s.heap s.heap [] := va_S.rf
  have hl := lv_entry ([.ref h0]) (n := 1) (Nat.le_of_ble_eq_true rfl)
  rw [lg_entry_eq]
  generalize (lg_sl ([.ref h0]) ++ List.replicate (1 - (lg_sl ([.ref h0])).length) Slot.unset).toArray = ls at hl ⊢
  have hl : lv_has ls 1 [(0, .ref h0)] := hl
  refine lv_aload_n hx hb dX12_pays_0 rfl (lv_at hl 0 rfl) ?_
  refine r_get (v := .int (nI fu)) hx hb hown hq hE hP 117 748 tFX12_117 (by decide) pw_2001 rfl dX12_pays_1 ?_
  refine lv_if_ne (tgt := 14) hx hb dX12_pays_4 (by decide) (fun c1 => ?_) (fun c1 => ?_)
  · have n2 : ¬ (fu = 0) := fun h9 => c1 ((nI_eq (a := fu) (b := 0) (by omega) (by omega)).mpr h9)
    refine lv_aload_n hx hb dX12_pays_14 rfl (lv_at hl 0 rfl) ?_
    refine lv_dup hx hb dX12_pays_15 rfl ?_
    refine r_get (v := .int (nI fu)) hx hb hown hq hE hP 117 748 tFX12_117 (by decide) pw_2001 rfl dX12_pays_16 ?_
    refine lv_iconst (v := 1) hx hb dX12_pays_19 (by decide) ?_
    refine lv_isub hx hb dX12_pays_20 ?_
    refine lv_topi (fun x3 e4 => ?_)
    obtain rfl : x3 = nI (fu - 1) := e4.trans (nI_subN (a := 1) (b := fu) (by omega))
    refine r_put (v := (nI (fu - 1))) (ty := .int) hx hb hown hq hE hP hD hS 117 748 tFX12_117 (by decide) pw_2001 (by decide) rfl rfl (ms_117 a _ _) dX12_pays_21 (fun H locs hP hD hS => ?_)
    refine lv_iconst (v := 1) hx hb dX12_pays_24 (by decide) ?_
    have hz5 : 1 ≤ 1 := (by omega)
    have hz6 : (fu - 1) + 1 = fu := (by omega)
    have hz7 : If (1 = 1) (en = en) := (fun _ => rfl)
    have hz8 : If (1 = 0) (en = 2) := (fun e => absurd e (by decide))
    have hP : va_P G.1 pCl (mW G h0 a (upd (upd F 116 en) 117 (nI (fu - 1))) B) _ := mW_to (F := F) (l1 := [(116, en), (117, (nI fu)), (117, (nI (fu - 1)))]) (l2 := [(116, en), (117, (nI (fu - 1)))]) (V := [en, (nI (fu - 1)), (nI (fu - 1)), en, (nI (fu - 1))]) rfl rfl rfl hP
    have hD : va_D A (mW G h0 a (upd (upd F 116 en) 117 (nI (fu - 1))) B) := mW_D hD
    exact W.zret (v := 1) hx hb hr rfl (fun t9 ht9 hW9 => ⟨⟨_, (1, (fu - 1), en), rfl, ⟨rfl, hz5, hz6, hz7, hz8⟩, by rw [ht9]; exact hP, hD⟩, hS.F ht9⟩) hS.2.2 dX12_pays_25
  · have n9 : fu = 0 := (nI_eq (a := fu) (b := 0) (by omega) (by omega)).mp c1
    refine lv_aload_n hx hb dX12_pays_7 rfl (lv_at hl 0 rfl) ?_
    refine lv_iconst (v := 2) hx hb dX12_pays_8 (by decide) ?_
    refine r_put (v := 2) (ty := .int) hx hb hown hq hE hP hD hS 116 233 tFX12_116 (by decide) pw_1506 (by decide) rfl rfl (ms_116 a _ _) dX12_pays_9 (fun H locs hP hD hS => ?_)
    refine lv_iconst (v := 0) hx hb dX12_pays_12 (by decide) ?_
    have hz10 : 0 ≤ 1 := (by omega)
    have hz11 : fu + 0 = fu := (by omega)
    have hz12 : If (0 = 1) ((2 : Int32) = en) := (fun e => absurd e (by decide))
    have hz13 : If (0 = 0) ((2 : Int32) = 2) := (fun _ => rfl)
    have hP : va_P G.1 pCl (mW G h0 a (upd (upd F 116 (2 : Int32)) 117 (nI fu)) B) _ := mW_to (F := F) (l1 := [(116, en), (117, (nI fu)), (116, 2)]) (l2 := [(116, (2 : Int32)), (117, (nI fu))]) (V := [(2 : Int32), (nI fu), (2 : Int32), (2 : Int32), (nI fu)]) rfl rfl rfl hP
    have hD : va_D A (mW G h0 a (upd (upd F 116 (2 : Int32)) 117 (nI fu)) B) := mW_D hD
    exact W.zret (v := 0) hx hb hr rfl (fun t9 ht9 hW9 => ⟨⟨_, (0, fu, (2 : Int32)), rfl, ⟨rfl, hz10, hz11, hz12, hz13⟩, by rw [ht9]; exact hP, hD⟩, hS.F ht9⟩) hS.2.2 dX12_pays_13
theorem dX12_at32_0 : decode cX12_at32 0 = .ok (.bipush 32, 2) := by decide +kernel
theorem dX12_at32_2 : decode cX12_at32 2 = .ok (.aload_n 0, 1) := by decide +kernel
theorem dX12_at32_3 : decode cX12_at32 3 = .ok (.getfield 707, 3) := by decide +kernel
theorem dX12_at32_6 : decode cX12_at32 6 = .ok (.iconst 1, 1) := by decide +kernel
theorem dX12_at32_7 : decode cX12_at32 7 = .ok (.isub, 1) := by decide +kernel
theorem dX12_at32_8 : decode cX12_at32 8 = .ok (.imul, 1) := by decide +kernel
theorem dX12_at32_9 : decode cX12_at32 9 = .ok (.iload_n 1, 1) := by decide +kernel
theorem dX12_at32_10 : decode cX12_at32 10 = .ok (.iadd, 1) := by decide +kernel
theorem dX12_at32_11 : decode cX12_at32 11 = .ok (.ireturn, 1) := by decide +kernel
set_option maxHeartbeats 2000000 in
set_option maxRecDepth 100000 in
/-- at32(v) -/
theorem R_at32 (l : Launch) (G : pT) (h0 : Nat) (a : Nat → Nat) (F : Nat → Int32) (B : Nat → Nat → Int32) (v9 : Nat) (op : Nat) (hop : 1 ≤ op ∧ op ≤ 100) (hv9 : v9 < 32) : PM l G pX0 yX12_at32 cX12_at32 2 (some .int) ({ frames := 2, cells := 0, slots := 0, locals := 60 }) [.ref h0, .int (nI v9)] (mW G h0 a (upd F 102 (nI op)) B) (fun (v : Option Value) (u : Unit) => v = some (.int (nI (32 * (op - 1) + v9)))) (fun u => (mW G h0 a (upd F 102 (nI op)) B)) := by
  intro sz
  refine Met.ofW (cc := cX12_at32) (maxL := 2) (ret := (some .int)) (by decide) rfl ?_
  intro p e s m args below meth c s₁ B9 hml hv
  obtain ⟨rfl, hsz, hP, hD0, hE, hX⟩ := hv
  have hx := B9.exec
  have hb := B9.bytes
  have hr := B9.returns
  have hts := atoms_spec (ws := Cond.code yX12_at32 cX12_at32 2 (some .int) :: pw) B9.pre
  have hq : ∀ w ∈ pw, w.before _ s = true := fun w h => hts w (List.mem_cons_of_mem _ h)
  have hown : s.vm.findClass RX12 = some m.cls := findClass_of_methodNamed B9.named
  have hlocks := B9.notSynchronized
  subst hsz
  have hD := hD0.self (sz := s.heap.size)
  have hA : ∀ q : Nat, s.heap.size ≤ q → va_A (mW G h0 a (upd F 102 (nI op)) B) s.heap.size q := fun q h => Or.inr h
  have hP : va_P G.1 pCl (mW G h0 a (upd F 102 (nI op)) B) s.heap := hP
  generalize va_A (mW G h0 a (upd F 102 (nI op)) B) s.heap.size = A at hD hE hA ⊢
  have hS : va_S A s.heap s.heap [] := va_S.rf
  have hl := lv_entry ([.ref h0, .int (nI v9)]) (n := 2) (Nat.le_of_ble_eq_true rfl)
  rw [lg_entry_eq]
  generalize (lg_sl ([.ref h0, .int (nI v9)]) ++ List.replicate (2 - (lg_sl ([.ref h0, .int (nI v9)])).length) Slot.unset).toArray = ls at hl ⊢
  have hl : lv_has ls 2 [(0, .ref h0), (1, .int (nI v9))] := hl
  refine lv_bipush (v := 32) hx hb dX12_at32_0 (by decide) ?_
  refine lv_aload_n hx hb dX12_at32_2 rfl (lv_at hl 0 rfl) ?_
  refine r_get (v := .int (nI op)) hx hb hown hq hE hP 102 707 tFX12_102 (by decide) pw_1969 rfl dX12_at32_3 ?_
  refine lv_iconst (v := 1) hx hb dX12_at32_6 (by decide) ?_
  refine lv_isub hx hb dX12_at32_7 ?_
  refine lv_topi (fun x1 e2 => ?_)
  obtain rfl : x1 = nI (op - 1) := e2.trans (nI_subN (a := 1) (b := op) (by omega))
  refine lv_imul hx hb dX12_at32_8 ?_
  refine lv_topi (fun x3 e4 => ?_)
  obtain rfl : x3 = nI (32 * (op - 1)) := e4.trans (nI_mulN (32) ((op - 1)))
  refine lv_iload_n hx hb dX12_at32_9 rfl (lv_at hl 1 rfl) ?_
  refine lv_iadd hx hb dX12_at32_10 ?_
  refine lv_topi (fun x5 e6 => ?_)
  obtain rfl : x5 = nI ((32 * (op - 1)) + v9) := e6.trans (nI_add ((32 * (op - 1))) (v9))
  have hP : va_P G.1 pCl (mW G h0 a (upd F 102 (nI op)) B) _ := hP
  have hD : va_D A (mW G h0 a (upd F 102 (nI op)) B) := mW_D hD
  exact W.iret (v := (nI ((32 * (op - 1)) + v9))) hx hb hr (fun t9 ht9 hW9 => ⟨⟨_, (), rfl, rfl, by rw [ht9]; exact hP, hD⟩, hS.F ht9⟩) hS.2.2 dX12_at32_11
theorem dX12_cellsOf_0 : decode cX12_cellsOf 0 = .ok (.aload_n 0, 1) := by decide +kernel
theorem dX12_cellsOf_1 : decode cX12_cellsOf 1 = .ok (.getfield 184, 3) := by decide +kernel
theorem dX12_cellsOf_4 : decode cX12_cellsOf 4 = .ok (.iload_n 1, 1) := by decide +kernel
theorem dX12_cellsOf_5 : decode cX12_cellsOf 5 = .ok (.iaload, 1) := by decide +kernel
theorem dX12_cellsOf_6 : decode cX12_cellsOf 6 = .ok (.aload_n 0, 1) := by decide +kernel
theorem dX12_cellsOf_7 : decode cX12_cellsOf 7 = .ok (.getfield 178, 3) := by decide +kernel
theorem dX12_cellsOf_10 : decode cX12_cellsOf 10 = .ok (.iload_n 1, 1) := by decide +kernel
theorem dX12_cellsOf_11 : decode cX12_cellsOf 11 = .ok (.iaload, 1) := by decide +kernel
theorem dX12_cellsOf_12 : decode cX12_cellsOf 12 = .ok (.iconst (-1), 1) := by decide +kernel
theorem dX12_cellsOf_13 : decode cX12_cellsOf 13 = .ok (.if_icmp .ne 7, 3) := by decide +kernel
theorem dX12_cellsOf_20 : decode cX12_cellsOf 20 = .ok (.iconst 1, 1) := by decide +kernel
theorem dX12_cellsOf_21 : decode cX12_cellsOf 21 = .ok (.iadd, 1) := by decide +kernel
theorem dX12_cellsOf_22 : decode cX12_cellsOf 22 = .ok (.ireturn, 1) := by decide +kernel
theorem dX12_cellsOf_16 : decode cX12_cellsOf 16 = .ok (.iconst 2, 1) := by decide +kernel
theorem dX12_cellsOf_17 : decode cX12_cellsOf 17 = .ok (.goto 4, 3) := by decide +kernel
set_option maxHeartbeats 2000000 in
set_option maxRecDepth 100000 in
/-- cellsOf(o) -/
theorem R_cellsOf (l : Launch) (G : pT) (h0 : Nat) (a : Nat → Nat) (F : Nat → Int32) (B : Nat → Nat → Int32) (o9 : Nat) (q9 : Nat) (om : Nat → Int32) (oc : Nat → Int32) (ho9 : o9 < 3000) (hom : om o9 = nI q9) (hq9 : q9 ≤ 3000) : PM l G pX0 yX12_cellsOf cX12_cellsOf 2 (some .int) ({ frames := 2, cells := 0, slots := 0, locals := 60 }) [.ref h0, .int (nI o9)] (mW G h0 a F (updA (updA B 55 oc) 57 om)) (fun (v : Option Value) (u : Nat) => v = some (.int (nI u)) ∧ (If (oc o9 = -1) (u = q9 + 2)) ∧ (If (¬ oc o9 = -1) (u = q9 + 1)) ∧ (q9 + 1 ≤ u) ∧ (u ≤ q9 + 2)) (fun u => (mW G h0 a F (updA (updA B 55 oc) 57 om))) := by
  intro sz
  refine Met.ofW (cc := cX12_cellsOf) (maxL := 2) (ret := (some .int)) (by decide) rfl ?_
  intro p e s m args below meth c s₁ B9 hml hv
  obtain ⟨rfl, hsz, hP, hD0, hE, hX⟩ := hv
  have hx := B9.exec
  have hb := B9.bytes
  have hr := B9.returns
  have hts := atoms_spec (ws := Cond.code yX12_cellsOf cX12_cellsOf 2 (some .int) :: pw) B9.pre
  have hq : ∀ w ∈ pw, w.before _ s = true := fun w h => hts w (List.mem_cons_of_mem _ h)
  have hown : s.vm.findClass RX12 = some m.cls := findClass_of_methodNamed B9.named
  have hlocks := B9.notSynchronized
  subst hsz
  have hD := hD0.self (sz := s.heap.size)
  have hA : ∀ q : Nat, s.heap.size ≤ q → va_A (mW G h0 a F (updA (updA B 55 oc) 57 om)) s.heap.size q := fun q h => Or.inr h
  have hP : va_P G.1 pCl (mW G h0 a F (updA (updA B 55 oc) 57 om)) s.heap := hP
  generalize va_A (mW G h0 a F (updA (updA B 55 oc) 57 om)) s.heap.size = A at hD hE hA ⊢
  have hS : va_S A s.heap s.heap [] := va_S.rf
  have hl := lv_entry ([.ref h0, .int (nI o9)]) (n := 2) (Nat.le_of_ble_eq_true rfl)
  rw [lg_entry_eq]
  generalize (lg_sl ([.ref h0, .int (nI o9)]) ++ List.replicate (2 - (lg_sl ([.ref h0, .int (nI o9)])).length) Slot.unset).toArray = ls at hl ⊢
  have hl : lv_has ls 2 [(0, .ref h0), (1, .int (nI o9))] := hl
  refine lv_aload_n hx hb dX12_cellsOf_0 rfl (lv_at hl 0 rfl) ?_
  refine r_get (v := .ref (a 57)) hx hb hown hq hE hP 93 184 tFX12_93 (by decide) pw_1489 rfl dX12_cellsOf_1 ?_
  refine lv_iload_n hx hb dX12_cellsOf_4 rfl (lv_at hl 1 rfl) ?_
  refine r_ldi (f := om) (j := o9) hx hb hE hP 57 (ma_57 G a _) rfl (by omega) (by decide) dX12_cellsOf_5 ?_
  refine lv_topi (fun x1 e2 => ?_)
  obtain rfl : x1 = nI q9 := e2.trans hom
  refine lv_aload_n hx hb dX12_cellsOf_6 rfl (lv_at hl 0 rfl) ?_
  refine r_get (v := .ref (a 55)) hx hb hown hq hE hP 91 178 tFX12_91 (by decide) pw_1487 rfl dX12_cellsOf_7 ?_
  refine lv_iload_n hx hb dX12_cellsOf_10 rfl (lv_at hl 1 rfl) ?_
  refine r_ldi (f := oc) (j := o9) hx hb hE hP 55 (ma_55 G a _) rfl (by omega) (by decide) dX12_cellsOf_11 ?_
  refine lv_iconst (v := (-1)) hx hb dX12_cellsOf_12 (by decide) ?_
  refine lv_icmp_ne (tgt := 20) hx hb dX12_cellsOf_13 (by decide) (fun c3 => ?_) (fun c3 => ?_)
  · refine lv_iconst (v := 1) hx hb dX12_cellsOf_20 (by decide) ?_
    refine lv_iadd hx hb dX12_cellsOf_21 ?_
    refine lv_topi (fun x4 e5 => ?_)
    obtain rfl : x4 = nI (q9 + 1) := e5.trans (nI_add (q9) (1))
    have hz6 : If (oc o9 = -1) ((q9 + 1) = q9 + 2) := (fun e => absurd e c3)
    have hz7 : If (¬ oc o9 = -1) ((q9 + 1) = q9 + 1) := (fun e => rfl)
    have hz8 : q9 + 1 ≤ (q9 + 1) := (by omega)
    have hz9 : (q9 + 1) ≤ q9 + 2 := (by omega)
    have hP : va_P G.1 pCl (mW G h0 a F (updA (updA B 55 oc) 57 om)) _ := hP
    have hD : va_D A (mW G h0 a F (updA (updA B 55 oc) 57 om)) := mW_D hD
    exact W.iret (v := (nI (q9 + 1))) hx hb hr (fun t9 ht9 hW9 => ⟨⟨_, (q9 + 1), rfl, ⟨rfl, hz6, hz7, hz8, hz9⟩, by rw [ht9]; exact hP, hD⟩, hS.F ht9⟩) hS.2.2 dX12_cellsOf_22
  · refine lv_iconst (v := 2) hx hb dX12_cellsOf_16 (by decide) ?_
    refine lv_goto (tgt := 21) hx hb dX12_cellsOf_17 (by decide) ?_
    refine lv_iadd hx hb dX12_cellsOf_21 ?_
    refine lv_topi (fun x10 e11 => ?_)
    obtain rfl : x10 = nI (q9 + 2) := e11.trans (nI_add (q9) (2))
    have hz12 : If (oc o9 = -1) ((q9 + 2) = q9 + 2) := (fun e => rfl)
    have hz13 : If (¬ oc o9 = -1) ((q9 + 2) = q9 + 1) := (fun e => absurd c3 e)
    have hz14 : q9 + 1 ≤ (q9 + 2) := (by omega)
    have hz15 : (q9 + 2) ≤ q9 + 2 := (by omega)
    have hP : va_P G.1 pCl (mW G h0 a F (updA (updA B 55 oc) 57 om)) _ := hP
    have hD : va_D A (mW G h0 a F (updA (updA B 55 oc) 57 om)) := mW_D hD
    exact W.iret (v := (nI (q9 + 2))) hx hb hr (fun t9 ht9 hW9 => ⟨⟨_, (q9 + 2), rfl, ⟨rfl, hz12, hz13, hz14, hz15⟩, by rw [ht9]; exact hP, hD⟩, hS.F ht9⟩) hS.2.2 dX12_cellsOf_22
theorem dX12_classOf_0 : decode cX12_classOf 0 = .ok (.iload_n 1, 1) := by decide +kernel
theorem dX12_classOf_1 : decode cX12_classOf 1 = .ok (.sipush 4000, 3) := by decide +kernel
theorem dX12_classOf_4 : decode cX12_classOf 4 = .ok (.if_icmp .le 11, 3) := by decide +kernel
theorem dX12_classOf_15 : decode cX12_classOf 15 = .ok (.aload_n 0, 1) := by decide +kernel
theorem dX12_classOf_16 : decode cX12_classOf 16 = .ok (.getfield 178, 3) := by decide +kernel
theorem dX12_classOf_19 : decode cX12_classOf 19 = .ok (.iload_n 1, 1) := by decide +kernel
theorem dX12_classOf_20 : decode cX12_classOf 20 = .ok (.iconst 1, 1) := by decide +kernel
theorem dX12_classOf_21 : decode cX12_classOf 21 = .ok (.isub, 1) := by decide +kernel
theorem dX12_classOf_22 : decode cX12_classOf 22 = .ok (.iaload, 1) := by decide +kernel
theorem dX12_classOf_23 : decode cX12_classOf 23 = .ok (.ireturn, 1) := by decide +kernel
theorem dX12_classOf_7 : decode cX12_classOf 7 = .ok (.iload_n 1, 1) := by decide +kernel
theorem dX12_classOf_8 : decode cX12_classOf 8 = .ok (.sipush 4000, 3) := by decide +kernel
theorem dX12_classOf_11 : decode cX12_classOf 11 = .ok (.isub, 1) := by decide +kernel
theorem dX12_classOf_12 : decode cX12_classOf 12 = .ok (.goto 11, 3) := by decide +kernel
set_option maxHeartbeats 2000000 in
set_option maxRecDepth 100000 in
/-- classOf(v) -/
theorem R_classOf (l : Launch) (G : pT) (h0 : Nat) (a : Nat → Nat) (F : Nat → Int32) (B : Nat → Nat → Int32) (x : Nat) (oc : Nat → Int32) (hx9 : 1 ≤ x ∧ (x ≤ 3000 ∨ (4001 ≤ x ∧ x ≤ 4006))) : PM l G pX0 yX12_classOf cX12_classOf 2 (some .int) ({ frames := 2, cells := 0, slots := 0, locals := 60 }) [.ref h0, .int (nI x)] (mW G h0 a F (updA B 55 oc)) (fun (v : Option Value) (u : Unit) => v = some (.int (clF oc x))) (fun u => (mW G h0 a F (updA B 55 oc))) := by
  intro sz
  refine Met.ofW (cc := cX12_classOf) (maxL := 2) (ret := (some .int)) (by decide) rfl ?_
  intro p e s m args below meth c s₁ B9 hml hv
  obtain ⟨rfl, hsz, hP, hD0, hE, hX⟩ := hv
  have hx := B9.exec
  have hb := B9.bytes
  have hr := B9.returns
  have hts := atoms_spec (ws := Cond.code yX12_classOf cX12_classOf 2 (some .int) :: pw) B9.pre
  have hq : ∀ w ∈ pw, w.before _ s = true := fun w h => hts w (List.mem_cons_of_mem _ h)
  have hown : s.vm.findClass RX12 = some m.cls := findClass_of_methodNamed B9.named
  have hlocks := B9.notSynchronized
  subst hsz
  have hD := hD0.self (sz := s.heap.size)
  have hA : ∀ q : Nat, s.heap.size ≤ q → va_A (mW G h0 a F (updA B 55 oc)) s.heap.size q := fun q h => Or.inr h
  have hP : va_P G.1 pCl (mW G h0 a F (updA B 55 oc)) s.heap := hP
  generalize va_A (mW G h0 a F (updA B 55 oc)) s.heap.size = A at hD hE hA ⊢
  have hS : va_S A s.heap s.heap [] := va_S.rf
  have hl := lv_entry ([.ref h0, .int (nI x)]) (n := 2) (Nat.le_of_ble_eq_true rfl)
  rw [lg_entry_eq]
  generalize (lg_sl ([.ref h0, .int (nI x)]) ++ List.replicate (2 - (lg_sl ([.ref h0, .int (nI x)])).length) Slot.unset).toArray = ls at hl ⊢
  have hl : lv_has ls 2 [(0, .ref h0), (1, .int (nI x))] := hl
  refine lv_iload_n hx hb dX12_classOf_0 rfl (lv_at hl 1 rfl) ?_
  refine lv_sipush (v := 4000) hx hb dX12_classOf_1 (by decide) ?_
  refine lv_icmp_le (tgt := 15) hx hb dX12_classOf_4 (by decide) (fun c1 => ?_) (fun c1 => ?_)
  · have n2 : x ≤ 4000 := (nI_leI (a := x) (b := 4000) (by omega) (by omega)).mp c1
    refine lv_aload_n hx hb dX12_classOf_15 rfl (lv_at hl 0 rfl) ?_
    refine r_get (v := .ref (a 55)) hx hb hown hq hE hP 91 178 tFX12_91 (by decide) pw_1487 rfl dX12_classOf_16 ?_
    refine lv_iload_n hx hb dX12_classOf_19 rfl (lv_at hl 1 rfl) ?_
    refine lv_iconst (v := 1) hx hb dX12_classOf_20 (by decide) ?_
    refine lv_isub hx hb dX12_classOf_21 ?_
    refine lv_topi (fun x3 e4 => ?_)
    obtain rfl : x3 = nI (x - 1) := e4.trans (nI_subN (a := 1) (b := x) (by omega))
    refine r_ldi (f := oc) (j := (x - 1)) hx hb hE hP 55 (ma_55 G a _) rfl (by omega) (by decide) dX12_classOf_22 ?_
    have hP : va_P G.1 pCl (mW G h0 a F (updA B 55 oc)) _ := hP
    have hD : va_D A (mW G h0 a F (updA B 55 oc)) := mW_D hD
    exact W.iret (v := (oc (x - 1))) hx hb hr (fun t9 ht9 hW9 => ⟨⟨_, (), rfl, (congrArg (fun z => some (Value.int z)) (by first | exact (clF_1 (by omega)).symm | exact (clF_2 (by omega)).symm)), by rw [ht9]; exact hP, hD⟩, hS.F ht9⟩) hS.2.2 dX12_classOf_23
  · have n5 : ¬ (x ≤ 4000) := fun h9 => c1 ((nI_leI (a := x) (b := 4000) (by omega) (by omega)).mpr h9)
    refine lv_iload_n hx hb dX12_classOf_7 rfl (lv_at hl 1 rfl) ?_
    refine lv_sipush (v := 4000) hx hb dX12_classOf_8 (by decide) ?_
    refine lv_isub hx hb dX12_classOf_11 ?_
    refine lv_topi (fun x6 e7 => ?_)
    obtain rfl : x6 = nI (x - 4000) := e7.trans (nI_subN (a := 4000) (b := x) (by omega))
    refine lv_goto (tgt := 23) hx hb dX12_classOf_12 (by decide) ?_
    have hP : va_P G.1 pCl (mW G h0 a F (updA B 55 oc)) _ := hP
    have hD : va_D A (mW G h0 a F (updA B 55 oc)) := mW_D hD
    exact W.iret (v := (nI (x - 4000))) hx hb hr (fun t9 ht9 hW9 => ⟨⟨_, (), rfl, (congrArg (fun z => some (Value.int z)) (by first | exact (clF_1 (by omega)).symm | exact (clF_2 (by omega)).symm)), by rw [ht9]; exact hP, hD⟩, hS.F ht9⟩) hS.2.2 dX12_classOf_23
theorem dX12_goesInto_0 : decode cX12_goesInto 0 = .ok (.iload_n 2, 1) := by decide +kernel
theorem dX12_goesInto_1 : decode cX12_goesInto 1 = .ok (.iconst (-1), 1) := by decide +kernel
theorem dX12_goesInto_2 : decode cX12_goesInto 2 = .ok (.if_icmp .ne 11, 3) := by decide +kernel
theorem dX12_goesInto_13 : decode cX12_goesInto 13 = .ok (.aload_n 0, 1) := by decide +kernel
theorem dX12_goesInto_14 : decode cX12_goesInto 14 = .ok (.iload_n 2, 1) := by decide +kernel
theorem dX12_goesInto_15 : decode cX12_goesInto 15 = .ok (.invokevirtual 794, 3) := by decide +kernel
theorem dX12_goesInto_18 : decode cX12_goesInto 18 = .ok (.return_, 1) := by decide +kernel
theorem dX12_goesInto_5 : decode cX12_goesInto 5 = .ok (.aload_n 0, 1) := by decide +kernel
theorem dX12_goesInto_6 : decode cX12_goesInto 6 = .ok (.iload_n 1, 1) := by decide +kernel
theorem dX12_goesInto_7 : decode cX12_goesInto 7 = .ok (.invokevirtual 760, 3) := by decide +kernel
theorem dX12_goesInto_10 : decode cX12_goesInto 10 = .ok (.goto 8, 3) := by decide +kernel
theorem hV_X12_begin : yX12_begin.cls = RX12 ∧ yX12_begin.cls ≠ "java/lang/invoke/MethodHandle" ∧ yX12_begin.cls ≠ "java/lang/invoke/VarHandle" ∧ (parseMethodDescriptor yX12_begin.desc).map (fun d => d.parameters.length) = some 1 := by decide +kernel
theorem hV_X12_comesToEnd : yX12_comesToEnd.cls = RX12 ∧ yX12_comesToEnd.cls ≠ "java/lang/invoke/MethodHandle" ∧ yX12_comesToEnd.cls ≠ "java/lang/invoke/VarHandle" ∧ (parseMethodDescriptor yX12_comesToEnd.desc).map (fun d => d.parameters.length) = some 1 := by decide +kernel
set_option maxHeartbeats 2000000 in
set_option maxRecDepth 100000 in
/-- goesInto(n, part) -/
theorem R_goesInto (l : Launch) (G : pT) (h0 : Nat) (a : Nat → Nat) (F : Nat → Int32) (B : Nat → Nat → Int32) (x : Int32) (y : Int32) : PM l G pX0 yX12_goesInto cX12_goesInto 3 none ({ frames := 3, cells := 0, slots := 0, locals := 81 }) [.ref h0, .int x, .int y] (mW G h0 a F B) (fun (v : Option Value) (u : Int32 × Int32) => v = none ∧ (If (y = -1) (u.1 = x ∧ u.2 = 0)) ∧ (If (¬ y = -1) (u.1 = y ∧ u.2 = 1))) (fun u => (mW G h0 a (upd (upd F 125 u.1) 126 u.2) B)) := by
  intro sz
  refine Met.ofW (cc := cX12_goesInto) (maxL := 3) (ret := none) (by decide) rfl ?_
  intro p e s m args below meth c s₁ B9 hml hv
  obtain ⟨rfl, hsz, hP, hD0, hE, hX⟩ := hv
  have hx := B9.exec
  have hb := B9.bytes
  have hr := B9.returns
  have hts := atoms_spec (ws := Cond.code yX12_goesInto cX12_goesInto 3 none :: pw) B9.pre
  have hq : ∀ w ∈ pw, w.before _ s = true := fun w h => hts w (List.mem_cons_of_mem _ h)
  have hown : s.vm.findClass RX12 = some m.cls := findClass_of_methodNamed B9.named
  have hlocks := B9.notSynchronized
  subst hsz
  have hD := hD0.self (sz := s.heap.size)
  have hA : ∀ q : Nat, s.heap.size ≤ q → va_A (mW G h0 a F B) s.heap.size q := fun q h => Or.inr h
  have hP : va_P G.1 pCl (mW G h0 a F B) s.heap := hP
  generalize va_A (mW G h0 a F B) s.heap.size = A at hD hE hA ⊢
  have hS : va_S A s.heap s.heap [] := va_S.rf
  have hl := lv_entry ([.ref h0, .int x, .int y]) (n := 3) (Nat.le_of_ble_eq_true rfl)
  rw [lg_entry_eq]
  generalize (lg_sl ([.ref h0, .int x, .int y]) ++ List.replicate (3 - (lg_sl ([.ref h0, .int x, .int y])).length) Slot.unset).toArray = ls at hl ⊢
  have hl : lv_has ls 3 [(0, .ref h0), (1, .int x), (2, .int y)] := hl
  refine lv_iload_n hx hb dX12_goesInto_0 rfl (lv_at hl 2 rfl) ?_
  refine lv_iconst (v := (-1)) hx hb dX12_goesInto_1 (by decide) ?_
  refine lv_icmp_ne (tgt := 13) hx hb dX12_goesInto_2 (by decide) (fun c1 => ?_) (fun c1 => ?_)
  · refine lv_aload_n hx hb dX12_goesInto_13 rfl (lv_at hl 0 rfl) ?_
    refine lv_iload_n hx hb dX12_goesInto_14 rfl (lv_at hl 2 rfl) ?_
    have hP : va_P G.1 pCl (mW G h0 a F B) _ := hP
    have hD : va_D A (mW G h0 a F B) := mW_D hD
    refine pc_V0 (G := G) (As := [.int y]) (rest := []) hx hb hml hown hq hE hX pX0_al hP hD hS hA hl.1 (R_begin l G h0 a F B y) (gV pw_2016 pw_2017 pw_2018 pw_1523 pw_2002) hV_X12_begin 0 9 rfl rfl rfl rfl (Nat.le_of_ble_eq_true rfl) dX12_goesInto_15 ⟨Nat.le_of_ble_eq_true rfl, Nat.le_of_ble_eq_true rfl⟩ ⟨Nat.le_of_ble_eq_true rfl, Nat.le_of_ble_eq_true rfl⟩ (fun v4 u2 H locs hw3 hP hD hS => ?_)
    obtain rfl : v4 = none := hw3
    have hP : va_P G.1 pCl (mW G h0 a (upd (upd F 125 y) 126 1) B) _ := hP
    have hD : va_D A (mW G h0 a (upd (upd F 125 y) 126 1) B) := mW_D hD
    refine W.widen (k := 0) (n := 0) (Nat.le_of_ble_eq_true rfl) (Nat.le_of_ble_eq_true rfl) ?_
    refine W.eq (g2 := F0 m 18 ls []) rfl ?_
    have hz5 : If (y = -1) (y = x ∧ (1 : Int32) = 0) := (fun e => absurd e c1)
    have hz6 : If (¬ y = -1) (y = y ∧ (1 : Int32) = 1) := (fun e => ⟨rfl, rfl⟩)
    have hP : va_P G.1 pCl (mW G h0 a (upd (upd F 125 y) 126 (1 : Int32)) B) _ := mW_to (F := F) (l1 := [(125, y), (126, 1)]) (l2 := [(125, y), (126, (1 : Int32))]) (V := [y, (1 : Int32), y, (1 : Int32)]) rfl rfl rfl hP
    have hD : va_D A (mW G h0 a (upd (upd F 125 y) 126 (1 : Int32)) B) := mW_D hD
    exact W.vret hx hb hr (fun t9 ht9 hW9 => ⟨⟨_, (y, (1 : Int32)), rfl, ⟨rfl, hz5, hz6⟩, by rw [ht9]; exact hP, hD⟩, hS.F ht9⟩) hS.2.2 dX12_goesInto_18
  · refine lv_aload_n hx hb dX12_goesInto_5 rfl (lv_at hl 0 rfl) ?_
    refine lv_iload_n hx hb dX12_goesInto_6 rfl (lv_at hl 1 rfl) ?_
    have hP : va_P G.1 pCl (mW G h0 a F B) _ := hP
    have hD : va_D A (mW G h0 a F B) := mW_D hD
    refine pc_V0 (G := G) (As := [.int x]) (rest := []) hx hb hml hown hq hE hX pX0_al hP hD hS hA hl.1 (R_comesToEnd l G h0 a F B x) (gV pw_2010 pw_2011 pw_2012 pw_1523 pw_2005) hV_X12_comesToEnd 0 9 rfl rfl rfl rfl (Nat.le_of_ble_eq_true rfl) dX12_goesInto_7 ⟨Nat.le_of_ble_eq_true rfl, Nat.le_of_ble_eq_true rfl⟩ ⟨Nat.le_of_ble_eq_true rfl, Nat.le_of_ble_eq_true rfl⟩ (fun v9 u7 H locs hw8 hP hD hS => ?_)
    obtain rfl : v9 = none := hw8
    have hP : va_P G.1 pCl (mW G h0 a (upd (upd F 125 x) 126 0) B) _ := hP
    have hD : va_D A (mW G h0 a (upd (upd F 125 x) 126 0) B) := mW_D hD
    refine W.widen (k := 0) (n := 0) (Nat.le_of_ble_eq_true rfl) (Nat.le_of_ble_eq_true rfl) ?_
    refine W.eq (g2 := F0 m 10 ls []) rfl ?_
    refine lv_goto (tgt := 18) hx hb dX12_goesInto_10 (by decide) ?_
    have hz10 : If (y = -1) (x = x ∧ (0 : Int32) = 0) := (fun e => ⟨rfl, rfl⟩)
    have hz11 : If (¬ y = -1) (x = y ∧ (0 : Int32) = 1) := (fun e => absurd c1 e)
    have hP : va_P G.1 pCl (mW G h0 a (upd (upd F 125 x) 126 (0 : Int32)) B) _ := mW_to (F := F) (l1 := [(125, x), (126, 0)]) (l2 := [(125, x), (126, (0 : Int32))]) (V := [x, (0 : Int32), x, (0 : Int32)]) rfl rfl rfl hP
    have hD : va_D A (mW G h0 a (upd (upd F 125 x) 126 (0 : Int32)) B) := mW_D hD
    exact W.vret hx hb hr (fun t9 ht9 hW9 => ⟨⟨_, (x, (0 : Int32)), rfl, ⟨rfl, hz10, hz11⟩, by rw [ht9]; exact hP, hD⟩, hS.F ht9⟩) hS.2.2 dX12_goesInto_18
