/-- n is the place that a set statement sets -/
def PlcP (X : Nat → Nat → Int32) (n : Nat) : Prop := ∃ p : Nat, p < 20000 ∧ X 52 n = nI p ∧ X 9 p = 32 ∧ X 12 p = nI n
/-- where a loop goes when it is looked at anew -/
def lkF (X : Nat → Nat → Int32) (n : Nat) : Int32 := if X 9 n = 35 then X 12 n else if X 13 n = -1 then X 15 n else X 13 n
theorem lkF_1 {X : Nat → Nat → Int32} {n : Nat} (h : X 9 n = 35) : lkF X n = X 12 n := if_pos h
theorem lkF_2 {X : Nat → Nat → Int32} {n : Nat} (h : ¬ X 9 n = 35) (h2 : X 13 n = -1) : lkF X n = X 15 n := by unfold lkF; rw [if_neg h, if_pos h2]
theorem lkF_3 {X : Nat → Nat → Int32} {n : Nat} (h : ¬ X 9 n = 35) (h2 : ¬ X 13 n = -1) : lkF X n = X 13 n := by unfold lkF; rw [if_neg h, if_neg h2]
theorem dX12_isFirst_0 : decode cX12_isFirst 0 = .ok (.aload_n 0, 1) := by decide +kernel
theorem dX12_isFirst_1 : decode cX12_isFirst 1 = .ok (.getfield 168, 3) := by decide +kernel
theorem dX12_isFirst_4 : decode cX12_isFirst 4 = .ok (.iload_n 1, 1) := by decide +kernel
theorem dX12_isFirst_5 : decode cX12_isFirst 5 = .ok (.iaload, 1) := by decide +kernel
theorem dX12_isFirst_6 : decode cX12_isFirst 6 = .ok (.iconst (-1), 1) := by decide +kernel
theorem dX12_isFirst_7 : decode cX12_isFirst 7 = .ok (.if_icmp .eq 53, 3) := by decide +kernel
theorem dX12_isFirst_60 : decode cX12_isFirst 60 = .ok (.iconst 0, 1) := by decide +kernel
theorem dX12_isFirst_61 : decode cX12_isFirst 61 = .ok (.ireturn, 1) := by decide +kernel
theorem dX12_isFirst_10 : decode cX12_isFirst 10 = .ok (.aload_n 0, 1) := by decide +kernel
theorem dX12_isFirst_11 : decode cX12_isFirst 11 = .ok (.getfield 38, 3) := by decide +kernel
theorem dX12_isFirst_14 : decode cX12_isFirst 14 = .ok (.aload_n 0, 1) := by decide +kernel
theorem dX12_isFirst_15 : decode cX12_isFirst 15 = .ok (.getfield 168, 3) := by decide +kernel
theorem dX12_isFirst_18 : decode cX12_isFirst 18 = .ok (.iload_n 1, 1) := by decide +kernel
theorem dX12_isFirst_19 : decode cX12_isFirst 19 = .ok (.iaload, 1) := by decide +kernel
theorem dX12_isFirst_20 : decode cX12_isFirst 20 = .ok (.iaload, 1) := by decide +kernel
theorem dX12_isFirst_21 : decode cX12_isFirst 21 = .ok (.bipush 36, 2) := by decide +kernel
theorem dX12_isFirst_23 : decode cX12_isFirst 23 = .ok (.if_icmp .ne 37, 3) := by decide +kernel
theorem dX12_isFirst_26 : decode cX12_isFirst 26 = .ok (.aload_n 0, 1) := by decide +kernel
theorem dX12_isFirst_27 : decode cX12_isFirst 27 = .ok (.getfield 47, 3) := by decide +kernel
theorem dX12_isFirst_30 : decode cX12_isFirst 30 = .ok (.aload_n 0, 1) := by decide +kernel
theorem dX12_isFirst_31 : decode cX12_isFirst 31 = .ok (.getfield 168, 3) := by decide +kernel
theorem dX12_isFirst_34 : decode cX12_isFirst 34 = .ok (.iload_n 1, 1) := by decide +kernel
theorem dX12_isFirst_35 : decode cX12_isFirst 35 = .ok (.iaload, 1) := by decide +kernel
theorem dX12_isFirst_36 : decode cX12_isFirst 36 = .ok (.iaload, 1) := by decide +kernel
theorem dX12_isFirst_37 : decode cX12_isFirst 37 = .ok (.iload_n 1, 1) := by decide +kernel
theorem dX12_isFirst_38 : decode cX12_isFirst 38 = .ok (.if_icmp .eq 18, 3) := by decide +kernel
theorem dX12_isFirst_56 : decode cX12_isFirst 56 = .ok (.iconst 1, 1) := by decide +kernel
theorem dX12_isFirst_57 : decode cX12_isFirst 57 = .ok (.goto 4, 3) := by decide +kernel
theorem dX12_isFirst_41 : decode cX12_isFirst 41 = .ok (.aload_n 0, 1) := by decide +kernel
theorem dX12_isFirst_42 : decode cX12_isFirst 42 = .ok (.getfield 53, 3) := by decide +kernel
theorem dX12_isFirst_45 : decode cX12_isFirst 45 = .ok (.aload_n 0, 1) := by decide +kernel
theorem dX12_isFirst_46 : decode cX12_isFirst 46 = .ok (.getfield 168, 3) := by decide +kernel
theorem dX12_isFirst_49 : decode cX12_isFirst 49 = .ok (.iload_n 1, 1) := by decide +kernel
theorem dX12_isFirst_50 : decode cX12_isFirst 50 = .ok (.iaload, 1) := by decide +kernel
theorem dX12_isFirst_51 : decode cX12_isFirst 51 = .ok (.iaload, 1) := by decide +kernel
theorem dX12_isFirst_52 : decode cX12_isFirst 52 = .ok (.iload_n 1, 1) := by decide +kernel
theorem dX12_isFirst_53 : decode cX12_isFirst 53 = .ok (.if_icmp .ne 7, 3) := by decide +kernel
set_option maxHeartbeats 2000000 in
set_option maxRecDepth 100000 in
/-- isFirst(n) -/
theorem R_isFirst (l : Launch) (G : pT) (h0 : Nat) (a : Nat → Nat) (F : Nat → Int32) (B : Nat → Nat → Int32) (n9 : Nat) (nd : Nat) (hn9 : n9 < nd) (hnd : nd ≤ 12000) (hup : OrY (B 52 n9) nd) : PM l G pX0 yX12_isFirst cX12_isFirst 2 (some .boolean) ({ frames := 2, cells := 0, slots := 0, locals := 60 }) [.ref h0, .int (nI n9)] (mW G h0 a F B) (fun (v : Option Value) (u : Nat) => v = some (.int (nI u)) ∧ (u ≤ 1)) (fun u => (mW G h0 a F B)) := by
  intro sz
  refine Met.ofW (cc := cX12_isFirst) (maxL := 2) (ret := (some .boolean)) (by decide) rfl ?_
  intro p e s m args below meth c s₁ B9 hml hv
  obtain ⟨rfl, hsz, hP, hD0, hE, hX⟩ := hv
  have hx := B9.exec
  have hb := B9.bytes
  have hr := B9.returns
  have hts := atoms_spec (ws := Cond.code yX12_isFirst cX12_isFirst 2 (some .boolean) :: pw) B9.pre
  have hq : ∀ w ∈ pw, w.before _ s = true := fun w h => hts w (List.mem_cons_of_mem _ h)
  have hown : s.vm.findClass RX12 = some m.cls := findClass_of_methodNamed B9.named
  have hlocks := B9.notSynchronized
  subst hsz
  have hD := hD0.self (sz := s.heap.size)
  have hA : ∀ q : Nat, s.heap.size ≤ q → va_A (mW G h0 a F B) s.heap.size q := fun q h => Or.inr h
  have hP : va_P G.1 pCl (mW G h0 a F B) s.heap := hP
  generalize va_A (mW G h0 a F B) s.heap.size = A at hD hE hA ⊢
  have hS : va_S A s.heap s.heap [] := va_S.rf
  have hl := lv_entry ([.ref h0, .int (nI n9)]) (n := 2) (Nat.le_of_ble_eq_true rfl)
  rw [lg_entry_eq]
  generalize (lg_sl ([.ref h0, .int (nI n9)]) ++ List.replicate (2 - (lg_sl ([.ref h0, .int (nI n9)])).length) Slot.unset).toArray = ls at hl ⊢
  have hl : lv_has ls 2 [(0, .ref h0), (1, .int (nI n9))] := hl
  refine lv_aload_n hx hb dX12_isFirst_0 rfl (lv_at hl 0 rfl) ?_
  refine r_get (v := .ref (a 52)) hx hb hown hq hE hP 88 168 tFX12_88 (by decide) pw_1483 rfl dX12_isFirst_1 ?_
  refine lv_iload_n hx hb dX12_isFirst_4 rfl (lv_at hl 1 rfl) ?_
  refine r_ldi (f := (B 52)) (j := n9) hx hb hE hP 52 (ma_52 G a _) rfl (by omega) (by decide) dX12_isFirst_5 ?_
  refine lv_iconst (v := (-1)) hx hb dX12_isFirst_6 (by decide) ?_
  refine lv_icmp_eq (tgt := 60) hx hb dX12_isFirst_7 (by decide) (fun c1 => ?_) (fun c1 => ?_)
  · refine lv_iconst (v := 0) hx hb dX12_isFirst_60 (by decide) ?_
    have hz2 : 0 ≤ 1 := (by omega)
    have hP : va_P G.1 pCl (mW G h0 a F B) _ := hP
    have hD : va_D A (mW G h0 a F B) := mW_D hD
    exact W.zret (v := 0) hx hb hr rfl (fun t9 ht9 hW9 => ⟨⟨_, 0, rfl, ⟨rfl, hz2⟩, by rw [ht9]; exact hP, hD⟩, hS.F ht9⟩) hS.2.2 dX12_isFirst_61
  · obtain ⟨p3, e4, h5⟩ := Or.resolve_left hup c1
    refine lv_aload_n hx hb dX12_isFirst_10 rfl (lv_at hl 0 rfl) ?_
    refine r_get (v := .ref (a 9)) hx hb hown hq hE hP 17 38 tFX12_17 (by decide) pw_1439 rfl dX12_isFirst_11 ?_
    refine lv_aload_n hx hb dX12_isFirst_14 rfl (lv_at hl 0 rfl) ?_
    refine r_get (v := .ref (a 52)) hx hb hown hq hE hP 88 168 tFX12_88 (by decide) pw_1483 rfl dX12_isFirst_15 ?_
    refine lv_iload_n hx hb dX12_isFirst_18 rfl (lv_at hl 1 rfl) ?_
    refine r_ldi (f := (B 52)) (j := n9) hx hb hE hP 52 (ma_52 G a _) rfl (by omega) (by decide) dX12_isFirst_19 ?_
    refine lv_topi (fun x6 e7 => ?_)
    obtain rfl : x6 = nI p3 := e7.trans e4
    refine r_ldi (f := (B 9)) (j := p3) hx hb hE hP 9 (ma_9 G a _) rfl (by omega) (by decide) dX12_isFirst_20 ?_
    refine lv_bipush (v := 36) hx hb dX12_isFirst_21 (by decide) ?_
    refine lv_icmp_ne (tgt := 60) hx hb dX12_isFirst_23 (by decide) (fun c8 => ?_) (fun c8 => ?_)
    · refine lv_iconst (v := 0) hx hb dX12_isFirst_60 (by decide) ?_
      have hz9 : 0 ≤ 1 := (by omega)
      have hP : va_P G.1 pCl (mW G h0 a F B) _ := hP
      have hD : va_D A (mW G h0 a F B) := mW_D hD
      exact W.zret (v := 0) hx hb hr rfl (fun t9 ht9 hW9 => ⟨⟨_, 0, rfl, ⟨rfl, hz9⟩, by rw [ht9]; exact hP, hD⟩, hS.F ht9⟩) hS.2.2 dX12_isFirst_61
    · refine lv_aload_n hx hb dX12_isFirst_26 rfl (lv_at hl 0 rfl) ?_
      refine r_get (v := .ref (a 12)) hx hb hown hq hE hP 20 47 tFX12_20 (by decide) pw_1442 rfl dX12_isFirst_27 ?_
      refine lv_aload_n hx hb dX12_isFirst_30 rfl (lv_at hl 0 rfl) ?_
      refine r_get (v := .ref (a 52)) hx hb hown hq hE hP 88 168 tFX12_88 (by decide) pw_1483 rfl dX12_isFirst_31 ?_
      refine lv_iload_n hx hb dX12_isFirst_34 rfl (lv_at hl 1 rfl) ?_
      refine r_ldi (f := (B 52)) (j := n9) hx hb hE hP 52 (ma_52 G a _) rfl (by omega) (by decide) dX12_isFirst_35 ?_
      refine lv_topi (fun x10 e11 => ?_)
      obtain rfl : x10 = nI p3 := e11.trans e4
      refine r_ldi (f := (B 12)) (j := p3) hx hb hE hP 12 (ma_12 G a _) rfl (by omega) (by decide) dX12_isFirst_36 ?_
      refine lv_iload_n hx hb dX12_isFirst_37 rfl (lv_at hl 1 rfl) ?_
      refine lv_icmp_eq (tgt := 56) hx hb dX12_isFirst_38 (by decide) (fun c12 => ?_) (fun c12 => ?_)
      · refine lv_iconst (v := 1) hx hb dX12_isFirst_56 (by decide) ?_
        refine lv_goto (tgt := 61) hx hb dX12_isFirst_57 (by decide) ?_
        have hz13 : 1 ≤ 1 := (by omega)
        have hP : va_P G.1 pCl (mW G h0 a F B) _ := hP
        have hD : va_D A (mW G h0 a F B) := mW_D hD
        exact W.zret (v := 1) hx hb hr rfl (fun t9 ht9 hW9 => ⟨⟨_, 1, rfl, ⟨rfl, hz13⟩, by rw [ht9]; exact hP, hD⟩, hS.F ht9⟩) hS.2.2 dX12_isFirst_61
      · refine lv_aload_n hx hb dX12_isFirst_41 rfl (lv_at hl 0 rfl) ?_
        refine r_get (v := .ref (a 14)) hx hb hown hq hE hP 22 53 tFX12_22 (by decide) pw_1444 rfl dX12_isFirst_42 ?_
        refine lv_aload_n hx hb dX12_isFirst_45 rfl (lv_at hl 0 rfl) ?_
        refine r_get (v := .ref (a 52)) hx hb hown hq hE hP 88 168 tFX12_88 (by decide) pw_1483 rfl dX12_isFirst_46 ?_
        refine lv_iload_n hx hb dX12_isFirst_49 rfl (lv_at hl 1 rfl) ?_
        refine r_ldi (f := (B 52)) (j := n9) hx hb hE hP 52 (ma_52 G a _) rfl (by omega) (by decide) dX12_isFirst_50 ?_
        refine lv_topi (fun x14 e15 => ?_)
        obtain rfl : x14 = nI p3 := e15.trans e4
        refine r_ldi (f := (B 14)) (j := p3) hx hb hE hP 14 (ma_14 G a _) rfl (by omega) (by decide) dX12_isFirst_51 ?_
        refine lv_iload_n hx hb dX12_isFirst_52 rfl (lv_at hl 1 rfl) ?_
        refine lv_icmp_ne (tgt := 60) hx hb dX12_isFirst_53 (by decide) (fun c16 => ?_) (fun c16 => ?_)
        · refine lv_iconst (v := 0) hx hb dX12_isFirst_60 (by decide) ?_
          have hz17 : 0 ≤ 1 := (by omega)
          have hP : va_P G.1 pCl (mW G h0 a F B) _ := hP
          have hD : va_D A (mW G h0 a F B) := mW_D hD
          exact W.zret (v := 0) hx hb hr rfl (fun t9 ht9 hW9 => ⟨⟨_, 0, rfl, ⟨rfl, hz17⟩, by rw [ht9]; exact hP, hD⟩, hS.F ht9⟩) hS.2.2 dX12_isFirst_61
        · refine lv_iconst (v := 1) hx hb dX12_isFirst_56 (by decide) ?_
          refine lv_goto (tgt := 61) hx hb dX12_isFirst_57 (by decide) ?_
          have hz18 : 1 ≤ 1 := (by omega)
          have hP : va_P G.1 pCl (mW G h0 a F B) _ := hP
          have hD : va_D A (mW G h0 a F B) := mW_D hD
          exact W.zret (v := 1) hx hb hr rfl (fun t9 ht9 hW9 => ⟨⟨_, 1, rfl, ⟨rfl, hz18⟩, by rw [ht9]; exact hP, hD⟩, hS.F ht9⟩) hS.2.2 dX12_isFirst_61
theorem dX12_isPlace_0 : decode cX12_isPlace 0 = .ok (.aload_n 0, 1) := by decide +kernel
theorem dX12_isPlace_1 : decode cX12_isPlace 1 = .ok (.getfield 168, 3) := by decide +kernel
theorem dX12_isPlace_4 : decode cX12_isPlace 4 = .ok (.iload_n 1, 1) := by decide +kernel
theorem dX12_isPlace_5 : decode cX12_isPlace 5 = .ok (.iaload, 1) := by decide +kernel
theorem dX12_isPlace_6 : decode cX12_isPlace 6 = .ok (.iconst (-1), 1) := by decide +kernel
theorem dX12_isPlace_7 : decode cX12_isPlace 7 = .ok (.if_icmp .eq 38, 3) := by decide +kernel
theorem dX12_isPlace_45 : decode cX12_isPlace 45 = .ok (.iconst 0, 1) := by decide +kernel
theorem dX12_isPlace_46 : decode cX12_isPlace 46 = .ok (.ireturn, 1) := by decide +kernel
theorem dX12_isPlace_10 : decode cX12_isPlace 10 = .ok (.aload_n 0, 1) := by decide +kernel
theorem dX12_isPlace_11 : decode cX12_isPlace 11 = .ok (.getfield 38, 3) := by decide +kernel
theorem dX12_isPlace_14 : decode cX12_isPlace 14 = .ok (.aload_n 0, 1) := by decide +kernel
theorem dX12_isPlace_15 : decode cX12_isPlace 15 = .ok (.getfield 168, 3) := by decide +kernel
theorem dX12_isPlace_18 : decode cX12_isPlace 18 = .ok (.iload_n 1, 1) := by decide +kernel
theorem dX12_isPlace_19 : decode cX12_isPlace 19 = .ok (.iaload, 1) := by decide +kernel
theorem dX12_isPlace_20 : decode cX12_isPlace 20 = .ok (.iaload, 1) := by decide +kernel
theorem dX12_isPlace_21 : decode cX12_isPlace 21 = .ok (.bipush 32, 2) := by decide +kernel
theorem dX12_isPlace_23 : decode cX12_isPlace 23 = .ok (.if_icmp .ne 22, 3) := by decide +kernel
theorem dX12_isPlace_26 : decode cX12_isPlace 26 = .ok (.aload_n 0, 1) := by decide +kernel
theorem dX12_isPlace_27 : decode cX12_isPlace 27 = .ok (.getfield 47, 3) := by decide +kernel
theorem dX12_isPlace_30 : decode cX12_isPlace 30 = .ok (.aload_n 0, 1) := by decide +kernel
theorem dX12_isPlace_31 : decode cX12_isPlace 31 = .ok (.getfield 168, 3) := by decide +kernel
theorem dX12_isPlace_34 : decode cX12_isPlace 34 = .ok (.iload_n 1, 1) := by decide +kernel
theorem dX12_isPlace_35 : decode cX12_isPlace 35 = .ok (.iaload, 1) := by decide +kernel
theorem dX12_isPlace_36 : decode cX12_isPlace 36 = .ok (.iaload, 1) := by decide +kernel
theorem dX12_isPlace_37 : decode cX12_isPlace 37 = .ok (.iload_n 1, 1) := by decide +kernel
theorem dX12_isPlace_38 : decode cX12_isPlace 38 = .ok (.if_icmp .ne 7, 3) := by decide +kernel
theorem dX12_isPlace_41 : decode cX12_isPlace 41 = .ok (.iconst 1, 1) := by decide +kernel
theorem dX12_isPlace_42 : decode cX12_isPlace 42 = .ok (.goto 4, 3) := by decide +kernel
set_option maxHeartbeats 2000000 in
set_option maxRecDepth 100000 in
/-- isPlace(n) -/
theorem R_isPlace (l : Launch) (G : pT) (h0 : Nat) (a : Nat → Nat) (F : Nat → Int32) (B : Nat → Nat → Int32) (n9 : Nat) (nd : Nat) (hn9 : n9 < nd) (hnd : nd ≤ 12000) (hup : OrY (B 52 n9) nd) : PM l G pX0 yX12_isPlace cX12_isPlace 2 (some .boolean) ({ frames := 2, cells := 0, slots := 0, locals := 60 }) [.ref h0, .int (nI n9)] (mW G h0 a F B) (fun (v : Option Value) (u : Nat) => v = some (.int (nI u)) ∧ (u ≤ 1) ∧ (If (u = 1) (PlcP B n9)) ∧ (If (u = 0) (¬ PlcP B n9))) (fun u => (mW G h0 a F B)) := by
  intro sz
  refine Met.ofW (cc := cX12_isPlace) (maxL := 2) (ret := (some .boolean)) (by decide) rfl ?_
  intro p e s m args below meth c s₁ B9 hml hv
  obtain ⟨rfl, hsz, hP, hD0, hE, hX⟩ := hv
  have hx := B9.exec
  have hb := B9.bytes
  have hr := B9.returns
  have hts := atoms_spec (ws := Cond.code yX12_isPlace cX12_isPlace 2 (some .boolean) :: pw) B9.pre
  have hq : ∀ w ∈ pw, w.before _ s = true := fun w h => hts w (List.mem_cons_of_mem _ h)
  have hown : s.vm.findClass RX12 = some m.cls := findClass_of_methodNamed B9.named
  have hlocks := B9.notSynchronized
  subst hsz
  have hD := hD0.self (sz := s.heap.size)
  have hA : ∀ q : Nat, s.heap.size ≤ q → va_A (mW G h0 a F B) s.heap.size q := fun q h => Or.inr h
  have hP : va_P G.1 pCl (mW G h0 a F B) s.heap := hP
  generalize va_A (mW G h0 a F B) s.heap.size = A at hD hE hA ⊢
  have hS : va_S A s.heap s.heap [] := va_S.rf
  have hl := lv_entry ([.ref h0, .int (nI n9)]) (n := 2) (Nat.le_of_ble_eq_true rfl)
  rw [lg_entry_eq]
  generalize (lg_sl ([.ref h0, .int (nI n9)]) ++ List.replicate (2 - (lg_sl ([.ref h0, .int (nI n9)])).length) Slot.unset).toArray = ls at hl ⊢
  have hl : lv_has ls 2 [(0, .ref h0), (1, .int (nI n9))] := hl
  refine lv_aload_n hx hb dX12_isPlace_0 rfl (lv_at hl 0 rfl) ?_
  refine r_get (v := .ref (a 52)) hx hb hown hq hE hP 88 168 tFX12_88 (by decide) pw_1483 rfl dX12_isPlace_1 ?_
  refine lv_iload_n hx hb dX12_isPlace_4 rfl (lv_at hl 1 rfl) ?_
  refine r_ldi (f := (B 52)) (j := n9) hx hb hE hP 52 (ma_52 G a _) rfl (by omega) (by decide) dX12_isPlace_5 ?_
  refine lv_iconst (v := (-1)) hx hb dX12_isPlace_6 (by decide) ?_
  refine lv_icmp_eq (tgt := 45) hx hb dX12_isPlace_7 (by decide) (fun c1 => ?_) (fun c1 => ?_)
  · refine lv_iconst (v := 0) hx hb dX12_isPlace_45 (by decide) ?_
    have hz2 : 0 ≤ 1 := (by omega)
    have hz3 : If (0 = 1) (PlcP B n9) := (fun e => absurd e (by decide))
    have hz4 : If (0 = 0) (¬ PlcP B n9) := (fun _ ⟨p, h1, h2, h3, h4⟩ => absurd (h2.symm.trans c1) (nI_m1 (by omega)))
    have hP : va_P G.1 pCl (mW G h0 a F B) _ := hP
    have hD : va_D A (mW G h0 a F B) := mW_D hD
    exact W.zret (v := 0) hx hb hr rfl (fun t9 ht9 hW9 => ⟨⟨_, 0, rfl, ⟨rfl, hz2, hz3, hz4⟩, by rw [ht9]; exact hP, hD⟩, hS.F ht9⟩) hS.2.2 dX12_isPlace_46
  · obtain ⟨p5, e6, h7⟩ := Or.resolve_left hup c1
    refine lv_aload_n hx hb dX12_isPlace_10 rfl (lv_at hl 0 rfl) ?_
    refine r_get (v := .ref (a 9)) hx hb hown hq hE hP 17 38 tFX12_17 (by decide) pw_1439 rfl dX12_isPlace_11 ?_
    refine lv_aload_n hx hb dX12_isPlace_14 rfl (lv_at hl 0 rfl) ?_
    refine r_get (v := .ref (a 52)) hx hb hown hq hE hP 88 168 tFX12_88 (by decide) pw_1483 rfl dX12_isPlace_15 ?_
    refine lv_iload_n hx hb dX12_isPlace_18 rfl (lv_at hl 1 rfl) ?_
    refine r_ldi (f := (B 52)) (j := n9) hx hb hE hP 52 (ma_52 G a _) rfl (by omega) (by decide) dX12_isPlace_19 ?_
    refine lv_topi (fun x8 e9 => ?_)
    obtain rfl : x8 = nI p5 := e9.trans e6
    refine r_ldi (f := (B 9)) (j := p5) hx hb hE hP 9 (ma_9 G a _) rfl (by omega) (by decide) dX12_isPlace_20 ?_
    refine lv_bipush (v := 32) hx hb dX12_isPlace_21 (by decide) ?_
    refine lv_icmp_ne (tgt := 45) hx hb dX12_isPlace_23 (by decide) (fun c10 => ?_) (fun c10 => ?_)
    · refine lv_iconst (v := 0) hx hb dX12_isPlace_45 (by decide) ?_
      have hz11 : 0 ≤ 1 := (by omega)
      have hz12 : If (0 = 1) (PlcP B n9) := (fun e => absurd e (by decide))
      have hz13 : If (0 = 0) (¬ PlcP B n9) := (fun _ ⟨p, h1, h2, h3, h4⟩ => by have e9 : p = p5 := (nI_eq (by omega) (by omega)).mp (h2.symm.trans e6); rw [e9] at h3 h4; exact absurd h3 c10)
      have hP : va_P G.1 pCl (mW G h0 a F B) _ := hP
      have hD : va_D A (mW G h0 a F B) := mW_D hD
      exact W.zret (v := 0) hx hb hr rfl (fun t9 ht9 hW9 => ⟨⟨_, 0, rfl, ⟨rfl, hz11, hz12, hz13⟩, by rw [ht9]; exact hP, hD⟩, hS.F ht9⟩) hS.2.2 dX12_isPlace_46
    · refine lv_aload_n hx hb dX12_isPlace_26 rfl (lv_at hl 0 rfl) ?_
      refine r_get (v := .ref (a 12)) hx hb hown hq hE hP 20 47 tFX12_20 (by decide) pw_1442 rfl dX12_isPlace_27 ?_
      refine lv_aload_n hx hb dX12_isPlace_30 rfl (lv_at hl 0 rfl) ?_
      refine r_get (v := .ref (a 52)) hx hb hown hq hE hP 88 168 tFX12_88 (by decide) pw_1483 rfl dX12_isPlace_31 ?_
      refine lv_iload_n hx hb dX12_isPlace_34 rfl (lv_at hl 1 rfl) ?_
      refine r_ldi (f := (B 52)) (j := n9) hx hb hE hP 52 (ma_52 G a _) rfl (by omega) (by decide) dX12_isPlace_35 ?_
      refine lv_topi (fun x14 e15 => ?_)
      obtain rfl : x14 = nI p5 := e15.trans e6
      refine r_ldi (f := (B 12)) (j := p5) hx hb hE hP 12 (ma_12 G a _) rfl (by omega) (by decide) dX12_isPlace_36 ?_
      refine lv_iload_n hx hb dX12_isPlace_37 rfl (lv_at hl 1 rfl) ?_
      refine lv_icmp_ne (tgt := 45) hx hb dX12_isPlace_38 (by decide) (fun c16 => ?_) (fun c16 => ?_)
      · refine lv_iconst (v := 0) hx hb dX12_isPlace_45 (by decide) ?_
        have hz17 : 0 ≤ 1 := (by omega)
        have hz18 : If (0 = 1) (PlcP B n9) := (fun e => absurd e (by decide))
        have hz19 : If (0 = 0) (¬ PlcP B n9) := (fun _ ⟨p, h1, h2, h3, h4⟩ => by have e9 : p = p5 := (nI_eq (by omega) (by omega)).mp (h2.symm.trans e6); rw [e9] at h3 h4; exact absurd h4 c16)
        have hP : va_P G.1 pCl (mW G h0 a F B) _ := hP
        have hD : va_D A (mW G h0 a F B) := mW_D hD
        exact W.zret (v := 0) hx hb hr rfl (fun t9 ht9 hW9 => ⟨⟨_, 0, rfl, ⟨rfl, hz17, hz18, hz19⟩, by rw [ht9]; exact hP, hD⟩, hS.F ht9⟩) hS.2.2 dX12_isPlace_46
      · refine lv_iconst (v := 1) hx hb dX12_isPlace_41 (by decide) ?_
        refine lv_goto (tgt := 46) hx hb dX12_isPlace_42 (by decide) ?_
        have hz20 : 1 ≤ 1 := (by omega)
        have hz21 : If (1 = 1) (PlcP B n9) := (fun _ => ⟨p5, by omega, e6, c10, c16⟩)
        have hz22 : If (1 = 0) (¬ PlcP B n9) := (fun e => absurd e (by decide))
        have hP : va_P G.1 pCl (mW G h0 a F B) _ := hP
        have hD : va_D A (mW G h0 a F B) := mW_D hD
        exact W.zret (v := 1) hx hb hr rfl (fun t9 ht9 hW9 => ⟨⟨_, 1, rfl, ⟨rfl, hz20, hz21, hz22⟩, by rw [ht9]; exact hP, hD⟩, hS.F ht9⟩) hS.2.2 dX12_isPlace_46
theorem dX12_looksAt_0 : decode cX12_looksAt 0 = .ok (.aload_n 0, 1) := by decide +kernel
theorem dX12_looksAt_1 : decode cX12_looksAt 1 = .ok (.invokevirtual 782, 3) := by decide +kernel
theorem dX12_looksAt_4 : decode cX12_looksAt 4 = .ok (.ifCond .ne 4, 3) := by decide +kernel
theorem dX12_looksAt_8 : decode cX12_looksAt 8 = .ok (.aload_n 0, 1) := by decide +kernel
theorem dX12_looksAt_9 : decode cX12_looksAt 9 = .ok (.getfield 38, 3) := by decide +kernel
theorem dX12_looksAt_12 : decode cX12_looksAt 12 = .ok (.iload_n 1, 1) := by decide +kernel
theorem dX12_looksAt_13 : decode cX12_looksAt 13 = .ok (.iaload, 1) := by decide +kernel
theorem dX12_looksAt_14 : decode cX12_looksAt 14 = .ok (.bipush 35, 2) := by decide +kernel
theorem dX12_looksAt_16 : decode cX12_looksAt 16 = .ok (.if_icmp .ne 16, 3) := by decide +kernel
theorem dX12_looksAt_32 : decode cX12_looksAt 32 = .ok (.aload_n 0, 1) := by decide +kernel
theorem dX12_looksAt_33 : decode cX12_looksAt 33 = .ok (.getfield 50, 3) := by decide +kernel
theorem dX12_looksAt_36 : decode cX12_looksAt 36 = .ok (.iload_n 1, 1) := by decide +kernel
theorem dX12_looksAt_37 : decode cX12_looksAt 37 = .ok (.iaload, 1) := by decide +kernel
theorem dX12_looksAt_38 : decode cX12_looksAt 38 = .ok (.iconst (-1), 1) := by decide +kernel
theorem dX12_looksAt_39 : decode cX12_looksAt 39 = .ok (.if_icmp .eq 16, 3) := by decide +kernel
theorem dX12_looksAt_55 : decode cX12_looksAt 55 = .ok (.aload_n 0, 1) := by decide +kernel
theorem dX12_looksAt_56 : decode cX12_looksAt 56 = .ok (.aload_n 0, 1) := by decide +kernel
theorem dX12_looksAt_57 : decode cX12_looksAt 57 = .ok (.getfield 56, 3) := by decide +kernel
theorem dX12_looksAt_60 : decode cX12_looksAt 60 = .ok (.iload_n 1, 1) := by decide +kernel
theorem dX12_looksAt_61 : decode cX12_looksAt 61 = .ok (.iaload, 1) := by decide +kernel
theorem dX12_looksAt_62 : decode cX12_looksAt 62 = .ok (.invokevirtual 794, 3) := by decide +kernel
theorem dX12_looksAt_65 : decode cX12_looksAt 65 = .ok (.return_, 1) := by decide +kernel
theorem dX12_looksAt_42 : decode cX12_looksAt 42 = .ok (.aload_n 0, 1) := by decide +kernel
theorem dX12_looksAt_43 : decode cX12_looksAt 43 = .ok (.aload_n 0, 1) := by decide +kernel
theorem dX12_looksAt_44 : decode cX12_looksAt 44 = .ok (.getfield 50, 3) := by decide +kernel
theorem dX12_looksAt_47 : decode cX12_looksAt 47 = .ok (.iload_n 1, 1) := by decide +kernel
theorem dX12_looksAt_48 : decode cX12_looksAt 48 = .ok (.iaload, 1) := by decide +kernel
theorem dX12_looksAt_49 : decode cX12_looksAt 49 = .ok (.invokevirtual 794, 3) := by decide +kernel
theorem dX12_looksAt_52 : decode cX12_looksAt 52 = .ok (.goto 13, 3) := by decide +kernel
theorem dX12_looksAt_19 : decode cX12_looksAt 19 = .ok (.aload_n 0, 1) := by decide +kernel
theorem dX12_looksAt_20 : decode cX12_looksAt 20 = .ok (.aload_n 0, 1) := by decide +kernel
theorem dX12_looksAt_21 : decode cX12_looksAt 21 = .ok (.getfield 47, 3) := by decide +kernel
theorem dX12_looksAt_24 : decode cX12_looksAt 24 = .ok (.iload_n 1, 1) := by decide +kernel
theorem dX12_looksAt_25 : decode cX12_looksAt 25 = .ok (.iaload, 1) := by decide +kernel
theorem dX12_looksAt_26 : decode cX12_looksAt 26 = .ok (.invokevirtual 794, 3) := by decide +kernel
theorem dX12_looksAt_29 : decode cX12_looksAt 29 = .ok (.goto 36, 3) := by decide +kernel
theorem dX12_looksAt_7 : decode cX12_looksAt 7 = .ok (.return_, 1) := by decide +kernel
theorem hV_X12_pays : yX12_pays.cls = RX12 ∧ yX12_pays.cls ≠ "java/lang/invoke/MethodHandle" ∧ yX12_pays.cls ≠ "java/lang/invoke/VarHandle" ∧ (parseMethodDescriptor yX12_pays.desc).map (fun d => d.parameters.length) = some 0 := by decide +kernel
set_option maxHeartbeats 2000000 in
set_option maxRecDepth 100000 in
/-- looksAt(n) -/
theorem R_looksAt (l : Launch) (G : pT) (h0 : Nat) (a : Nat → Nat) (F : Nat → Int32) (B : Nat → Nat → Int32) (n9 : Nat) (fu : Nat) (en : Int32) (nw : Int32) (isn : Int32) (hn9 : n9 < 12000) (hfu : fu ≤ 20000) : PM l G pX0 yX12_looksAt cX12_looksAt 2 none ({ frames := 3, cells := 0, slots := 0, locals := 81 }) [.ref h0, .int (nI n9)] (mW G h0 a (upd (upd (upd (upd F 116 en) 117 (nI fu)) 125 nw) 126 isn) B) (fun (v : Option Value) (u : Nat × Nat × Int32 × Int32 × Int32) => v = none ∧ (u.1 ≤ 1) ∧ (u.2.1 + u.1 = fu) ∧ (If (u.1 = 0) (u.2.2.1 = 2)) ∧ (If (u.1 = 1) (u.2.2.1 = en ∧ u.2.2.2.2 = 1 ∧ u.2.2.2.1 = lkF B n9))) (fun u => (mW G h0 a (upd (upd (upd (upd F 116 u.2.2.1) 117 (nI u.2.1)) 125 u.2.2.2.1) 126 u.2.2.2.2) B)) := by
  intro sz
  refine Met.ofW (cc := cX12_looksAt) (maxL := 2) (ret := none) (by decide) rfl ?_
  intro p e s m args below meth c s₁ B9 hml hv
  obtain ⟨rfl, hsz, hP, hD0, hE, hX⟩ := hv
  have hx := B9.exec
  have hb := B9.bytes
  have hr := B9.returns
  have hts := atoms_spec (ws := Cond.code yX12_looksAt cX12_looksAt 2 none :: pw) B9.pre
  have hq : ∀ w ∈ pw, w.before _ s = true := fun w h => hts w (List.mem_cons_of_mem _ h)
  have hown : s.vm.findClass RX12 = some m.cls := findClass_of_methodNamed B9.named
  have hlocks := B9.notSynchronized
  subst hsz
  have hD := hD0.self (sz := s.heap.size)
  have hA : ∀ q : Nat, s.heap.size ≤ q → va_A (mW G h0 a (upd (upd (upd (upd F 116 en) 117 (nI fu)) 125 nw) 126 isn) B) s.heap.size q := fun q h => Or.inr h
  have hP : va_P G.1 pCl (mW G h0 a (upd (upd (upd (upd F 116 en) 117 (nI fu)) 125 nw) 126 isn) B) s.heap := hP
  generalize va_A (mW G h0 a (upd (upd (upd (upd F 116 en) 117 (nI fu)) 125 nw) 126 isn) B) s.heap.size = A at hD hE hA ⊢
  have hS : va_S A s.heap s.heap [] := va_S.rf
  have hl := lv_entry ([.ref h0, .int (nI n9)]) (n := 2) (Nat.le_of_ble_eq_true rfl)
  rw [lg_entry_eq]
  generalize (lg_sl ([.ref h0, .int (nI n9)]) ++ List.replicate (2 - (lg_sl ([.ref h0, .int (nI n9)])).length) Slot.unset).toArray = ls at hl ⊢
  have hl : lv_has ls 2 [(0, .ref h0), (1, .int (nI n9))] := hl
  refine lv_aload_n hx hb dX12_looksAt_0 rfl (lv_at hl 0 rfl) ?_
  have hP : va_P G.1 pCl (mW G h0 a (upd (upd (upd (upd (upd (upd F 116 en) 117 (nI fu)) 125 nw) 126 isn) 116 en) 117 (nI fu)) B) _ := mW_to (F := F) (l1 := [(116, en), (117, (nI fu)), (125, nw), (126, isn)]) (l2 := [(116, en), (117, (nI fu)), (125, nw), (126, isn), (116, en), (117, (nI fu))]) (V := [en, (nI fu), nw, isn, en, (nI fu), nw, isn, en, (nI fu)]) rfl rfl rfl hP
  have hD : va_D A (mW G h0 a (upd (upd (upd (upd (upd (upd F 116 en) 117 (nI fu)) 125 nw) 126 isn) 116 en) 117 (nI fu)) B) := mW_D hD
  refine pc_V0 (G := G) (As := []) (rest := []) hx hb hml hown hq hE hX pX0_al hP hD hS hA hl.1 (R_pays l G h0 a (upd (upd (upd (upd F 116 en) 117 (nI fu)) 125 nw) 126 isn) B fu en (by omega)) (gV pw_2026 pw_2027 pw_2028 pw_1523 pw_2000) hV_X12_pays 0 9 rfl rfl rfl rfl (Nat.le_of_ble_eq_true rfl) dX12_looksAt_1 ⟨Nat.le_of_ble_eq_true rfl, Nat.le_of_ble_eq_true rfl⟩ ⟨Nat.le_of_ble_eq_true rfl, Nat.le_of_ble_eq_true rfl⟩ (fun v3 u1 H locs hw2 hP hD hS => ?_)
  obtain ⟨r4, fu5, en6⟩ := u1
  obtain ⟨hw2, h7, h8, h9, h10⟩ := hw2
  replace h7 : r4 ≤ 1 := h7
  replace h8 : fu5 + r4 = fu := h8
  replace h9 : If (r4 = 1) (en6 = en) := h9
  replace h10 : If (r4 = 0) (en6 = 2) := h10
  obtain rfl : v3 = some (.int (nI r4)) := hw2
  have hP : va_P G.1 pCl (mW G h0 a (upd (upd (upd (upd F 116 en6) 117 (nI fu5)) 125 nw) 126 isn) B) _ := mW_to (F := F) (l1 := [(116, en), (117, (nI fu)), (125, nw), (126, isn), (116, en6), (117, (nI fu5))]) (l2 := [(116, en6), (117, (nI fu5)), (125, nw), (126, isn)]) (V := [en6, (nI fu5), nw, isn, en6, (nI fu5), en6, (nI fu5), nw, isn]) rfl rfl rfl hP
  have hD : va_D A (mW G h0 a (upd (upd (upd (upd F 116 en6) 117 (nI fu5)) 125 nw) 126 isn) B) := mW_D hD
  refine W.widen (k := 0) (n := 0) (Nat.le_of_ble_eq_true rfl) (Nat.le_of_ble_eq_true rfl) ?_
  refine W.eq (g2 := F0 m 4 ls [.int (nI r4)]) rfl ?_
  refine lv_if_ne (tgt := 8) hx hb dX12_looksAt_4 (by decide) (fun c11 => ?_) (fun c11 => ?_)
  · have n12 : ¬ (r4 = 0) := fun h9 => c11 ((nI_eq (a := r4) (b := 0) (by omega) (by omega)).mpr h9)
    refine lv_aload_n hx hb dX12_looksAt_8 rfl (lv_at hl 0 rfl) ?_
    refine r_get (v := .ref (a 9)) hx hb hown hq hE hP 17 38 tFX12_17 (by decide) pw_1439 rfl dX12_looksAt_9 ?_
    refine lv_iload_n hx hb dX12_looksAt_12 rfl (lv_at hl 1 rfl) ?_
    refine r_ldi (f := (B 9)) (j := n9) hx hb hE hP 9 (ma_9 G a _) rfl (by omega) (by decide) dX12_looksAt_13 ?_
    refine lv_bipush (v := 35) hx hb dX12_looksAt_14 (by decide) ?_
    refine lv_icmp_ne (tgt := 32) hx hb dX12_looksAt_16 (by decide) (fun c13 => ?_) (fun c13 => ?_)
    · refine lv_aload_n hx hb dX12_looksAt_32 rfl (lv_at hl 0 rfl) ?_
      refine r_get (v := .ref (a 13)) hx hb hown hq hE hP 21 50 tFX12_21 (by decide) pw_1443 rfl dX12_looksAt_33 ?_
      refine lv_iload_n hx hb dX12_looksAt_36 rfl (lv_at hl 1 rfl) ?_
      refine r_ldi (f := (B 13)) (j := n9) hx hb hE hP 13 (ma_13 G a _) rfl (by omega) (by decide) dX12_looksAt_37 ?_
      refine lv_iconst (v := (-1)) hx hb dX12_looksAt_38 (by decide) ?_
      refine lv_icmp_eq (tgt := 55) hx hb dX12_looksAt_39 (by decide) (fun c14 => ?_) (fun c14 => ?_)
      · refine lv_aload_n hx hb dX12_looksAt_55 rfl (lv_at hl 0 rfl) ?_
        refine lv_aload_n hx hb dX12_looksAt_56 rfl (lv_at hl 0 rfl) ?_
        refine r_get (v := .ref (a 15)) hx hb hown hq hE hP 23 56 tFX12_23 (by decide) pw_1445 rfl dX12_looksAt_57 ?_
        refine lv_iload_n hx hb dX12_looksAt_60 rfl (lv_at hl 1 rfl) ?_
        refine r_ldi (f := (B 15)) (j := n9) hx hb hE hP 15 (ma_15 G a _) rfl (by omega) (by decide) dX12_looksAt_61 ?_
        have hP : va_P G.1 pCl (mW G h0 a (upd (upd (upd (upd F 116 en6) 117 (nI fu5)) 125 nw) 126 isn) B) _ := hP
        have hD : va_D A (mW G h0 a (upd (upd (upd (upd F 116 en6) 117 (nI fu5)) 125 nw) 126 isn) B) := mW_D hD
        refine pc_V0 (G := G) (As := [.int ((B 15) n9)]) (rest := []) hx hb hml hown hq hE hX pX0_al hP hD hS hA hl.1 (R_begin l G h0 a (upd (upd (upd (upd F 116 en6) 117 (nI fu5)) 125 nw) 126 isn) B ((B 15) n9)) (gV pw_2016 pw_2017 pw_2018 pw_1523 pw_2002) hV_X12_begin 0 9 rfl rfl rfl rfl (Nat.le_of_ble_eq_true rfl) dX12_looksAt_62 ⟨Nat.le_of_ble_eq_true rfl, Nat.le_of_ble_eq_true rfl⟩ ⟨Nat.le_of_ble_eq_true rfl, Nat.le_of_ble_eq_true rfl⟩ (fun v17 u15 H locs hw16 hP hD hS => ?_)
        obtain rfl : v17 = none := hw16
        have hP : va_P G.1 pCl (mW G h0 a (upd (upd (upd (upd F 116 en6) 117 (nI fu5)) 125 ((B 15) n9)) 126 1) B) _ := mW_to (F := F) (l1 := [(116, en6), (117, (nI fu5)), (125, nw), (126, isn), (125, ((B 15) n9)), (126, 1)]) (l2 := [(116, en6), (117, (nI fu5)), (125, ((B 15) n9)), (126, 1)]) (V := [en6, (nI fu5), ((B 15) n9), 1, ((B 15) n9), 1, en6, (nI fu5), ((B 15) n9), 1]) rfl rfl rfl hP
        have hD : va_D A (mW G h0 a (upd (upd (upd (upd F 116 en6) 117 (nI fu5)) 125 ((B 15) n9)) 126 1) B) := mW_D hD
        refine W.widen (k := 0) (n := 0) (Nat.le_of_ble_eq_true rfl) (Nat.le_of_ble_eq_true rfl) ?_
        refine W.eq (g2 := F0 m 65 ls []) rfl ?_
        have hz18 : r4 ≤ 1 := (by omega)
        have hz19 : fu5 + r4 = fu := (by omega)
        have hz20 : If (r4 = 0) (en6 = 2) := (fun e => absurd e (by omega))
        have hz21 : If (r4 = 1) (en6 = en ∧ (1 : Int32) = 1 ∧ ((B 15) n9) = lkF B n9) := (fun e => ⟨h9 e, rfl, (lkF_2 c13 c14).symm⟩)
        have hP : va_P G.1 pCl (mW G h0 a (upd (upd (upd (upd F 116 en6) 117 (nI fu5)) 125 ((B 15) n9)) 126 (1 : Int32)) B) _ := mW_to (F := F) (l1 := [(116, en6), (117, (nI fu5)), (125, ((B 15) n9)), (126, 1)]) (l2 := [(116, en6), (117, (nI fu5)), (125, ((B 15) n9)), (126, (1 : Int32))]) (V := [en6, (nI fu5), ((B 15) n9), (1 : Int32), en6, (nI fu5), ((B 15) n9), (1 : Int32)]) rfl rfl rfl hP
        have hD : va_D A (mW G h0 a (upd (upd (upd (upd F 116 en6) 117 (nI fu5)) 125 ((B 15) n9)) 126 (1 : Int32)) B) := mW_D hD
        exact W.vret hx hb hr (fun t9 ht9 hW9 => ⟨⟨_, (r4, fu5, en6, ((B 15) n9), (1 : Int32)), rfl, ⟨rfl, hz18, hz19, hz20, hz21⟩, by rw [ht9]; exact hP, hD⟩, hS.F ht9⟩) hS.2.2 dX12_looksAt_65
      · refine lv_aload_n hx hb dX12_looksAt_42 rfl (lv_at hl 0 rfl) ?_
        refine lv_aload_n hx hb dX12_looksAt_43 rfl (lv_at hl 0 rfl) ?_
        refine r_get (v := .ref (a 13)) hx hb hown hq hE hP 21 50 tFX12_21 (by decide) pw_1443 rfl dX12_looksAt_44 ?_
        refine lv_iload_n hx hb dX12_looksAt_47 rfl (lv_at hl 1 rfl) ?_
        refine r_ldi (f := (B 13)) (j := n9) hx hb hE hP 13 (ma_13 G a _) rfl (by omega) (by decide) dX12_looksAt_48 ?_
        have hP : va_P G.1 pCl (mW G h0 a (upd (upd (upd (upd F 116 en6) 117 (nI fu5)) 125 nw) 126 isn) B) _ := hP
        have hD : va_D A (mW G h0 a (upd (upd (upd (upd F 116 en6) 117 (nI fu5)) 125 nw) 126 isn) B) := mW_D hD
        refine pc_V0 (G := G) (As := [.int ((B 13) n9)]) (rest := []) hx hb hml hown hq hE hX pX0_al hP hD hS hA hl.1 (R_begin l G h0 a (upd (upd (upd (upd F 116 en6) 117 (nI fu5)) 125 nw) 126 isn) B ((B 13) n9)) (gV pw_2016 pw_2017 pw_2018 pw_1523 pw_2002) hV_X12_begin 0 9 rfl rfl rfl rfl (Nat.le_of_ble_eq_true rfl) dX12_looksAt_49 ⟨Nat.le_of_ble_eq_true rfl, Nat.le_of_ble_eq_true rfl⟩ ⟨Nat.le_of_ble_eq_true rfl, Nat.le_of_ble_eq_true rfl⟩ (fun v24 u22 H locs hw23 hP hD hS => ?_)
        obtain rfl : v24 = none := hw23
        have hP : va_P G.1 pCl (mW G h0 a (upd (upd (upd (upd F 116 en6) 117 (nI fu5)) 125 ((B 13) n9)) 126 1) B) _ := mW_to (F := F) (l1 := [(116, en6), (117, (nI fu5)), (125, nw), (126, isn), (125, ((B 13) n9)), (126, 1)]) (l2 := [(116, en6), (117, (nI fu5)), (125, ((B 13) n9)), (126, 1)]) (V := [en6, (nI fu5), ((B 13) n9), 1, ((B 13) n9), 1, en6, (nI fu5), ((B 13) n9), 1]) rfl rfl rfl hP
        have hD : va_D A (mW G h0 a (upd (upd (upd (upd F 116 en6) 117 (nI fu5)) 125 ((B 13) n9)) 126 1) B) := mW_D hD
        refine W.widen (k := 0) (n := 0) (Nat.le_of_ble_eq_true rfl) (Nat.le_of_ble_eq_true rfl) ?_
        refine W.eq (g2 := F0 m 52 ls []) rfl ?_
        refine lv_goto (tgt := 65) hx hb dX12_looksAt_52 (by decide) ?_
        have hz25 : r4 ≤ 1 := (by omega)
        have hz26 : fu5 + r4 = fu := (by omega)
        have hz27 : If (r4 = 0) (en6 = 2) := (fun e => absurd e (by omega))
        have hz28 : If (r4 = 1) (en6 = en ∧ (1 : Int32) = 1 ∧ ((B 13) n9) = lkF B n9) := (fun e => ⟨h9 e, rfl, (lkF_3 c13 c14).symm⟩)
        have hP : va_P G.1 pCl (mW G h0 a (upd (upd (upd (upd F 116 en6) 117 (nI fu5)) 125 ((B 13) n9)) 126 (1 : Int32)) B) _ := mW_to (F := F) (l1 := [(116, en6), (117, (nI fu5)), (125, ((B 13) n9)), (126, 1)]) (l2 := [(116, en6), (117, (nI fu5)), (125, ((B 13) n9)), (126, (1 : Int32))]) (V := [en6, (nI fu5), ((B 13) n9), (1 : Int32), en6, (nI fu5), ((B 13) n9), (1 : Int32)]) rfl rfl rfl hP
        have hD : va_D A (mW G h0 a (upd (upd (upd (upd F 116 en6) 117 (nI fu5)) 125 ((B 13) n9)) 126 (1 : Int32)) B) := mW_D hD
        exact W.vret hx hb hr (fun t9 ht9 hW9 => ⟨⟨_, (r4, fu5, en6, ((B 13) n9), (1 : Int32)), rfl, ⟨rfl, hz25, hz26, hz27, hz28⟩, by rw [ht9]; exact hP, hD⟩, hS.F ht9⟩) hS.2.2 dX12_looksAt_65
    · refine lv_aload_n hx hb dX12_looksAt_19 rfl (lv_at hl 0 rfl) ?_
      refine lv_aload_n hx hb dX12_looksAt_20 rfl (lv_at hl 0 rfl) ?_
      refine r_get (v := .ref (a 12)) hx hb hown hq hE hP 20 47 tFX12_20 (by decide) pw_1442 rfl dX12_looksAt_21 ?_
      refine lv_iload_n hx hb dX12_looksAt_24 rfl (lv_at hl 1 rfl) ?_
      refine r_ldi (f := (B 12)) (j := n9) hx hb hE hP 12 (ma_12 G a _) rfl (by omega) (by decide) dX12_looksAt_25 ?_
      have hP : va_P G.1 pCl (mW G h0 a (upd (upd (upd (upd F 116 en6) 117 (nI fu5)) 125 nw) 126 isn) B) _ := hP
      have hD : va_D A (mW G h0 a (upd (upd (upd (upd F 116 en6) 117 (nI fu5)) 125 nw) 126 isn) B) := mW_D hD
      refine pc_V0 (G := G) (As := [.int ((B 12) n9)]) (rest := []) hx hb hml hown hq hE hX pX0_al hP hD hS hA hl.1 (R_begin l G h0 a (upd (upd (upd (upd F 116 en6) 117 (nI fu5)) 125 nw) 126 isn) B ((B 12) n9)) (gV pw_2016 pw_2017 pw_2018 pw_1523 pw_2002) hV_X12_begin 0 9 rfl rfl rfl rfl (Nat.le_of_ble_eq_true rfl) dX12_looksAt_26 ⟨Nat.le_of_ble_eq_true rfl, Nat.le_of_ble_eq_true rfl⟩ ⟨Nat.le_of_ble_eq_true rfl, Nat.le_of_ble_eq_true rfl⟩ (fun v31 u29 H locs hw30 hP hD hS => ?_)
      obtain rfl : v31 = none := hw30
      have hP : va_P G.1 pCl (mW G h0 a (upd (upd (upd (upd F 116 en6) 117 (nI fu5)) 125 ((B 12) n9)) 126 1) B) _ := mW_to (F := F) (l1 := [(116, en6), (117, (nI fu5)), (125, nw), (126, isn), (125, ((B 12) n9)), (126, 1)]) (l2 := [(116, en6), (117, (nI fu5)), (125, ((B 12) n9)), (126, 1)]) (V := [en6, (nI fu5), ((B 12) n9), 1, ((B 12) n9), 1, en6, (nI fu5), ((B 12) n9), 1]) rfl rfl rfl hP
      have hD : va_D A (mW G h0 a (upd (upd (upd (upd F 116 en6) 117 (nI fu5)) 125 ((B 12) n9)) 126 1) B) := mW_D hD
      refine W.widen (k := 0) (n := 0) (Nat.le_of_ble_eq_true rfl) (Nat.le_of_ble_eq_true rfl) ?_
      refine W.eq (g2 := F0 m 29 ls []) rfl ?_
      refine lv_goto (tgt := 65) hx hb dX12_looksAt_29 (by decide) ?_
      have hz32 : r4 ≤ 1 := (by omega)
      have hz33 : fu5 + r4 = fu := (by omega)
      have hz34 : If (r4 = 0) (en6 = 2) := (fun e => absurd e (by omega))
      have hz35 : If (r4 = 1) (en6 = en ∧ (1 : Int32) = 1 ∧ ((B 12) n9) = lkF B n9) := (fun e => ⟨h9 e, rfl, (lkF_1 c13).symm⟩)
      have hP : va_P G.1 pCl (mW G h0 a (upd (upd (upd (upd F 116 en6) 117 (nI fu5)) 125 ((B 12) n9)) 126 (1 : Int32)) B) _ := mW_to (F := F) (l1 := [(116, en6), (117, (nI fu5)), (125, ((B 12) n9)), (126, 1)]) (l2 := [(116, en6), (117, (nI fu5)), (125, ((B 12) n9)), (126, (1 : Int32))]) (V := [en6, (nI fu5), ((B 12) n9), (1 : Int32), en6, (nI fu5), ((B 12) n9), (1 : Int32)]) rfl rfl rfl hP
      have hD : va_D A (mW G h0 a (upd (upd (upd (upd F 116 en6) 117 (nI fu5)) 125 ((B 12) n9)) 126 (1 : Int32)) B) := mW_D hD
      exact W.vret hx hb hr (fun t9 ht9 hW9 => ⟨⟨_, (r4, fu5, en6, ((B 12) n9), (1 : Int32)), rfl, ⟨rfl, hz32, hz33, hz34, hz35⟩, by rw [ht9]; exact hP, hD⟩, hS.F ht9⟩) hS.2.2 dX12_looksAt_65
  · have n36 : r4 = 0 := (nI_eq (a := r4) (b := 0) (by omega) (by omega)).mp c11
    have hz37 : r4 ≤ 1 := (by omega)
    have hz38 : fu5 + r4 = fu := (by omega)
    have hz39 : If (r4 = 0) (en6 = 2) := (fun e => h10 e)
    have hz40 : If (r4 = 1) (en6 = en ∧ isn = 1 ∧ nw = lkF B n9) := (fun e => absurd e (by omega))
    have hP : va_P G.1 pCl (mW G h0 a (upd (upd (upd (upd F 116 en6) 117 (nI fu5)) 125 nw) 126 isn) B) _ := hP
    have hD : va_D A (mW G h0 a (upd (upd (upd (upd F 116 en6) 117 (nI fu5)) 125 nw) 126 isn) B) := mW_D hD
    exact W.vret hx hb hr (fun t9 ht9 hW9 => ⟨⟨_, (r4, fu5, en6, nw, isn), rfl, ⟨rfl, hz37, hz38, hz39, hz40⟩, by rw [ht9]; exact hP, hD⟩, hS.F ht9⟩) hS.2.2 dX12_looksAt_7
