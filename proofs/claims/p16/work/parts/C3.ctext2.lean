theorem dX10_isDigit_0 : decode cX10_isDigit 0 = .ok (.iload_n 0, 1) := by decide +kernel
theorem dX10_isDigit_1 : decode cX10_isDigit 1 = .ok (.bipush 48, 2) := by decide +kernel
theorem dX10_isDigit_3 : decode cX10_isDigit 3 = .ok (.if_icmp .lt 13, 3) := by decide +kernel
theorem dX10_isDigit_16 : decode cX10_isDigit 16 = .ok (.iconst 0, 1) := by decide +kernel
theorem dX10_isDigit_17 : decode cX10_isDigit 17 = .ok (.ireturn, 1) := by decide +kernel
theorem dX10_isDigit_6 : decode cX10_isDigit 6 = .ok (.iload_n 0, 1) := by decide +kernel
theorem dX10_isDigit_7 : decode cX10_isDigit 7 = .ok (.bipush 57, 2) := by decide +kernel
theorem dX10_isDigit_9 : decode cX10_isDigit 9 = .ok (.if_icmp .gt 7, 3) := by decide +kernel
theorem dX10_isDigit_12 : decode cX10_isDigit 12 = .ok (.iconst 1, 1) := by decide +kernel
theorem dX10_isDigit_13 : decode cX10_isDigit 13 = .ok (.goto 4, 3) := by decide +kernel
set_option maxHeartbeats 1000000 in
set_option maxRecDepth 100000 in
/-- s_dig -/
theorem s_dig (l : Launch) (G : pT) (x : Int32) : PM l G pX0 yX10_isDigit cX10_isDigit 1 (some .boolean) ({ frames := 2, cells := 0, slots := 0, locals := 60 }) [.int x] [] (fun (v : Option Value) (u : Nat) => v = some (.int (nI u)) ∧ u ≤ 1) (fun u => []) := by
  intro sz
  refine Met.ofW (cc := cX10_isDigit) (maxL := 1) (ret := (some .boolean)) (by decide) rfl ?_
  intro p e s m args below meth c s₁ B hml hv
  obtain ⟨rfl, hsz, hP, hD0, hE, hX⟩ := hv
  have hx := B.exec
  have hb := B.bytes
  have hr := B.returns
  have hts := atoms_spec (ws := Cond.code yX10_isDigit cX10_isDigit 1 (some .boolean) :: pw) B.pre
  have hq : ∀ w ∈ pw, w.before _ s = true := fun w h => hts w (List.mem_cons_of_mem _ h)
  have hown : s.vm.findClass RX10 = some m.cls := findClass_of_methodNamed B.named
  have hlocks := B.notSynchronized
  subst hsz
  have hD := hD0.self (sz := s.heap.size)
  have hA : ∀ q : Nat, s.heap.size ≤ q → va_A [] s.heap.size q := fun q h => Or.inr h
  have hP : va_P G.1 pCl [] s.heap := hP
  generalize va_A [] s.heap.size = A at hD hE hA ⊢
  have hS : va_S A s.heap s.heap [] := va_S.rf
  have hl := lv_entry ([.int x]) (n := 1) (Nat.le_of_ble_eq_true rfl)
  rw [lg_entry_eq]
  generalize (lg_sl ([.int x]) ++ List.replicate (1 - (lg_sl ([.int x])).length) Slot.unset).toArray = ls at hl ⊢
  have hl : lv_has ls 1 [(0, .int x)] := hl
  refine lv_iload_n hx hb dX10_isDigit_0 rfl (lv_at hl 0 rfl) ?_
  refine lv_bipush (v := 48) hx hb dX10_isDigit_1 (by decide) ?_
  refine lv_icmp_lt (tgt := 16) hx hb dX10_isDigit_3 (by decide) (fun c1 => ?_) (fun c1 => ?_)
  · refine lv_iconst (v := 0) hx hb dX10_isDigit_16 (by decide) ?_
    refine W.widen (k := 0) (n := 0) (Nat.le_of_ble_eq_true rfl) (Nat.le_of_ble_eq_true rfl) ?_
    exact W.zret (v := 0) hx hb hr rfl (fun t ht hW => ⟨⟨_, 0, rfl, ⟨rfl, by decide⟩, by rw [ht]; exact hP.sub [] rfl, hD.sub [] (by decide) rfl⟩, hS.F ht⟩) hS.2.2 dX10_isDigit_17
  · refine lv_iload_n hx hb dX10_isDigit_6 rfl (lv_at hl 0 rfl) ?_
    refine lv_bipush (v := 57) hx hb dX10_isDigit_7 (by decide) ?_
    refine lv_icmp_gt (tgt := 16) hx hb dX10_isDigit_9 (by decide) (fun c2 => ?_) (fun c2 => ?_)
    · refine lv_iconst (v := 0) hx hb dX10_isDigit_16 (by decide) ?_
      refine W.widen (k := 0) (n := 0) (Nat.le_of_ble_eq_true rfl) (Nat.le_of_ble_eq_true rfl) ?_
      exact W.zret (v := 0) hx hb hr rfl (fun t ht hW => ⟨⟨_, 0, rfl, ⟨rfl, by decide⟩, by rw [ht]; exact hP.sub [] rfl, hD.sub [] (by decide) rfl⟩, hS.F ht⟩) hS.2.2 dX10_isDigit_17
    · refine lv_iconst (v := 1) hx hb dX10_isDigit_12 (by decide) ?_
      refine lv_goto (tgt := 17) hx hb dX10_isDigit_13 (by decide) ?_
      refine W.widen (k := 0) (n := 0) (Nat.le_of_ble_eq_true rfl) (Nat.le_of_ble_eq_true rfl) ?_
      exact W.zret (v := 1) hx hb hr rfl (fun t ht hW => ⟨⟨_, 1, rfl, ⟨rfl, by decide⟩, by rw [ht]; exact hP.sub [] rfl, hD.sub [] (by decide) rfl⟩, hS.F ht⟩) hS.2.2 dX10_isDigit_17
theorem dX10_isLetter_0 : decode cX10_isLetter 0 = .ok (.iload_n 0, 1) := by decide +kernel
theorem dX10_isLetter_1 : decode cX10_isLetter 1 = .ok (.bipush 65, 2) := by decide +kernel
theorem dX10_isLetter_3 : decode cX10_isLetter 3 = .ok (.if_icmp .lt 9, 3) := by decide +kernel
theorem dX10_isLetter_12 : decode cX10_isLetter 12 = .ok (.iload_n 0, 1) := by decide +kernel
theorem dX10_isLetter_13 : decode cX10_isLetter 13 = .ok (.bipush 97, 2) := by decide +kernel
theorem dX10_isLetter_15 : decode cX10_isLetter 15 = .ok (.if_icmp .lt 13, 3) := by decide +kernel
theorem dX10_isLetter_28 : decode cX10_isLetter 28 = .ok (.iconst 0, 1) := by decide +kernel
theorem dX10_isLetter_29 : decode cX10_isLetter 29 = .ok (.ireturn, 1) := by decide +kernel
theorem dX10_isLetter_18 : decode cX10_isLetter 18 = .ok (.iload_n 0, 1) := by decide +kernel
theorem dX10_isLetter_19 : decode cX10_isLetter 19 = .ok (.bipush 122, 2) := by decide +kernel
theorem dX10_isLetter_21 : decode cX10_isLetter 21 = .ok (.if_icmp .gt 7, 3) := by decide +kernel
theorem dX10_isLetter_24 : decode cX10_isLetter 24 = .ok (.iconst 1, 1) := by decide +kernel
theorem dX10_isLetter_25 : decode cX10_isLetter 25 = .ok (.goto 4, 3) := by decide +kernel
theorem dX10_isLetter_6 : decode cX10_isLetter 6 = .ok (.iload_n 0, 1) := by decide +kernel
theorem dX10_isLetter_7 : decode cX10_isLetter 7 = .ok (.bipush 90, 2) := by decide +kernel
theorem dX10_isLetter_9 : decode cX10_isLetter 9 = .ok (.if_icmp .le 15, 3) := by decide +kernel
set_option maxHeartbeats 1000000 in
set_option maxRecDepth 100000 in
/-- s_let -/
theorem s_let (l : Launch) (G : pT) (x : Int32) : PM l G pX0 yX10_isLetter cX10_isLetter 1 (some .boolean) ({ frames := 2, cells := 0, slots := 0, locals := 60 }) [.int x] [] (fun (v : Option Value) (u : Nat) => v = some (.int (nI u)) ∧ u ≤ 1) (fun u => []) := by
  intro sz
  refine Met.ofW (cc := cX10_isLetter) (maxL := 1) (ret := (some .boolean)) (by decide) rfl ?_
  intro p e s m args below meth c s₁ B hml hv
  obtain ⟨rfl, hsz, hP, hD0, hE, hX⟩ := hv
  have hx := B.exec
  have hb := B.bytes
  have hr := B.returns
  have hts := atoms_spec (ws := Cond.code yX10_isLetter cX10_isLetter 1 (some .boolean) :: pw) B.pre
  have hq : ∀ w ∈ pw, w.before _ s = true := fun w h => hts w (List.mem_cons_of_mem _ h)
  have hown : s.vm.findClass RX10 = some m.cls := findClass_of_methodNamed B.named
  have hlocks := B.notSynchronized
  subst hsz
  have hD := hD0.self (sz := s.heap.size)
  have hA : ∀ q : Nat, s.heap.size ≤ q → va_A [] s.heap.size q := fun q h => Or.inr h
  have hP : va_P G.1 pCl [] s.heap := hP
  generalize va_A [] s.heap.size = A at hD hE hA ⊢
  have hS : va_S A s.heap s.heap [] := va_S.rf
  have hl := lv_entry ([.int x]) (n := 1) (Nat.le_of_ble_eq_true rfl)
  rw [lg_entry_eq]
  generalize (lg_sl ([.int x]) ++ List.replicate (1 - (lg_sl ([.int x])).length) Slot.unset).toArray = ls at hl ⊢
  have hl : lv_has ls 1 [(0, .int x)] := hl
  refine lv_iload_n hx hb dX10_isLetter_0 rfl (lv_at hl 0 rfl) ?_
  refine lv_bipush (v := 65) hx hb dX10_isLetter_1 (by decide) ?_
  refine lv_icmp_lt (tgt := 12) hx hb dX10_isLetter_3 (by decide) (fun c1 => ?_) (fun c1 => ?_)
  · refine lv_iload_n hx hb dX10_isLetter_12 rfl (lv_at hl 0 rfl) ?_
    refine lv_bipush (v := 97) hx hb dX10_isLetter_13 (by decide) ?_
    refine lv_icmp_lt (tgt := 28) hx hb dX10_isLetter_15 (by decide) (fun c2 => ?_) (fun c2 => ?_)
    · refine lv_iconst (v := 0) hx hb dX10_isLetter_28 (by decide) ?_
      refine W.widen (k := 0) (n := 0) (Nat.le_of_ble_eq_true rfl) (Nat.le_of_ble_eq_true rfl) ?_
      exact W.zret (v := 0) hx hb hr rfl (fun t ht hW => ⟨⟨_, 0, rfl, ⟨rfl, by decide⟩, by rw [ht]; exact hP.sub [] rfl, hD.sub [] (by decide) rfl⟩, hS.F ht⟩) hS.2.2 dX10_isLetter_29
    · refine lv_iload_n hx hb dX10_isLetter_18 rfl (lv_at hl 0 rfl) ?_
      refine lv_bipush (v := 122) hx hb dX10_isLetter_19 (by decide) ?_
      refine lv_icmp_gt (tgt := 28) hx hb dX10_isLetter_21 (by decide) (fun c3 => ?_) (fun c3 => ?_)
      · refine lv_iconst (v := 0) hx hb dX10_isLetter_28 (by decide) ?_
        refine W.widen (k := 0) (n := 0) (Nat.le_of_ble_eq_true rfl) (Nat.le_of_ble_eq_true rfl) ?_
        exact W.zret (v := 0) hx hb hr rfl (fun t ht hW => ⟨⟨_, 0, rfl, ⟨rfl, by decide⟩, by rw [ht]; exact hP.sub [] rfl, hD.sub [] (by decide) rfl⟩, hS.F ht⟩) hS.2.2 dX10_isLetter_29
      · refine lv_iconst (v := 1) hx hb dX10_isLetter_24 (by decide) ?_
        refine lv_goto (tgt := 29) hx hb dX10_isLetter_25 (by decide) ?_
        refine W.widen (k := 0) (n := 0) (Nat.le_of_ble_eq_true rfl) (Nat.le_of_ble_eq_true rfl) ?_
        exact W.zret (v := 1) hx hb hr rfl (fun t ht hW => ⟨⟨_, 1, rfl, ⟨rfl, by decide⟩, by rw [ht]; exact hP.sub [] rfl, hD.sub [] (by decide) rfl⟩, hS.F ht⟩) hS.2.2 dX10_isLetter_29
  · refine lv_iload_n hx hb dX10_isLetter_6 rfl (lv_at hl 0 rfl) ?_
    refine lv_bipush (v := 90) hx hb dX10_isLetter_7 (by decide) ?_
    refine lv_icmp_le (tgt := 24) hx hb dX10_isLetter_9 (by decide) (fun c4 => ?_) (fun c4 => ?_)
    · refine lv_iconst (v := 1) hx hb dX10_isLetter_24 (by decide) ?_
      refine lv_goto (tgt := 29) hx hb dX10_isLetter_25 (by decide) ?_
      refine W.widen (k := 0) (n := 0) (Nat.le_of_ble_eq_true rfl) (Nat.le_of_ble_eq_true rfl) ?_
      exact W.zret (v := 1) hx hb hr rfl (fun t ht hW => ⟨⟨_, 1, rfl, ⟨rfl, by decide⟩, by rw [ht]; exact hP.sub [] rfl, hD.sub [] (by decide) rfl⟩, hS.F ht⟩) hS.2.2 dX10_isLetter_29
    · refine lv_iload_n hx hb dX10_isLetter_12 rfl (lv_at hl 0 rfl) ?_
      refine lv_bipush (v := 97) hx hb dX10_isLetter_13 (by decide) ?_
      refine lv_icmp_lt (tgt := 28) hx hb dX10_isLetter_15 (by decide) (fun c5 => ?_) (fun c5 => ?_)
      · refine lv_iconst (v := 0) hx hb dX10_isLetter_28 (by decide) ?_
        refine W.widen (k := 0) (n := 0) (Nat.le_of_ble_eq_true rfl) (Nat.le_of_ble_eq_true rfl) ?_
        exact W.zret (v := 0) hx hb hr rfl (fun t ht hW => ⟨⟨_, 0, rfl, ⟨rfl, by decide⟩, by rw [ht]; exact hP.sub [] rfl, hD.sub [] (by decide) rfl⟩, hS.F ht⟩) hS.2.2 dX10_isLetter_29
      · refine lv_iload_n hx hb dX10_isLetter_18 rfl (lv_at hl 0 rfl) ?_
        refine lv_bipush (v := 122) hx hb dX10_isLetter_19 (by decide) ?_
        refine lv_icmp_gt (tgt := 28) hx hb dX10_isLetter_21 (by decide) (fun c6 => ?_) (fun c6 => ?_)
        · refine lv_iconst (v := 0) hx hb dX10_isLetter_28 (by decide) ?_
          refine W.widen (k := 0) (n := 0) (Nat.le_of_ble_eq_true rfl) (Nat.le_of_ble_eq_true rfl) ?_
          exact W.zret (v := 0) hx hb hr rfl (fun t ht hW => ⟨⟨_, 0, rfl, ⟨rfl, by decide⟩, by rw [ht]; exact hP.sub [] rfl, hD.sub [] (by decide) rfl⟩, hS.F ht⟩) hS.2.2 dX10_isLetter_29
        · refine lv_iconst (v := 1) hx hb dX10_isLetter_24 (by decide) ?_
          refine lv_goto (tgt := 29) hx hb dX10_isLetter_25 (by decide) ?_
          refine W.widen (k := 0) (n := 0) (Nat.le_of_ble_eq_true rfl) (Nat.le_of_ble_eq_true rfl) ?_
          exact W.zret (v := 1) hx hb hr rfl (fun t ht hW => ⟨⟨_, 1, rfl, ⟨rfl, by decide⟩, by rw [ht]; exact hP.sub [] rfl, hD.sub [] (by decide) rfl⟩, hS.F ht⟩) hS.2.2 dX10_isLetter_29
theorem dX10_pastBlanks_0 : decode cX10_pastBlanks 0 = .ok (.iconst 0, 1) := by decide +kernel
theorem dX10_pastBlanks_1 : decode cX10_pastBlanks 1 = .ok (.istore_n 2, 1) := by decide +kernel
theorem dX10_pastBlanks_2 : decode cX10_pastBlanks 2 = .ok (.iload_n 1, 1) := by decide +kernel
theorem dX10_pastBlanks_3 : decode cX10_pastBlanks 3 = .ok (.istore_n 3, 1) := by decide +kernel
theorem dX10_pastBlanks_4 : decode cX10_pastBlanks 4 = .ok (.iload_n 3, 1) := by decide +kernel
theorem dX10_pastBlanks_5 : decode cX10_pastBlanks 5 = .ok (.aload_n 0, 1) := by decide +kernel
theorem dX10_pastBlanks_6 : decode cX10_pastBlanks 6 = .ok (.getfield 76, 3) := by decide +kernel
theorem dX10_pastBlanks_9 : decode cX10_pastBlanks 9 = .ok (.if_icmp .ge 90, 3) := by decide +kernel
theorem dX10_pastBlanks_99 : decode cX10_pastBlanks 99 = .ok (.aload_n 0, 1) := by decide +kernel
theorem dX10_pastBlanks_100 : decode cX10_pastBlanks 100 = .ok (.getfield 76, 3) := by decide +kernel
theorem dX10_pastBlanks_103 : decode cX10_pastBlanks 103 = .ok (.ireturn, 1) := by decide +kernel
theorem dX10_pastBlanks_12 : decode cX10_pastBlanks 12 = .ok (.aload_n 0, 1) := by decide +kernel
theorem dX10_pastBlanks_13 : decode cX10_pastBlanks 13 = .ok (.iload_n 3, 1) := by decide +kernel
theorem dX10_pastBlanks_14 : decode cX10_pastBlanks 14 = .ok (.invokevirtual 112, 3) := by decide +kernel
theorem dX10_pastBlanks_17 : decode cX10_pastBlanks 17 = .ok (.istore 4, 2) := by decide +kernel
theorem dX10_pastBlanks_19 : decode cX10_pastBlanks 19 = .ok (.iload_n 2, 1) := by decide +kernel
theorem dX10_pastBlanks_20 : decode cX10_pastBlanks 20 = .ok (.ifCond .eq 19, 3) := by decide +kernel
theorem dX10_pastBlanks_39 : decode cX10_pastBlanks 39 = .ok (.iload 4, 2) := by decide +kernel
theorem dX10_pastBlanks_41 : decode cX10_pastBlanks 41 = .ok (.bipush 47, 2) := by decide +kernel
theorem dX10_pastBlanks_43 : decode cX10_pastBlanks 43 = .ok (.if_icmp .ne 20, 3) := by decide +kernel
theorem dX10_pastBlanks_63 : decode cX10_pastBlanks 63 = .ok (.iload 4, 2) := by decide +kernel
theorem dX10_pastBlanks_65 : decode cX10_pastBlanks 65 = .ok (.bipush 9, 2) := by decide +kernel
theorem dX10_pastBlanks_67 : decode cX10_pastBlanks 67 = .ok (.if_icmp .eq 26, 3) := by decide +kernel
theorem dX10_pastBlanks_93 : decode cX10_pastBlanks 93 = .ok (.iinc 3 1, 3) := by decide +kernel
theorem dX10_pastBlanks_96 : decode cX10_pastBlanks 96 = .ok (.goto (-92), 3) := by decide +kernel
theorem dX10_pastBlanks_70 : decode cX10_pastBlanks 70 = .ok (.iload 4, 2) := by decide +kernel
theorem dX10_pastBlanks_72 : decode cX10_pastBlanks 72 = .ok (.bipush 10, 2) := by decide +kernel
theorem dX10_pastBlanks_74 : decode cX10_pastBlanks 74 = .ok (.if_icmp .eq 19, 3) := by decide +kernel
theorem dX10_pastBlanks_77 : decode cX10_pastBlanks 77 = .ok (.iload 4, 2) := by decide +kernel
theorem dX10_pastBlanks_79 : decode cX10_pastBlanks 79 = .ok (.bipush 13, 2) := by decide +kernel
theorem dX10_pastBlanks_81 : decode cX10_pastBlanks 81 = .ok (.if_icmp .eq 12, 3) := by decide +kernel
theorem dX10_pastBlanks_84 : decode cX10_pastBlanks 84 = .ok (.iload 4, 2) := by decide +kernel
theorem dX10_pastBlanks_86 : decode cX10_pastBlanks 86 = .ok (.bipush 32, 2) := by decide +kernel
theorem dX10_pastBlanks_88 : decode cX10_pastBlanks 88 = .ok (.if_icmp .eq 5, 3) := by decide +kernel
theorem dX10_pastBlanks_91 : decode cX10_pastBlanks 91 = .ok (.iload_n 3, 1) := by decide +kernel
theorem dX10_pastBlanks_92 : decode cX10_pastBlanks 92 = .ok (.ireturn, 1) := by decide +kernel
theorem dX10_pastBlanks_46 : decode cX10_pastBlanks 46 = .ok (.aload_n 0, 1) := by decide +kernel
theorem dX10_pastBlanks_47 : decode cX10_pastBlanks 47 = .ok (.iload_n 3, 1) := by decide +kernel
theorem dX10_pastBlanks_48 : decode cX10_pastBlanks 48 = .ok (.iconst 1, 1) := by decide +kernel
theorem dX10_pastBlanks_49 : decode cX10_pastBlanks 49 = .ok (.iadd, 1) := by decide +kernel
theorem dX10_pastBlanks_50 : decode cX10_pastBlanks 50 = .ok (.invokevirtual 112, 3) := by decide +kernel
theorem dX10_pastBlanks_53 : decode cX10_pastBlanks 53 = .ok (.bipush 47, 2) := by decide +kernel
theorem dX10_pastBlanks_55 : decode cX10_pastBlanks 55 = .ok (.if_icmp .ne 8, 3) := by decide +kernel
theorem dX10_pastBlanks_58 : decode cX10_pastBlanks 58 = .ok (.iconst 1, 1) := by decide +kernel
theorem dX10_pastBlanks_59 : decode cX10_pastBlanks 59 = .ok (.istore_n 2, 1) := by decide +kernel
theorem dX10_pastBlanks_60 : decode cX10_pastBlanks 60 = .ok (.goto 33, 3) := by decide +kernel
theorem dX10_pastBlanks_23 : decode cX10_pastBlanks 23 = .ok (.iload 4, 2) := by decide +kernel
theorem dX10_pastBlanks_25 : decode cX10_pastBlanks 25 = .ok (.bipush 10, 2) := by decide +kernel
theorem dX10_pastBlanks_27 : decode cX10_pastBlanks 27 = .ok (.if_icmp .eq 7, 3) := by decide +kernel
theorem dX10_pastBlanks_34 : decode cX10_pastBlanks 34 = .ok (.iconst 0, 1) := by decide +kernel
theorem dX10_pastBlanks_35 : decode cX10_pastBlanks 35 = .ok (.istore_n 2, 1) := by decide +kernel
theorem dX10_pastBlanks_36 : decode cX10_pastBlanks 36 = .ok (.goto 57, 3) := by decide +kernel
theorem dX10_pastBlanks_30 : decode cX10_pastBlanks 30 = .ok (.iconst 1, 1) := by decide +kernel
theorem dX10_pastBlanks_31 : decode cX10_pastBlanks 31 = .ok (.goto 4, 3) := by decide +kernel
theorem hV_X10_byteAt : yX10_byteAt.cls = RX10 ∧ yX10_byteAt.cls ≠ "java/lang/invoke/MethodHandle" ∧ yX10_byteAt.cls ≠ "java/lang/invoke/VarHandle" ∧ (parseMethodDescriptor yX10_byteAt.desc).map (fun d => d.parameters.length) = some 1 := by decide +kernel
set_option maxHeartbeats 2000000 in
set_option maxRecDepth 100000 in
theorem K_pastBlanks (l : Launch) (G : pT) (h0 : Nat) (a : Nat → Nat) (F : Nat → Int32) (R : Nat → Value) (Z : Int64) (B : Nat → Nat → Int32) (J : Nat → Nat → Int64) (T : Nat → Nat) (Pi : Nat → va_E → Prop) (w : va_W) (st : Nat) (ln : Nat) (hln : ln ≤ 5000) (hst : st < 2147483648) (hO : OKW G h0 a (upd F 1 (nI ln)) R Z B J T Pi w) : PM l G pX0 yX10_pastBlanks cX10_pastBlanks 5 (some .int) ({ frames := 3, cells := 0, slots := 0, locals := 81 }) [.ref (a 1), .int (nI st)] w (fun (v : Option Value) (u : va_W × (Nat)) => v = some (.int (nI u.2)) ∧ (u.2 ≤ ln) ∧ (u.2 = ln ∨ st ≤ u.2) ∧ (OKW G h0 a (upd F 1 (nI ln)) R Z B J T Pi u.1)) (fun u => u.1) := by
  intro sz
  refine Met.ofW (cc := cX10_pastBlanks) (maxL := 5) (ret := (some .int)) (by decide) rfl ?_
  intro p e s m args below meth c s₁ B9 hml hv
  obtain ⟨rfl, hsz, hP, hD0, hE, hX⟩ := hv
  have hx := B9.exec
  have hb := B9.bytes
  have hr := B9.returns
  have hts := atoms_spec (ws := Cond.code yX10_pastBlanks cX10_pastBlanks 5 (some .int) :: pw) B9.pre
  have hq : ∀ w ∈ pw, w.before _ s = true := fun w h => hts w (List.mem_cons_of_mem _ h)
  have hown : s.vm.findClass RX10 = some m.cls := findClass_of_methodNamed B9.named
  have hlocks := B9.notSynchronized
  subst hsz
  have hD := hD0.self (sz := s.heap.size)
  have hA : ∀ q : Nat, s.heap.size ≤ q → va_A w s.heap.size q := fun q h => Or.inr h
  generalize va_A w s.heap.size = A at hD hE hA ⊢
  have hS : va_S A s.heap s.heap [] := va_S.rf
  have hl := lv_entry ([.ref (a 1), .int (nI st)]) (n := 5) (Nat.le_of_ble_eq_true rfl)
  rw [lg_entry_eq]
  generalize (lg_sl ([.ref (a 1), .int (nI st)]) ++ List.replicate (5 - (lg_sl ([.ref (a 1), .int (nI st)])).length) Slot.unset).toArray = ls at hl ⊢
  have hl : lv_has ls 5 [(0, .ref (a 1)), (1, .int (nI st))] := hl
  refine lv_iconst (v := 0) hx hb dX10_pastBlanks_0 (by decide) ?_
  refine lv_istore_n (lv' := [(2, .int 0), (0, .ref (a 1)), (1, .int (nI st))]) hx hb dX10_pastBlanks_1 rfl hl (by decide) rfl (fun ls hl => ?_)
  refine lv_iload_n hx hb dX10_pastBlanks_2 rfl (lv_at hl 2 rfl) ?_
  refine lv_istore_n (lv' := [(3, .int (nI st)), (2, .int 0), (0, .ref (a 1)), (1, .int (nI st))]) hx hb dX10_pastBlanks_3 rfl hl (by decide) rfl (fun ls hl => ?_)
  have loop_i : ∀ (n_i : Nat) (i2 : Nat) (no2 : Int32) (H : Heap) (locs : List Loc) (ls : Array Slot) (w : va_W), i2 ≤ (ln + st) → (ln + st) + 1 ≤ i2 + n_i → (st ≤ i2) → (i2 < 2147483648) → va_P G.1 pCl w H → va_D A w → va_S A s.heap H locs → OKW G h0 a (upd F 1 (nI ln)) R Z B J T Pi w → lv_has ls 5 [(3, .int (nI i2)), (2, .int no2), (1, .int (nI st)), (0, .ref (a 1))] → W p l e (headSpec (Cond.code yX10_pastBlanks cX10_pastBlanks 5 (some .int) :: pw) ({ frames := 3, cells := 0, slots := 0, locals := 81 } : Room)).room s m ([.ref (a 1), .int (nI st)] : List Value).toArray below meth c H locs 0 0 (MQ below (pQ G A (fun (v : Option Value) (u : va_W × (Nat)) => v = some (.int (nI u.2)) ∧ (u.2 ≤ ln) ∧ (u.2 = ln ∨ st ≤ u.2) ∧ (OKW G h0 a (upd F 1 (nI ln)) R Z B J T Pi u.1)) (fun u => u.1)) ([.ref (a 1), .int (nI st)] : List Value).toArray s ({ frames := 3, cells := 0, slots := 0, locals := 81 } : Room).cells ({ frames := 3, cells := 0, slots := 0, locals := 81 } : Room).slots A) (F0 m 4 ls []) := by
    intro n_i
    induction n_i with
    | zero => intro i2 no2 H locs ls w hk_i hn_i; omega
    | succ n_i ih_i =>
      intro i2 no2 H locs ls w hk_i hn_i his hi3 hP hD hS hO hl
      refine lv_iload_n hx hb dX10_pastBlanks_4 rfl (lv_at hl 0 rfl) ?_
      refine lv_aload_n hx hb dX10_pastBlanks_5 rfl (lv_at hl 3 rfl) ?_
      refine c_get (v := .int (nI ln)) (C := RX10) (Tc := TX10) (N := 15) (ci := 7) hx hb hq pin_wsX100 hown hE hP hO 2 (sg_2 G h0 a _ _ _ _ _) rfl 2 (by decide) (hq _ pw_47) (fun _ h9 => h9) rfl dX10_pastBlanks_6 ?_
      refine lv_icmp_ge (tgt := 99) hx hb dX10_pastBlanks_9 (by decide) (fun c1 => ?_) (fun c1 => ?_)
      · have n2 : ln ≤ i2 := (nI_leI (a := ln) (b := i2) (by omega) (by omega)).mp c1
        refine lv_aload_n hx hb dX10_pastBlanks_99 rfl (lv_at hl 3 rfl) ?_
        refine c_get (v := .int (nI ln)) (C := RX10) (Tc := TX10) (N := 15) (ci := 7) hx hb hq pin_wsX100 hown hE hP hO 2 (sg_2 G h0 a _ _ _ _ _) rfl 2 (by decide) (hq _ pw_47) (fun _ h9 => h9) rfl dX10_pastBlanks_100 ?_
        have hz3 : ln ≤ ln := (by omega)
        have hz4 : ln = ln ∨ st ≤ ln := (by omega)
        have hO : OKW G h0 a (upd F 1 (nI ln)) R Z B J T Pi w := hO.to rfl
        exact W.iret (v := (nI ln)) hx hb hr (fun t99 ht99 hW99 => ⟨⟨_, (w, ln), rfl, ⟨rfl, hz3, hz4, hO⟩, by rw [ht99]; exact hP, hD⟩, hS.F ht99⟩) hS.2.2 dX10_pastBlanks_103
      · have n5 : ¬ (ln ≤ i2) := fun h9 => c1 ((nI_leI (a := ln) (b := i2) (by omega) (by omega)).mpr h9)
        refine lv_aload_n hx hb dX10_pastBlanks_12 rfl (lv_at hl 3 rfl) ?_
        refine lv_iload_n hx hb dX10_pastBlanks_13 rfl (lv_at hl 0 rfl) ?_
        have hO : OKW G h0 a (upd (upd F 1 (nI ln)) 1 (nI ln)) R Z B J T Pi w := hO.to rfl
        obtain ⟨_, qr9, hqr10⟩ := hO.2.1 2 _ (sg_2 G h0 a _ _ _ _ _)
        refine pc_V0 (G := G) (As := [.int (nI i2)]) (rest := []) hx hb hml hown hq hE hX pX0_al hP hD hS hA hl.1 (K_byteAt l G h0 a (upd F 1 (nI ln)) R Z B J T Pi w (nI i2) ln (by omega) hO) (gV pw_1266 pw_1267 pw_1268 pw_59 pw_1264) hV_X10_byteAt qr9 7 hqr10 rfl rfl rfl (Nat.le_of_ble_eq_true rfl) dX10_pastBlanks_14 ⟨Nat.le_of_ble_eq_true rfl, Nat.le_of_ble_eq_true rfl⟩ ⟨Nat.le_of_ble_eq_true rfl, Nat.le_of_ble_eq_true rfl⟩ (fun v8 u6 H locs hw7 hP hD hS => ?_)
        obtain ⟨w, r11⟩ := u6
        obtain ⟨hw7, hO⟩ := hw7
        obtain rfl : v8 = some (.int r11) := hw7
        have hO : OKW G h0 a (upd F 1 (nI ln)) R Z B J T Pi w := hO.to rfl
        refine W.widen (k := 0) (n := 0) (Nat.le_of_ble_eq_true rfl) (Nat.le_of_ble_eq_true rfl) ?_
        refine W.eq (g2 := F0 m 17 ls [.int r11]) rfl ?_
        refine lv_istore (lv' := [(4, .int r11), (3, .int (nI i2)), (2, .int no2), (1, .int (nI st)), (0, .ref (a 1))]) hx hb dX10_pastBlanks_17 hl (by decide) rfl (fun ls hl => ?_)
        refine lv_iload_n hx hb dX10_pastBlanks_19 rfl (lv_at hl 2 rfl) ?_
        refine lv_if_eq (tgt := 39) hx hb dX10_pastBlanks_20 (by decide) (fun c12 => ?_) (fun c12 => ?_)
        · refine lv_iload hx hb dX10_pastBlanks_39 (lv_at hl 0 rfl) ?_
          refine lv_bipush (v := 47) hx hb dX10_pastBlanks_41 (by decide) ?_
          refine lv_icmp_ne (tgt := 63) hx hb dX10_pastBlanks_43 (by decide) (fun c13 => ?_) (fun c13 => ?_)
          · refine lv_iload hx hb dX10_pastBlanks_63 (lv_at hl 0 rfl) ?_
            refine lv_bipush (v := 9) hx hb dX10_pastBlanks_65 (by decide) ?_
            refine lv_icmp_eq (tgt := 93) hx hb dX10_pastBlanks_67 (by decide) (fun c14 => ?_) (fun c14 => ?_)
            · refine lv_iinc (v := (nI (i2 + 1))) (lv' := [(3, .int (nI (i2 + 1))), (4, .int r11), (2, .int no2), (1, .int (nI st)), (0, .ref (a 1))]) hx hb dX10_pastBlanks_93 hl (k := 1) rfl (nI_1 i2) (by decide) rfl (fun ls hl => ?_)
              refine lv_goto (tgt := 4) hx hb dX10_pastBlanks_96 (by decide) ?_
              have hO : OKW G h0 a (upd F 1 (nI ln)) R Z B J T Pi w := hO.to rfl
              exact ih_i (i2 + 1) no2 _ _ _ _ (by omega) (by omega) (by omega) (by omega) hP hD hS hO (lv_sub hl [0, 2, 3, 4] rfl)
            · refine lv_iload hx hb dX10_pastBlanks_70 (lv_at hl 0 rfl) ?_
              refine lv_bipush (v := 10) hx hb dX10_pastBlanks_72 (by decide) ?_
              refine lv_icmp_eq (tgt := 93) hx hb dX10_pastBlanks_74 (by decide) (fun c15 => ?_) (fun c15 => ?_)
              · refine lv_iinc (v := (nI (i2 + 1))) (lv' := [(3, .int (nI (i2 + 1))), (4, .int r11), (2, .int no2), (1, .int (nI st)), (0, .ref (a 1))]) hx hb dX10_pastBlanks_93 hl (k := 1) rfl (nI_1 i2) (by decide) rfl (fun ls hl => ?_)
                refine lv_goto (tgt := 4) hx hb dX10_pastBlanks_96 (by decide) ?_
                have hO : OKW G h0 a (upd F 1 (nI ln)) R Z B J T Pi w := hO.to rfl
                exact ih_i (i2 + 1) no2 _ _ _ _ (by omega) (by omega) (by omega) (by omega) hP hD hS hO (lv_sub hl [0, 2, 3, 4] rfl)
              · refine lv_iload hx hb dX10_pastBlanks_77 (lv_at hl 0 rfl) ?_
                refine lv_bipush (v := 13) hx hb dX10_pastBlanks_79 (by decide) ?_
                refine lv_icmp_eq (tgt := 93) hx hb dX10_pastBlanks_81 (by decide) (fun c16 => ?_) (fun c16 => ?_)
                · refine lv_iinc (v := (nI (i2 + 1))) (lv' := [(3, .int (nI (i2 + 1))), (4, .int r11), (2, .int no2), (1, .int (nI st)), (0, .ref (a 1))]) hx hb dX10_pastBlanks_93 hl (k := 1) rfl (nI_1 i2) (by decide) rfl (fun ls hl => ?_)
                  refine lv_goto (tgt := 4) hx hb dX10_pastBlanks_96 (by decide) ?_
                  have hO : OKW G h0 a (upd F 1 (nI ln)) R Z B J T Pi w := hO.to rfl
                  exact ih_i (i2 + 1) no2 _ _ _ _ (by omega) (by omega) (by omega) (by omega) hP hD hS hO (lv_sub hl [0, 2, 3, 4] rfl)
                · refine lv_iload hx hb dX10_pastBlanks_84 (lv_at hl 0 rfl) ?_
                  refine lv_bipush (v := 32) hx hb dX10_pastBlanks_86 (by decide) ?_
                  refine lv_icmp_eq (tgt := 93) hx hb dX10_pastBlanks_88 (by decide) (fun c17 => ?_) (fun c17 => ?_)
                  · refine lv_iinc (v := (nI (i2 + 1))) (lv' := [(3, .int (nI (i2 + 1))), (4, .int r11), (2, .int no2), (1, .int (nI st)), (0, .ref (a 1))]) hx hb dX10_pastBlanks_93 hl (k := 1) rfl (nI_1 i2) (by decide) rfl (fun ls hl => ?_)
                    refine lv_goto (tgt := 4) hx hb dX10_pastBlanks_96 (by decide) ?_
                    have hO : OKW G h0 a (upd F 1 (nI ln)) R Z B J T Pi w := hO.to rfl
                    exact ih_i (i2 + 1) no2 _ _ _ _ (by omega) (by omega) (by omega) (by omega) hP hD hS hO (lv_sub hl [0, 2, 3, 4] rfl)
                  · refine lv_iload_n hx hb dX10_pastBlanks_91 rfl (lv_at hl 1 rfl) ?_
                    have hz18 : i2 ≤ ln := (by omega)
                    have hz19 : i2 = ln ∨ st ≤ i2 := (by omega)
                    have hO : OKW G h0 a (upd F 1 (nI ln)) R Z B J T Pi w := hO.to rfl
                    exact W.iret (v := (nI i2)) hx hb hr (fun t99 ht99 hW99 => ⟨⟨_, (w, i2), rfl, ⟨rfl, hz18, hz19, hO⟩, by rw [ht99]; exact hP, hD⟩, hS.F ht99⟩) hS.2.2 dX10_pastBlanks_92
          · refine lv_aload_n hx hb dX10_pastBlanks_46 rfl (lv_at hl 4 rfl) ?_
            refine lv_iload_n hx hb dX10_pastBlanks_47 rfl (lv_at hl 1 rfl) ?_
            refine lv_iconst (v := 1) hx hb dX10_pastBlanks_48 (by decide) ?_
            refine lv_iadd hx hb dX10_pastBlanks_49 ?_
            refine lv_topi (fun x20 e21 => ?_)
            obtain rfl : x20 = nI (i2 + 1) := e21.trans (nI_add (i2) (1))
            have hO : OKW G h0 a (upd (upd F 1 (nI ln)) 1 (nI ln)) R Z B J T Pi w := hO.to rfl
            obtain ⟨_, qr25, hqr26⟩ := hO.2.1 2 _ (sg_2 G h0 a _ _ _ _ _)
            refine pc_V0 (G := G) (As := [.int (nI (i2 + 1))]) (rest := []) hx hb hml hown hq hE hX pX0_al hP hD hS hA hl.1 (K_byteAt l G h0 a (upd F 1 (nI ln)) R Z B J T Pi w (nI (i2 + 1)) ln (by omega) hO) (gV pw_1266 pw_1267 pw_1268 pw_59 pw_1264) hV_X10_byteAt qr25 7 hqr26 rfl rfl rfl (Nat.le_of_ble_eq_true rfl) dX10_pastBlanks_50 ⟨Nat.le_of_ble_eq_true rfl, Nat.le_of_ble_eq_true rfl⟩ ⟨Nat.le_of_ble_eq_true rfl, Nat.le_of_ble_eq_true rfl⟩ (fun v24 u22 H locs hw23 hP hD hS => ?_)
            obtain ⟨w, r27⟩ := u22
            obtain ⟨hw23, hO⟩ := hw23
            obtain rfl : v24 = some (.int r27) := hw23
            have hO : OKW G h0 a (upd F 1 (nI ln)) R Z B J T Pi w := hO.to rfl
            refine W.widen (k := 0) (n := 0) (Nat.le_of_ble_eq_true rfl) (Nat.le_of_ble_eq_true rfl) ?_
            refine W.eq (g2 := F0 m 53 ls [.int r27]) rfl ?_
            refine lv_bipush (v := 47) hx hb dX10_pastBlanks_53 (by decide) ?_
            refine lv_icmp_ne (tgt := 63) hx hb dX10_pastBlanks_55 (by decide) (fun c28 => ?_) (fun c28 => ?_)
            · refine lv_iload hx hb dX10_pastBlanks_63 (lv_at hl 0 rfl) ?_
              refine lv_bipush (v := 9) hx hb dX10_pastBlanks_65 (by decide) ?_
              refine lv_icmp_eq (tgt := 93) hx hb dX10_pastBlanks_67 (by decide) (fun c29 => ?_) (fun c29 => ?_)
              · refine lv_iinc (v := (nI (i2 + 1))) (lv' := [(3, .int (nI (i2 + 1))), (4, .int r11), (2, .int no2), (1, .int (nI st)), (0, .ref (a 1))]) hx hb dX10_pastBlanks_93 hl (k := 1) rfl (nI_1 i2) (by decide) rfl (fun ls hl => ?_)
                refine lv_goto (tgt := 4) hx hb dX10_pastBlanks_96 (by decide) ?_
                have hO : OKW G h0 a (upd F 1 (nI ln)) R Z B J T Pi w := hO.to rfl
                exact ih_i (i2 + 1) no2 _ _ _ _ (by omega) (by omega) (by omega) (by omega) hP hD hS hO (lv_sub hl [0, 2, 3, 4] rfl)
              · refine lv_iload hx hb dX10_pastBlanks_70 (lv_at hl 0 rfl) ?_
                refine lv_bipush (v := 10) hx hb dX10_pastBlanks_72 (by decide) ?_
                refine lv_icmp_eq (tgt := 93) hx hb dX10_pastBlanks_74 (by decide) (fun c30 => ?_) (fun c30 => ?_)
                · refine lv_iinc (v := (nI (i2 + 1))) (lv' := [(3, .int (nI (i2 + 1))), (4, .int r11), (2, .int no2), (1, .int (nI st)), (0, .ref (a 1))]) hx hb dX10_pastBlanks_93 hl (k := 1) rfl (nI_1 i2) (by decide) rfl (fun ls hl => ?_)
                  refine lv_goto (tgt := 4) hx hb dX10_pastBlanks_96 (by decide) ?_
                  have hO : OKW G h0 a (upd F 1 (nI ln)) R Z B J T Pi w := hO.to rfl
                  exact ih_i (i2 + 1) no2 _ _ _ _ (by omega) (by omega) (by omega) (by omega) hP hD hS hO (lv_sub hl [0, 2, 3, 4] rfl)
                · refine lv_iload hx hb dX10_pastBlanks_77 (lv_at hl 0 rfl) ?_
                  refine lv_bipush (v := 13) hx hb dX10_pastBlanks_79 (by decide) ?_
                  refine lv_icmp_eq (tgt := 93) hx hb dX10_pastBlanks_81 (by decide) (fun c31 => ?_) (fun c31 => ?_)
                  · refine lv_iinc (v := (nI (i2 + 1))) (lv' := [(3, .int (nI (i2 + 1))), (4, .int r11), (2, .int no2), (1, .int (nI st)), (0, .ref (a 1))]) hx hb dX10_pastBlanks_93 hl (k := 1) rfl (nI_1 i2) (by decide) rfl (fun ls hl => ?_)
                    refine lv_goto (tgt := 4) hx hb dX10_pastBlanks_96 (by decide) ?_
                    have hO : OKW G h0 a (upd F 1 (nI ln)) R Z B J T Pi w := hO.to rfl
                    exact ih_i (i2 + 1) no2 _ _ _ _ (by omega) (by omega) (by omega) (by omega) hP hD hS hO (lv_sub hl [0, 2, 3, 4] rfl)
                  · refine lv_iload hx hb dX10_pastBlanks_84 (lv_at hl 0 rfl) ?_
                    refine lv_bipush (v := 32) hx hb dX10_pastBlanks_86 (by decide) ?_
                    refine lv_icmp_eq (tgt := 93) hx hb dX10_pastBlanks_88 (by decide) (fun c32 => ?_) (fun c32 => ?_)
                    · refine lv_iinc (v := (nI (i2 + 1))) (lv' := [(3, .int (nI (i2 + 1))), (4, .int r11), (2, .int no2), (1, .int (nI st)), (0, .ref (a 1))]) hx hb dX10_pastBlanks_93 hl (k := 1) rfl (nI_1 i2) (by decide) rfl (fun ls hl => ?_)
                      refine lv_goto (tgt := 4) hx hb dX10_pastBlanks_96 (by decide) ?_
                      have hO : OKW G h0 a (upd F 1 (nI ln)) R Z B J T Pi w := hO.to rfl
                      exact ih_i (i2 + 1) no2 _ _ _ _ (by omega) (by omega) (by omega) (by omega) hP hD hS hO (lv_sub hl [0, 2, 3, 4] rfl)
                    · refine lv_iload_n hx hb dX10_pastBlanks_91 rfl (lv_at hl 1 rfl) ?_
                      have hz33 : i2 ≤ ln := (by omega)
                      have hz34 : i2 = ln ∨ st ≤ i2 := (by omega)
                      have hO : OKW G h0 a (upd F 1 (nI ln)) R Z B J T Pi w := hO.to rfl
                      exact W.iret (v := (nI i2)) hx hb hr (fun t99 ht99 hW99 => ⟨⟨_, (w, i2), rfl, ⟨rfl, hz33, hz34, hO⟩, by rw [ht99]; exact hP, hD⟩, hS.F ht99⟩) hS.2.2 dX10_pastBlanks_92
            · refine lv_iconst (v := 1) hx hb dX10_pastBlanks_58 (by decide) ?_
              refine lv_istore_n (lv' := [(2, .int 1), (4, .int r11), (3, .int (nI i2)), (1, .int (nI st)), (0, .ref (a 1))]) hx hb dX10_pastBlanks_59 rfl hl (by decide) rfl (fun ls hl => ?_)
              refine lv_goto (tgt := 93) hx hb dX10_pastBlanks_60 (by decide) ?_
              refine lv_iinc (v := (nI (i2 + 1))) (lv' := [(3, .int (nI (i2 + 1))), (2, .int 1), (4, .int r11), (1, .int (nI st)), (0, .ref (a 1))]) hx hb dX10_pastBlanks_93 hl (k := 2) rfl (nI_1 i2) (by decide) rfl (fun ls hl => ?_)
              refine lv_goto (tgt := 4) hx hb dX10_pastBlanks_96 (by decide) ?_
              have hO : OKW G h0 a (upd F 1 (nI ln)) R Z B J T Pi w := hO.to rfl
              exact ih_i (i2 + 1) 1 _ _ _ _ (by omega) (by omega) (by omega) (by omega) hP hD hS hO (lv_sub hl [0, 1, 3, 4] rfl)
        · refine lv_iload hx hb dX10_pastBlanks_23 (lv_at hl 0 rfl) ?_
          refine lv_bipush (v := 10) hx hb dX10_pastBlanks_25 (by decide) ?_
          refine lv_icmp_eq (tgt := 34) hx hb dX10_pastBlanks_27 (by decide) (fun c35 => ?_) (fun c35 => ?_)
          · refine lv_iconst (v := 0) hx hb dX10_pastBlanks_34 (by decide) ?_
            refine lv_istore_n (lv' := [(2, .int 0), (4, .int r11), (3, .int (nI i2)), (1, .int (nI st)), (0, .ref (a 1))]) hx hb dX10_pastBlanks_35 rfl hl (by decide) rfl (fun ls hl => ?_)
            refine lv_goto (tgt := 93) hx hb dX10_pastBlanks_36 (by decide) ?_
            refine lv_iinc (v := (nI (i2 + 1))) (lv' := [(3, .int (nI (i2 + 1))), (2, .int 0), (4, .int r11), (1, .int (nI st)), (0, .ref (a 1))]) hx hb dX10_pastBlanks_93 hl (k := 2) rfl (nI_1 i2) (by decide) rfl (fun ls hl => ?_)
            refine lv_goto (tgt := 4) hx hb dX10_pastBlanks_96 (by decide) ?_
            have hO : OKW G h0 a (upd F 1 (nI ln)) R Z B J T Pi w := hO.to rfl
            exact ih_i (i2 + 1) 0 _ _ _ _ (by omega) (by omega) (by omega) (by omega) hP hD hS hO (lv_sub hl [0, 1, 3, 4] rfl)
          · refine lv_iconst (v := 1) hx hb dX10_pastBlanks_30 (by decide) ?_
            refine lv_goto (tgt := 35) hx hb dX10_pastBlanks_31 (by decide) ?_
            refine lv_istore_n (lv' := [(2, .int 1), (4, .int r11), (3, .int (nI i2)), (1, .int (nI st)), (0, .ref (a 1))]) hx hb dX10_pastBlanks_35 rfl hl (by decide) rfl (fun ls hl => ?_)
            refine lv_goto (tgt := 93) hx hb dX10_pastBlanks_36 (by decide) ?_
            refine lv_iinc (v := (nI (i2 + 1))) (lv' := [(3, .int (nI (i2 + 1))), (2, .int 1), (4, .int r11), (1, .int (nI st)), (0, .ref (a 1))]) hx hb dX10_pastBlanks_93 hl (k := 2) rfl (nI_1 i2) (by decide) rfl (fun ls hl => ?_)
            refine lv_goto (tgt := 4) hx hb dX10_pastBlanks_96 (by decide) ?_
            have hO : OKW G h0 a (upd F 1 (nI ln)) R Z B J T Pi w := hO.to rfl
            exact ih_i (i2 + 1) 1 _ _ _ _ (by omega) (by omega) (by omega) (by omega) hP hD hS hO (lv_sub hl [0, 1, 3, 4] rfl)
  have hO : OKW G h0 a (upd F 1 (nI ln)) R Z B J T Pi w := hO.to rfl
  exact loop_i ((ln + st) + 1) st (0 : Int32) _ _ _ _ (by omega) (by omega) (by omega) (by omega) hP hD hS hO (lv_sub hl [0, 1, 3, 2] rfl)
theorem dX10_addSign_0 : decode cX10_addSign 0 = .ok (.aload_n 0, 1) := by decide +kernel
theorem dX10_addSign_1 : decode cX10_addSign 1 = .ok (.iload_n 1, 1) := by decide +kernel
theorem dX10_addSign_2 : decode cX10_addSign 2 = .ok (.invokevirtual 112, 3) := by decide +kernel
theorem dX10_addSign_5 : decode cX10_addSign 5 = .ok (.istore_n 2, 1) := by decide +kernel
theorem dX10_addSign_6 : decode cX10_addSign 6 = .ok (.aload_n 0, 1) := by decide +kernel
theorem dX10_addSign_7 : decode cX10_addSign 7 = .ok (.iload_n 1, 1) := by decide +kernel
theorem dX10_addSign_8 : decode cX10_addSign 8 = .ok (.iconst 1, 1) := by decide +kernel
theorem dX10_addSign_9 : decode cX10_addSign 9 = .ok (.iadd, 1) := by decide +kernel
theorem dX10_addSign_10 : decode cX10_addSign 10 = .ok (.invokevirtual 112, 3) := by decide +kernel
theorem dX10_addSign_13 : decode cX10_addSign 13 = .ok (.istore_n 3, 1) := by decide +kernel
theorem dX10_addSign_14 : decode cX10_addSign 14 = .ok (.iload_n 2, 1) := by decide +kernel
theorem dX10_addSign_15 : decode cX10_addSign 15 = .ok (.bipush 62, 2) := by decide +kernel
theorem dX10_addSign_17 : decode cX10_addSign 17 = .ok (.if_icmp .ne 33, 3) := by decide +kernel
theorem dX10_addSign_50 : decode cX10_addSign 50 = .ok (.iconst 0, 1) := by decide +kernel
theorem dX10_addSign_51 : decode cX10_addSign 51 = .ok (.istore 4, 2) := by decide +kernel
theorem dX10_addSign_53 : decode cX10_addSign 53 = .ok (.iload 4, 2) := by decide +kernel
theorem dX10_addSign_55 : decode cX10_addSign 55 = .ok (.iconst 1, 1) := by decide +kernel
theorem dX10_addSign_56 : decode cX10_addSign 56 = .ok (.iadd, 1) := by decide +kernel
theorem dX10_addSign_57 : decode cX10_addSign 57 = .ok (.ldc 138, 2) := by decide +kernel
theorem dX10_addSign_59 : decode cX10_addSign 59 = .ok (.invokevirtual 17, 3) := by decide +kernel
theorem dX10_addSign_62 : decode cX10_addSign 62 = .ok (.if_icmp .ge 56, 3) := by decide +kernel
theorem dX10_addSign_118 : decode cX10_addSign 118 = .ok (.iconst 0, 1) := by decide +kernel
theorem dX10_addSign_119 : decode cX10_addSign 119 = .ok (.istore 4, 2) := by decide +kernel
theorem dX10_addSign_121 : decode cX10_addSign 121 = .ok (.iload 4, 2) := by decide +kernel
theorem dX10_addSign_123 : decode cX10_addSign 123 = .ok (.ldc 140, 2) := by decide +kernel
theorem dX10_addSign_125 : decode cX10_addSign 125 = .ok (.invokevirtual 17, 3) := by decide +kernel
theorem dX10_addSign_128 : decode cX10_addSign 128 = .ok (.if_icmp .ge 35, 3) := by decide +kernel
theorem dX10_addSign_163 : decode cX10_addSign 163 = .ok (.aload_n 0, 1) := by decide +kernel
theorem dX10_addSign_164 : decode cX10_addSign 164 = .ok (.bipush 68, 2) := by decide +kernel
theorem dX10_addSign_166 : decode cX10_addSign 166 = .ok (.iload_n 1, 1) := by decide +kernel
theorem dX10_addSign_167 : decode cX10_addSign 167 = .ok (.iconst 0, 1) := by decide +kernel
theorem dX10_addSign_168 : decode cX10_addSign 168 = .ok (.iload_n 1, 1) := by decide +kernel
theorem dX10_addSign_169 : decode cX10_addSign 169 = .ok (.invokevirtual 128, 3) := by decide +kernel
theorem dX10_addSign_172 : decode cX10_addSign 172 = .ok (.ireturn, 1) := by decide +kernel
theorem dX10_addSign_131 : decode cX10_addSign 131 = .ok (.ldc 140, 2) := by decide +kernel
theorem dX10_addSign_133 : decode cX10_addSign 133 = .ok (.iload 4, 2) := by decide +kernel
theorem dX10_addSign_135 : decode cX10_addSign 135 = .ok (.invokevirtual 63, 3) := by decide +kernel
theorem dX10_addSign_138 : decode cX10_addSign 138 = .ok (.iload_n 2, 1) := by decide +kernel
theorem dX10_addSign_139 : decode cX10_addSign 139 = .ok (.if_icmp .ne 18, 3) := by decide +kernel
theorem dX10_addSign_157 : decode cX10_addSign 157 = .ok (.iinc 4 1, 3) := by decide +kernel
theorem dX10_addSign_160 : decode cX10_addSign 160 = .ok (.goto (-39), 3) := by decide +kernel
theorem dX10_addSign_142 : decode cX10_addSign 142 = .ok (.aload_n 0, 1) := by decide +kernel
theorem dX10_addSign_143 : decode cX10_addSign 143 = .ok (.bipush 32, 2) := by decide +kernel
theorem dX10_addSign_145 : decode cX10_addSign 145 = .ok (.iload 4, 2) := by decide +kernel
theorem dX10_addSign_147 : decode cX10_addSign 147 = .ok (.iadd, 1) := by decide +kernel
theorem dX10_addSign_148 : decode cX10_addSign 148 = .ok (.iload_n 1, 1) := by decide +kernel
theorem dX10_addSign_149 : decode cX10_addSign 149 = .ok (.iconst 0, 1) := by decide +kernel
theorem dX10_addSign_150 : decode cX10_addSign 150 = .ok (.iload_n 1, 1) := by decide +kernel
theorem dX10_addSign_151 : decode cX10_addSign 151 = .ok (.iconst 1, 1) := by decide +kernel
theorem dX10_addSign_152 : decode cX10_addSign 152 = .ok (.iadd, 1) := by decide +kernel
theorem dX10_addSign_153 : decode cX10_addSign 153 = .ok (.invokevirtual 128, 3) := by decide +kernel
theorem dX10_addSign_156 : decode cX10_addSign 156 = .ok (.ireturn, 1) := by decide +kernel
theorem dX10_addSign_65 : decode cX10_addSign 65 = .ok (.ldc 138, 2) := by decide +kernel
theorem dX10_addSign_67 : decode cX10_addSign 67 = .ok (.iload 4, 2) := by decide +kernel
theorem dX10_addSign_69 : decode cX10_addSign 69 = .ok (.invokevirtual 63, 3) := by decide +kernel
theorem dX10_addSign_72 : decode cX10_addSign 72 = .ok (.iload_n 2, 1) := by decide +kernel
theorem dX10_addSign_73 : decode cX10_addSign 73 = .ok (.if_icmp .ne 39, 3) := by decide +kernel
theorem dX10_addSign_112 : decode cX10_addSign 112 = .ok (.iinc 4 2, 3) := by decide +kernel
theorem dX10_addSign_115 : decode cX10_addSign 115 = .ok (.goto (-62), 3) := by decide +kernel
theorem dX10_addSign_76 : decode cX10_addSign 76 = .ok (.ldc 138, 2) := by decide +kernel
theorem dX10_addSign_78 : decode cX10_addSign 78 = .ok (.iload 4, 2) := by decide +kernel
theorem dX10_addSign_80 : decode cX10_addSign 80 = .ok (.iconst 1, 1) := by decide +kernel
theorem dX10_addSign_81 : decode cX10_addSign 81 = .ok (.iadd, 1) := by decide +kernel
theorem dX10_addSign_82 : decode cX10_addSign 82 = .ok (.invokevirtual 63, 3) := by decide +kernel
theorem dX10_addSign_85 : decode cX10_addSign 85 = .ok (.iload_n 3, 1) := by decide +kernel
theorem dX10_addSign_86 : decode cX10_addSign 86 = .ok (.if_icmp .ne 26, 3) := by decide +kernel
theorem dX10_addSign_89 : decode cX10_addSign 89 = .ok (.aload_n 0, 1) := by decide +kernel
theorem dX10_addSign_90 : decode cX10_addSign 90 = .ok (.bipush 32, 2) := by decide +kernel
theorem dX10_addSign_92 : decode cX10_addSign 92 = .ok (.ldc 140, 2) := by decide +kernel
theorem dX10_addSign_94 : decode cX10_addSign 94 = .ok (.invokevirtual 17, 3) := by decide +kernel
theorem dX10_addSign_97 : decode cX10_addSign 97 = .ok (.iadd, 1) := by decide +kernel
theorem dX10_addSign_98 : decode cX10_addSign 98 = .ok (.iload 4, 2) := by decide +kernel
theorem dX10_addSign_100 : decode cX10_addSign 100 = .ok (.iconst 2, 1) := by decide +kernel
theorem dX10_addSign_101 : decode cX10_addSign 101 = .ok (.idiv, 1) := by decide +kernel
theorem dX10_addSign_102 : decode cX10_addSign 102 = .ok (.iadd, 1) := by decide +kernel
theorem dX10_addSign_103 : decode cX10_addSign 103 = .ok (.iload_n 1, 1) := by decide +kernel
theorem dX10_addSign_104 : decode cX10_addSign 104 = .ok (.iconst 0, 1) := by decide +kernel
theorem dX10_addSign_105 : decode cX10_addSign 105 = .ok (.iload_n 1, 1) := by decide +kernel
theorem dX10_addSign_106 : decode cX10_addSign 106 = .ok (.iconst 2, 1) := by decide +kernel
theorem dX10_addSign_107 : decode cX10_addSign 107 = .ok (.iadd, 1) := by decide +kernel
theorem dX10_addSign_108 : decode cX10_addSign 108 = .ok (.invokevirtual 128, 3) := by decide +kernel
theorem dX10_addSign_111 : decode cX10_addSign 111 = .ok (.ireturn, 1) := by decide +kernel
theorem dX10_addSign_20 : decode cX10_addSign 20 = .ok (.iload_n 3, 1) := by decide +kernel
theorem dX10_addSign_21 : decode cX10_addSign 21 = .ok (.bipush 62, 2) := by decide +kernel
theorem dX10_addSign_23 : decode cX10_addSign 23 = .ok (.if_icmp .ne 27, 3) := by decide +kernel
theorem dX10_addSign_26 : decode cX10_addSign 26 = .ok (.aload_n 0, 1) := by decide +kernel
theorem dX10_addSign_27 : decode cX10_addSign 27 = .ok (.iload_n 1, 1) := by decide +kernel
theorem dX10_addSign_28 : decode cX10_addSign 28 = .ok (.iconst 2, 1) := by decide +kernel
theorem dX10_addSign_29 : decode cX10_addSign 29 = .ok (.iadd, 1) := by decide +kernel
theorem dX10_addSign_30 : decode cX10_addSign 30 = .ok (.invokevirtual 112, 3) := by decide +kernel
theorem dX10_addSign_33 : decode cX10_addSign 33 = .ok (.bipush 62, 2) := by decide +kernel
theorem dX10_addSign_35 : decode cX10_addSign 35 = .ok (.if_icmp .ne 15, 3) := by decide +kernel
theorem dX10_addSign_38 : decode cX10_addSign 38 = .ok (.aload_n 0, 1) := by decide +kernel
theorem dX10_addSign_39 : decode cX10_addSign 39 = .ok (.bipush 64, 2) := by decide +kernel
theorem dX10_addSign_41 : decode cX10_addSign 41 = .ok (.iload_n 1, 1) := by decide +kernel
theorem dX10_addSign_42 : decode cX10_addSign 42 = .ok (.iconst 0, 1) := by decide +kernel
theorem dX10_addSign_43 : decode cX10_addSign 43 = .ok (.iload_n 1, 1) := by decide +kernel
theorem dX10_addSign_44 : decode cX10_addSign 44 = .ok (.iconst 3, 1) := by decide +kernel
theorem dX10_addSign_45 : decode cX10_addSign 45 = .ok (.iadd, 1) := by decide +kernel
theorem dX10_addSign_46 : decode cX10_addSign 46 = .ok (.invokevirtual 128, 3) := by decide +kernel
theorem dX10_addSign_49 : decode cX10_addSign 49 = .ok (.ireturn, 1) := by decide +kernel
theorem hV_X10_add : yX10_add.cls = RX10 ∧ yX10_add.cls ≠ "java/lang/invoke/MethodHandle" ∧ yX10_add.cls ≠ "java/lang/invoke/VarHandle" ∧ (parseMethodDescriptor yX10_add.desc).map (fun d => d.parameters.length) = some 4 := by decide +kernel
set_option maxHeartbeats 6000000 in
set_option maxRecDepth 100000 in
theorem K_addSign (l : Launch) (G : pT) (h0 : Nat) (a : Nat → Nat) (F : Nat → Int32) (R : Nat → Value) (Z : Int64) (B : Nat → Nat → Int32) (J : Nat → Nat → Int64) (T : Nat → Nat) (Pi : Nat → va_E → Prop) (w : va_W) (at9 : Nat) (ln : Nat) (sz : Nat) (hln : ln ≤ 5000) (hsz : sz ≤ 5000) (hat : at9 ≤ 5000) (hO : OKW G h0 a (upd (upd F 1 (nI ln)) 2 (nI sz)) R Z B J T Pi w) : PM l G pX0 yX10_addSign cX10_addSign 5 (some .int) ({ frames := 6, cells := 0, slots := 0, locals := 145 }) [.ref (a 1), .int (nI at9)] w (fun (v : Option Value) (u : va_W × (Nat × (Nat → Int32) × (Nat → Int32) × (Nat → Int32) × (Nat → Int32) × (Nat → Int32) × Int32)) => v = some (.int u.2.2.2.2.2.2.2) ∧ (u.2.1 ≤ 5000) ∧ (u.2.1 ≤ sz + 1) ∧ (OKW G h0 a (upd (upd F 1 (nI ln)) 2 (nI u.2.1)) R Z (updA (updA (updA (updA (updA B 7 u.2.2.1) 8 u.2.2.2.1) 9 u.2.2.2.2.1) 10 u.2.2.2.2.2.1) 11 u.2.2.2.2.2.2.1) J T Pi u.1)) (fun u => u.1) := by
  intro sz
  refine Met.ofW (cc := cX10_addSign) (maxL := 5) (ret := (some .int)) (by decide) rfl ?_
  intro p e s m args below meth c s₁ B9 hml hv
  obtain ⟨rfl, hsz, hP, hD0, hE, hX⟩ := hv
  have hx := B9.exec
  have hb := B9.bytes
  have hr := B9.returns
  have hts := atoms_spec (ws := Cond.code yX10_addSign cX10_addSign 5 (some .int) :: pw) B9.pre
  have hq : ∀ w ∈ pw, w.before _ s = true := fun w h => hts w (List.mem_cons_of_mem _ h)
  have hown : s.vm.findClass RX10 = some m.cls := findClass_of_methodNamed B9.named
  have hlocks := B9.notSynchronized
  subst hsz
  have hD := hD0.self (sz := s.heap.size)
  have hA : ∀ q : Nat, s.heap.size ≤ q → va_A w s.heap.size q := fun q h => Or.inr h
  generalize va_A w s.heap.size = A at hD hE hA ⊢
  have hS : va_S A s.heap s.heap [] := va_S.rf
  have hl := lv_entry ([.ref (a 1), .int (nI at9)]) (n := 5) (Nat.le_of_ble_eq_true rfl)
  rw [lg_entry_eq]
  generalize (lg_sl ([.ref (a 1), .int (nI at9)]) ++ List.replicate (5 - (lg_sl ([.ref (a 1), .int (nI at9)])).length) Slot.unset).toArray = ls at hl ⊢
  have hl : lv_has ls 5 [(0, .ref (a 1)), (1, .int (nI at9))] := hl
  refine lv_aload_n hx hb dX10_addSign_0 rfl (lv_at hl 0 rfl) ?_
  refine lv_iload_n hx hb dX10_addSign_1 rfl (lv_at hl 1 rfl) ?_
  have hO : OKW G h0 a (upd (upd (upd F 1 (nI ln)) 2 (nI sz)) 1 (nI ln)) R Z B J T Pi w := hO.to rfl
  obtain ⟨_, qr4, hqr5⟩ := hO.2.1 2 _ (sg_2 G h0 a _ _ _ _ _)
  refine pc_V0 (G := G) (As := [.int (nI at9)]) (rest := []) hx hb hml hown hq hE hX pX0_al hP hD hS hA hl.1 (K_byteAt l G h0 a (upd (upd F 1 (nI ln)) 2 (nI sz)) R Z B J T Pi w (nI at9) ln (by omega) hO) (gV pw_1266 pw_1267 pw_1268 pw_59 pw_1264) hV_X10_byteAt qr4 7 hqr5 rfl rfl rfl (Nat.le_of_ble_eq_true rfl) dX10_addSign_2 ⟨Nat.le_of_ble_eq_true rfl, Nat.le_of_ble_eq_true rfl⟩ ⟨Nat.le_of_ble_eq_true rfl, Nat.le_of_ble_eq_true rfl⟩ (fun v3 u1 H locs hw2 hP hD hS => ?_)
  obtain ⟨w, r6⟩ := u1
  obtain ⟨hw2, hO⟩ := hw2
  obtain rfl : v3 = some (.int r6) := hw2
  have hO : OKW G h0 a (upd (upd F 1 (nI ln)) 2 (nI sz)) R Z B J T Pi w := hO.to rfl
  refine W.widen (k := 0) (n := 0) (Nat.le_of_ble_eq_true rfl) (Nat.le_of_ble_eq_true rfl) ?_
  refine W.eq (g2 := F0 m 5 ls [.int r6]) rfl ?_
  refine lv_istore_n (lv' := [(2, .int r6), (0, .ref (a 1)), (1, .int (nI at9))]) hx hb dX10_addSign_5 rfl hl (by decide) rfl (fun ls hl => ?_)
  refine lv_aload_n hx hb dX10_addSign_6 rfl (lv_at hl 1 rfl) ?_
  refine lv_iload_n hx hb dX10_addSign_7 rfl (lv_at hl 2 rfl) ?_
  refine lv_iconst (v := 1) hx hb dX10_addSign_8 (by decide) ?_
  refine lv_iadd hx hb dX10_addSign_9 ?_
  refine lv_topi (fun x7 e8 => ?_)
  obtain rfl : x7 = nI (at9 + 1) := e8.trans (nI_add (at9) (1))
  have hO : OKW G h0 a (upd (upd (upd F 1 (nI ln)) 2 (nI sz)) 1 (nI ln)) R Z B J T Pi w := hO.to rfl
  obtain ⟨_, qr12, hqr13⟩ := hO.2.1 2 _ (sg_2 G h0 a _ _ _ _ _)
  refine pc_V0 (G := G) (As := [.int (nI (at9 + 1))]) (rest := []) hx hb hml hown hq hE hX pX0_al hP hD hS hA hl.1 (K_byteAt l G h0 a (upd (upd F 1 (nI ln)) 2 (nI sz)) R Z B J T Pi w (nI (at9 + 1)) ln (by omega) hO) (gV pw_1266 pw_1267 pw_1268 pw_59 pw_1264) hV_X10_byteAt qr12 7 hqr13 rfl rfl rfl (Nat.le_of_ble_eq_true rfl) dX10_addSign_10 ⟨Nat.le_of_ble_eq_true rfl, Nat.le_of_ble_eq_true rfl⟩ ⟨Nat.le_of_ble_eq_true rfl, Nat.le_of_ble_eq_true rfl⟩ (fun v11 u9 H locs hw10 hP hD hS => ?_)
  obtain ⟨w, r14⟩ := u9
  obtain ⟨hw10, hO⟩ := hw10
  obtain rfl : v11 = some (.int r14) := hw10
  have hO : OKW G h0 a (upd (upd F 1 (nI ln)) 2 (nI sz)) R Z B J T Pi w := hO.to rfl
  refine W.widen (k := 0) (n := 0) (Nat.le_of_ble_eq_true rfl) (Nat.le_of_ble_eq_true rfl) ?_
  refine W.eq (g2 := F0 m 13 ls [.int r14]) rfl ?_
  refine lv_istore_n (lv' := [(3, .int r14), (2, .int r6), (0, .ref (a 1)), (1, .int (nI at9))]) hx hb dX10_addSign_13 rfl hl (by decide) rfl (fun ls hl => ?_)
  refine lv_iload_n hx hb dX10_addSign_14 rfl (lv_at hl 1 rfl) ?_
  refine lv_bipush (v := 62) hx hb dX10_addSign_15 (by decide) ?_
  refine lv_icmp_ne (tgt := 50) hx hb dX10_addSign_17 (by decide) (fun c15 => ?_) (fun c15 => ?_)
  · refine lv_iconst (v := 0) hx hb dX10_addSign_50 (by decide) ?_
    refine lv_istore (lv' := [(4, .int 0), (3, .int r14), (2, .int r6), (0, .ref (a 1)), (1, .int (nI at9))]) hx hb dX10_addSign_51 hl (by decide) rfl (fun ls hl => ?_)
    have loop_i : ∀ (n_i : Nat) (i2 : Nat) (x2 : Int32) (x3 : Int32) (e2 : Nat) (H : Heap) (locs : List Loc) (ls : Array Slot) (w : va_W), i2 ≤ 8 → 8 + 1 ≤ i2 + n_i → (e2 = 2 * i2) → va_P G.1 pCl w H → va_D A w → va_S A s.heap H locs → OKW G h0 a (upd (upd F 1 (nI ln)) 2 (nI sz)) R Z B J T Pi w → lv_has ls 5 [(4, .int (nI e2)), (3, .int x3), (2, .int x2), (1, .int (nI at9)), (0, .ref (a 1))] → W p l e (headSpec (Cond.code yX10_addSign cX10_addSign 5 (some .int) :: pw) ({ frames := 6, cells := 0, slots := 0, locals := 145 } : Room)).room s m ([.ref (a 1), .int (nI at9)] : List Value).toArray below meth c H locs 0 0 (MQ below (pQ G A (fun (v : Option Value) (u : va_W × (Nat × (Nat → Int32) × (Nat → Int32) × (Nat → Int32) × (Nat → Int32) × (Nat → Int32) × Int32)) => v = some (.int u.2.2.2.2.2.2.2) ∧ (u.2.1 ≤ 5000) ∧ (u.2.1 ≤ sz + 1) ∧ (OKW G h0 a (upd (upd F 1 (nI ln)) 2 (nI u.2.1)) R Z (updA (updA (updA (updA (updA B 7 u.2.2.1) 8 u.2.2.2.1) 9 u.2.2.2.2.1) 10 u.2.2.2.2.2.1) 11 u.2.2.2.2.2.2.1) J T Pi u.1)) (fun u => u.1)) ([.ref (a 1), .int (nI at9)] : List Value).toArray s ({ frames := 6, cells := 0, slots := 0, locals := 145 } : Room).cells ({ frames := 6, cells := 0, slots := 0, locals := 145 } : Room).slots A) (F0 m 53 ls []) := by
      intro n_i
      induction n_i with
      | zero => intro i2 x2 x3 e2 H locs ls w hk_i hn_i; omega
      | succ n_i ih_i =>
        intro i2 x2 x3 e2 H locs ls w hk_i hn_i he2 hP hD hS hO hl
        refine lv_iload hx hb dX10_addSign_53 (lv_at hl 0 rfl) ?_
        refine lv_iconst (v := 1) hx hb dX10_addSign_55 (by decide) ?_
        refine lv_iadd hx hb dX10_addSign_56 ?_
        refine lv_topi (fun x16 e17 => ?_)
        obtain rfl : x16 = nI (e2 + 1) := e17.trans (nI_add (e2) (1))
        refine va_ldcS (q := G.2.2.1 15) hx hb hown (hE.2.2.1 15 (by decide)) dX10_addSign_57 ?_
        refine pc_VN (G := G) (As := []) (rest := [.int (nI (e2 + 1))]) hx hb hml hown hq hE hX pX0_al hP hS hA hl.1 (c_length l G 15 (by decide)) (gV pw_1235 pw_1236 pw_1237 pw_1214 pw_1209) hV_J0_length_8abf5 (vk_recv hE.2.1 (by decide) hS) rfl (Nat.le_of_ble_eq_true rfl) dX10_addSign_59 ⟨Nat.le_of_ble_eq_true rfl, Nat.le_of_ble_eq_true rfl⟩ ⟨Nat.le_of_ble_eq_true rfl, Nat.le_of_ble_eq_true rfl⟩ (fun v20 u18 H locs hw19 hP hS => ?_)
        obtain rfl : v20 = some (.int (nI 16)) := hw19.trans (by rw [show sLen.getD 15 0 = 16 by decide +kernel])
        refine W.widen (k := 0) (n := 0) (Nat.le_of_ble_eq_true rfl) (Nat.le_of_ble_eq_true rfl) ?_
        refine W.eq (g2 := F0 m 62 ls [.int (nI 16), .int (nI (e2 + 1))]) rfl ?_
        refine lv_icmp_ge (tgt := 118) hx hb dX10_addSign_62 (by decide) (fun c21 => ?_) (fun c21 => ?_)
        · have n22 : 16 ≤ (e2 + 1) := (nI_leI (a := 16) (b := (e2 + 1)) (by omega) (by omega)).mp c21
          refine lv_iconst (v := 0) hx hb dX10_addSign_118 (by decide) ?_
          refine lv_istore (lv' := [(4, .int 0), (3, .int x3), (2, .int x2), (1, .int (nI at9)), (0, .ref (a 1))]) hx hb dX10_addSign_119 hl (by decide) rfl (fun ls hl => ?_)
          have loop_j : ∀ (n_j : Nat) (j2 : Nat) (x2 : Int32) (x3 : Int32) (H : Heap) (locs : List Loc) (ls : Array Slot) (w : va_W), j2 ≤ 24 → 24 + 1 ≤ j2 + n_j → va_P G.1 pCl w H → va_D A w → va_S A s.heap H locs → OKW G h0 a (upd (upd F 1 (nI ln)) 2 (nI sz)) R Z B J T Pi w → lv_has ls 5 [(4, .int (nI j2)), (3, .int x3), (2, .int x2), (1, .int (nI at9)), (0, .ref (a 1))] → W p l e (headSpec (Cond.code yX10_addSign cX10_addSign 5 (some .int) :: pw) ({ frames := 6, cells := 0, slots := 0, locals := 145 } : Room)).room s m ([.ref (a 1), .int (nI at9)] : List Value).toArray below meth c H locs 0 0 (MQ below (pQ G A (fun (v : Option Value) (u : va_W × (Nat × (Nat → Int32) × (Nat → Int32) × (Nat → Int32) × (Nat → Int32) × (Nat → Int32) × Int32)) => v = some (.int u.2.2.2.2.2.2.2) ∧ (u.2.1 ≤ 5000) ∧ (u.2.1 ≤ sz + 1) ∧ (OKW G h0 a (upd (upd F 1 (nI ln)) 2 (nI u.2.1)) R Z (updA (updA (updA (updA (updA B 7 u.2.2.1) 8 u.2.2.2.1) 9 u.2.2.2.2.1) 10 u.2.2.2.2.2.1) 11 u.2.2.2.2.2.2.1) J T Pi u.1)) (fun u => u.1)) ([.ref (a 1), .int (nI at9)] : List Value).toArray s ({ frames := 6, cells := 0, slots := 0, locals := 145 } : Room).cells ({ frames := 6, cells := 0, slots := 0, locals := 145 } : Room).slots A) (F0 m 121 ls []) := by
            intro n_j
            induction n_j with
            | zero => intro j2 x2 x3 H locs ls w hk_j hn_j; omega
            | succ n_j ih_j =>
              intro j2 x2 x3 H locs ls w hk_j hn_j hP hD hS hO hl
              refine lv_iload hx hb dX10_addSign_121 (lv_at hl 0 rfl) ?_
              refine va_ldcS (q := G.2.2.1 16) hx hb hown (hE.2.2.1 16 (by decide)) dX10_addSign_123 ?_
              refine pc_VN (G := G) (As := []) (rest := [.int (nI j2)]) hx hb hml hown hq hE hX pX0_al hP hS hA hl.1 (c_length l G 16 (by decide)) (gV pw_1235 pw_1236 pw_1237 pw_1214 pw_1209) hV_J0_length_8abf5 (vk_recv hE.2.1 (by decide) hS) rfl (Nat.le_of_ble_eq_true rfl) dX10_addSign_125 ⟨Nat.le_of_ble_eq_true rfl, Nat.le_of_ble_eq_true rfl⟩ ⟨Nat.le_of_ble_eq_true rfl, Nat.le_of_ble_eq_true rfl⟩ (fun v25 u23 H locs hw24 hP hS => ?_)
              obtain rfl : v25 = some (.int (nI 24)) := hw24.trans (by rw [show sLen.getD 16 0 = 24 by decide +kernel])
              refine W.widen (k := 0) (n := 0) (Nat.le_of_ble_eq_true rfl) (Nat.le_of_ble_eq_true rfl) ?_
              refine W.eq (g2 := F0 m 128 ls [.int (nI 24), .int (nI j2)]) rfl ?_
              refine lv_icmp_ge (tgt := 163) hx hb dX10_addSign_128 (by decide) (fun c26 => ?_) (fun c26 => ?_)
              · have n27 : 24 ≤ j2 := (nI_leI (a := 24) (b := j2) (by omega) (by omega)).mp c26
                refine lv_aload_n hx hb dX10_addSign_163 rfl (lv_at hl 4 rfl) ?_
                refine lv_bipush (v := 68) hx hb dX10_addSign_164 (by decide) ?_
                refine lv_iload_n hx hb dX10_addSign_166 rfl (lv_at hl 3 rfl) ?_
                refine lv_iconst (v := 0) hx hb dX10_addSign_167 (by decide) ?_
                refine lv_iload_n hx hb dX10_addSign_168 rfl (lv_at hl 3 rfl) ?_
                have hO : OKW G h0 a (upd (upd (upd F 1 (nI ln)) 2 (nI sz)) 2 (nI sz)) R Z B J T Pi w := hO.to rfl
                obtain ⟨_, qr31, hqr32⟩ := hO.2.1 2 _ (sg_2 G h0 a _ _ _ _ _)
                refine pc_V0 (G := G) (As := [.int 68, .int (nI at9), .int 0, .int (nI at9)]) (rest := []) hx hb hml hown hq hE hX pX0_al hP hD hS hA hl.1 (K_add l G h0 a (upd (upd F 1 (nI ln)) 2 (nI sz)) R Z B J T Pi w 68 (nI at9) 0 (nI at9) sz (by omega) hO) (gV pw_1272 pw_1273 pw_1274 pw_59 pw_1271) hV_X10_add qr31 7 hqr32 rfl rfl rfl (Nat.le_of_ble_eq_true rfl) dX10_addSign_169 ⟨Nat.le_of_ble_eq_true rfl, Nat.le_of_ble_eq_true rfl⟩ ⟨Nat.le_of_ble_eq_true rfl, Nat.le_of_ble_eq_true rfl⟩ (fun v30 u28 H locs hw29 hP hD hS => ?_)
                obtain ⟨w, sz33, f34, f35, f36, f37, f38⟩ := u28
                obtain ⟨hw29, h39, h40, hO⟩ := hw29
                have h39 : sz33 ≤ 5000 := h39
                have h40 : sz33 ≤ sz + 1 := h40
                obtain rfl : v30 = some (.int (nI at9)) := hw29
                have hO : OKW G h0 a (upd (upd F 1 (nI ln)) 2 (nI sz33)) R Z (updA (updA (updA (updA (updA B 7 f34) 8 f35) 9 f36) 10 f37) 11 f38) J T Pi w := hO.to rfl
                refine W.widen (k := 0) (n := 0) (Nat.le_of_ble_eq_true rfl) (Nat.le_of_ble_eq_true rfl) ?_
                refine W.eq (g2 := F0 m 172 ls [.int (nI at9)]) rfl ?_
                have hz41 : sz33 ≤ 5000 := (by omega)
                have hz42 : sz33 ≤ sz + 1 := (by omega)
                have hO : OKW G h0 a (upd (upd F 1 (nI ln)) 2 (nI sz33)) R Z (updA (updA (updA (updA (updA B 7 f34) 8 f35) 9 f36) 10 f37) 11 f38) J T Pi w := hO.to rfl
                exact W.iret (v := (nI at9)) hx hb hr (fun t99 ht99 hW99 => ⟨⟨_, (w, (sz33, f34, f35, f36, f37, f38, (nI at9))), rfl, ⟨rfl, hz41, hz42, hO⟩, by rw [ht99]; exact hP, hD⟩, hS.F ht99⟩) hS.2.2 dX10_addSign_172
              · have n43 : ¬ (24 ≤ j2) := fun h9 => c26 ((nI_leI (a := 24) (b := j2) (by omega) (by omega)).mpr h9)
                refine va_ldcS (q := G.2.2.1 16) hx hb hown (hE.2.2.1 16 (by decide)) dX10_addSign_131 ?_
                refine lv_iload hx hb dX10_addSign_133 (lv_at hl 0 rfl) ?_
                refine pc_VN (G := G) (As := [.int (nI j2)]) (rest := []) hx hb hml hown hq hE hX pX0_al hP hS hA hl.1 (c_charAtX l G 16 j2 (by decide) (by rw [show sLen.getD 16 0 = 24 by decide +kernel]; omega)) (gV pw_1238 pw_1239 pw_1240 pw_1214 pw_1233) hV_J0_charAt_5068e (vk_recv hE.2.1 (by decide) hS) rfl (Nat.le_of_ble_eq_true rfl) dX10_addSign_135 ⟨Nat.le_of_ble_eq_true rfl, Nat.le_of_ble_eq_true rfl⟩ ⟨Nat.le_of_ble_eq_true rfl, Nat.le_of_ble_eq_true rfl⟩ (fun v46 u44 H locs hw45 hP hS => ?_)
                obtain rfl : v46 = some (.int (sCh 16 j2)) := hw45
                refine W.widen (k := 0) (n := 0) (Nat.le_of_ble_eq_true rfl) (Nat.le_of_ble_eq_true rfl) ?_
                refine W.eq (g2 := F0 m 138 ls [.int (sCh 16 j2)]) rfl ?_
                refine lv_topi (fun x47 e48 => ?_)
                refine lv_iload_n hx hb dX10_addSign_138 rfl (lv_at hl 2 rfl) ?_
                refine lv_icmp_ne (tgt := 157) hx hb dX10_addSign_139 (by decide) (fun c49 => ?_) (fun c49 => ?_)
                · refine lv_iinc (v := (nI (j2 + 1))) (lv' := [(4, .int (nI (j2 + 1))), (3, .int x3), (2, .int x2), (1, .int (nI at9)), (0, .ref (a 1))]) hx hb dX10_addSign_157 hl (k := 0) rfl (nI_1 j2) (by decide) rfl (fun ls hl => ?_)
                  refine lv_goto (tgt := 121) hx hb dX10_addSign_160 (by decide) ?_
                  have hO : OKW G h0 a (upd (upd F 1 (nI ln)) 2 (nI sz)) R Z B J T Pi w := hO.to rfl
                  exact ih_j (j2 + 1) x2 x3 _ _ _ _ (by omega) (by omega) hP hD hS hO (lv_sub hl [0, 1, 2, 3, 4] rfl)
                · refine lv_aload_n hx hb dX10_addSign_142 rfl (lv_at hl 4 rfl) ?_
                  refine lv_bipush (v := 32) hx hb dX10_addSign_143 (by decide) ?_
                  refine lv_iload hx hb dX10_addSign_145 (lv_at hl 0 rfl) ?_
                  refine lv_iadd hx hb dX10_addSign_147 ?_
                  refine lv_topi (fun x50 e51 => ?_)
                  obtain rfl : x50 = nI (32 + j2) := e51.trans (nI_add (32) (j2))
                  refine lv_iload_n hx hb dX10_addSign_148 rfl (lv_at hl 3 rfl) ?_
                  refine lv_iconst (v := 0) hx hb dX10_addSign_149 (by decide) ?_
                  refine lv_iload_n hx hb dX10_addSign_150 rfl (lv_at hl 3 rfl) ?_
                  refine lv_iconst (v := 1) hx hb dX10_addSign_151 (by decide) ?_
                  refine lv_iadd hx hb dX10_addSign_152 ?_
                  refine lv_topi (fun x52 e53 => ?_)
                  obtain rfl : x52 = nI (at9 + 1) := e53.trans (nI_add (at9) (1))
                  have hO : OKW G h0 a (upd (upd (upd F 1 (nI ln)) 2 (nI sz)) 2 (nI sz)) R Z B J T Pi w := hO.to rfl
                  obtain ⟨_, qr57, hqr58⟩ := hO.2.1 2 _ (sg_2 G h0 a _ _ _ _ _)
                  refine pc_V0 (G := G) (As := [.int (nI (32 + j2)), .int (nI at9), .int 0, .int (nI (at9 + 1))]) (rest := []) hx hb hml hown hq hE hX pX0_al hP hD hS hA hl.1 (K_add l G h0 a (upd (upd F 1 (nI ln)) 2 (nI sz)) R Z B J T Pi w (nI (32 + j2)) (nI at9) 0 (nI (at9 + 1)) sz (by omega) hO) (gV pw_1272 pw_1273 pw_1274 pw_59 pw_1271) hV_X10_add qr57 7 hqr58 rfl rfl rfl (Nat.le_of_ble_eq_true rfl) dX10_addSign_153 ⟨Nat.le_of_ble_eq_true rfl, Nat.le_of_ble_eq_true rfl⟩ ⟨Nat.le_of_ble_eq_true rfl, Nat.le_of_ble_eq_true rfl⟩ (fun v56 u54 H locs hw55 hP hD hS => ?_)
                  obtain ⟨w, sz59, f60, f61, f62, f63, f64⟩ := u54
                  obtain ⟨hw55, h65, h66, hO⟩ := hw55
                  have h65 : sz59 ≤ 5000 := h65
                  have h66 : sz59 ≤ sz + 1 := h66
                  obtain rfl : v56 = some (.int (nI (at9 + 1))) := hw55
                  have hO : OKW G h0 a (upd (upd F 1 (nI ln)) 2 (nI sz59)) R Z (updA (updA (updA (updA (updA B 7 f60) 8 f61) 9 f62) 10 f63) 11 f64) J T Pi w := hO.to rfl
                  refine W.widen (k := 0) (n := 0) (Nat.le_of_ble_eq_true rfl) (Nat.le_of_ble_eq_true rfl) ?_
                  refine W.eq (g2 := F0 m 156 ls [.int (nI (at9 + 1))]) rfl ?_
                  have hz67 : sz59 ≤ 5000 := (by omega)
                  have hz68 : sz59 ≤ sz + 1 := (by omega)
                  have hO : OKW G h0 a (upd (upd F 1 (nI ln)) 2 (nI sz59)) R Z (updA (updA (updA (updA (updA B 7 f60) 8 f61) 9 f62) 10 f63) 11 f64) J T Pi w := hO.to rfl
                  exact W.iret (v := (nI (at9 + 1))) hx hb hr (fun t99 ht99 hW99 => ⟨⟨_, (w, (sz59, f60, f61, f62, f63, f64, (nI (at9 + 1)))), rfl, ⟨rfl, hz67, hz68, hO⟩, by rw [ht99]; exact hP, hD⟩, hS.F ht99⟩) hS.2.2 dX10_addSign_156
          have hO : OKW G h0 a (upd (upd F 1 (nI ln)) 2 (nI sz)) R Z B J T Pi w := hO.to rfl
          exact loop_j (24 + 1) 0 x2 x3 _ _ _ _ (by omega) (by omega) hP hD hS hO (lv_sub hl [0, 1, 2, 3, 4] rfl)
        · have n69 : ¬ (16 ≤ (e2 + 1)) := fun h9 => c21 ((nI_leI (a := 16) (b := (e2 + 1)) (by omega) (by omega)).mpr h9)
          refine va_ldcS (q := G.2.2.1 15) hx hb hown (hE.2.2.1 15 (by decide)) dX10_addSign_65 ?_
          refine lv_iload hx hb dX10_addSign_67 (lv_at hl 0 rfl) ?_
          refine pc_VN (G := G) (As := [.int (nI e2)]) (rest := []) hx hb hml hown hq hE hX pX0_al hP hS hA hl.1 (c_charAtX l G 15 e2 (by decide) (by rw [show sLen.getD 15 0 = 16 by decide +kernel]; omega)) (gV pw_1238 pw_1239 pw_1240 pw_1214 pw_1233) hV_J0_charAt_5068e (vk_recv hE.2.1 (by decide) hS) rfl (Nat.le_of_ble_eq_true rfl) dX10_addSign_69 ⟨Nat.le_of_ble_eq_true rfl, Nat.le_of_ble_eq_true rfl⟩ ⟨Nat.le_of_ble_eq_true rfl, Nat.le_of_ble_eq_true rfl⟩ (fun v72 u70 H locs hw71 hP hS => ?_)
          obtain rfl : v72 = some (.int (sCh 15 e2)) := hw71
          refine W.widen (k := 0) (n := 0) (Nat.le_of_ble_eq_true rfl) (Nat.le_of_ble_eq_true rfl) ?_
          refine W.eq (g2 := F0 m 72 ls [.int (sCh 15 e2)]) rfl ?_
          refine lv_topi (fun x73 e74 => ?_)
          refine lv_iload_n hx hb dX10_addSign_72 rfl (lv_at hl 2 rfl) ?_
          refine lv_icmp_ne (tgt := 112) hx hb dX10_addSign_73 (by decide) (fun c75 => ?_) (fun c75 => ?_)
          · refine lv_iinc (v := (nI (e2 + 2))) (lv' := [(4, .int (nI (e2 + 2))), (3, .int x3), (2, .int x2), (1, .int (nI at9)), (0, .ref (a 1))]) hx hb dX10_addSign_112 hl (k := 0) rfl (nI_add _ 2) (by decide) rfl (fun ls hl => ?_)
            refine lv_goto (tgt := 53) hx hb dX10_addSign_115 (by decide) ?_
            have hO : OKW G h0 a (upd (upd F 1 (nI ln)) 2 (nI sz)) R Z B J T Pi w := hO.to rfl
            exact ih_i (i2 + 1) x2 x3 (e2 + 2) _ _ _ _ (by omega) (by omega) (by omega) hP hD hS hO (lv_sub hl [0, 1, 2, 3, 4] rfl)
          · refine va_ldcS (q := G.2.2.1 15) hx hb hown (hE.2.2.1 15 (by decide)) dX10_addSign_76 ?_
            refine lv_iload hx hb dX10_addSign_78 (lv_at hl 0 rfl) ?_
            refine lv_iconst (v := 1) hx hb dX10_addSign_80 (by decide) ?_
            refine lv_iadd hx hb dX10_addSign_81 ?_
            refine lv_topi (fun x76 e77 => ?_)
            obtain rfl : x76 = nI (e2 + 1) := e77.trans (nI_add (e2) (1))
            refine pc_VN (G := G) (As := [.int (nI (e2 + 1))]) (rest := []) hx hb hml hown hq hE hX pX0_al hP hS hA hl.1 (c_charAtX l G 15 (e2 + 1) (by decide) (by rw [show sLen.getD 15 0 = 16 by decide +kernel]; omega)) (gV pw_1238 pw_1239 pw_1240 pw_1214 pw_1233) hV_J0_charAt_5068e (vk_recv hE.2.1 (by decide) hS) rfl (Nat.le_of_ble_eq_true rfl) dX10_addSign_82 ⟨Nat.le_of_ble_eq_true rfl, Nat.le_of_ble_eq_true rfl⟩ ⟨Nat.le_of_ble_eq_true rfl, Nat.le_of_ble_eq_true rfl⟩ (fun v80 u78 H locs hw79 hP hS => ?_)
            obtain rfl : v80 = some (.int (sCh 15 (e2 + 1))) := hw79
            refine W.widen (k := 0) (n := 0) (Nat.le_of_ble_eq_true rfl) (Nat.le_of_ble_eq_true rfl) ?_
            refine W.eq (g2 := F0 m 85 ls [.int (sCh 15 (e2 + 1))]) rfl ?_
            refine lv_topi (fun x81 e82 => ?_)
            refine lv_iload_n hx hb dX10_addSign_85 rfl (lv_at hl 1 rfl) ?_
            refine lv_icmp_ne (tgt := 112) hx hb dX10_addSign_86 (by decide) (fun c83 => ?_) (fun c83 => ?_)
            · refine lv_iinc (v := (nI (e2 + 2))) (lv' := [(4, .int (nI (e2 + 2))), (3, .int x3), (2, .int x2), (1, .int (nI at9)), (0, .ref (a 1))]) hx hb dX10_addSign_112 hl (k := 0) rfl (nI_add _ 2) (by decide) rfl (fun ls hl => ?_)
              refine lv_goto (tgt := 53) hx hb dX10_addSign_115 (by decide) ?_
              have hO : OKW G h0 a (upd (upd F 1 (nI ln)) 2 (nI sz)) R Z B J T Pi w := hO.to rfl
              exact ih_i (i2 + 1) x2 x3 (e2 + 2) _ _ _ _ (by omega) (by omega) (by omega) hP hD hS hO (lv_sub hl [0, 1, 2, 3, 4] rfl)
            · refine lv_aload_n hx hb dX10_addSign_89 rfl (lv_at hl 4 rfl) ?_
              refine lv_bipush (v := 32) hx hb dX10_addSign_90 (by decide) ?_
              refine va_ldcS (q := G.2.2.1 16) hx hb hown (hE.2.2.1 16 (by decide)) dX10_addSign_92 ?_
              refine pc_VN (G := G) (As := []) (rest := [.int 32, .ref (a 1)]) hx hb hml hown hq hE hX pX0_al hP hS hA hl.1 (c_length l G 16 (by decide)) (gV pw_1235 pw_1236 pw_1237 pw_1214 pw_1209) hV_J0_length_8abf5 (vk_recv hE.2.1 (by decide) hS) rfl (Nat.le_of_ble_eq_true rfl) dX10_addSign_94 ⟨Nat.le_of_ble_eq_true rfl, Nat.le_of_ble_eq_true rfl⟩ ⟨Nat.le_of_ble_eq_true rfl, Nat.le_of_ble_eq_true rfl⟩ (fun v86 u84 H locs hw85 hP hS => ?_)
              obtain rfl : v86 = some (.int (nI 24)) := hw85.trans (by rw [show sLen.getD 16 0 = 24 by decide +kernel])
              refine W.widen (k := 0) (n := 0) (Nat.le_of_ble_eq_true rfl) (Nat.le_of_ble_eq_true rfl) ?_
              refine W.eq (g2 := F0 m 97 ls [.int (nI 24), .int 32, .ref (a 1)]) rfl ?_
              refine lv_iadd hx hb dX10_addSign_97 ?_
              refine lv_topi (fun x87 e88 => ?_)
              obtain rfl : x87 = nI (32 + 24) := e88.trans (nI_add (32) (24))
              refine lv_iload hx hb dX10_addSign_98 (lv_at hl 0 rfl) ?_
              refine lv_iconst (v := 2) hx hb dX10_addSign_100 (by decide) ?_
              refine lv_idiv hx hb dX10_addSign_101 (by decide) ?_
              refine lv_topi (fun x89 e90 => ?_)
              refine lv_iadd hx hb dX10_addSign_102 ?_
              refine lv_topi (fun x91 e92 => ?_)
              refine lv_iload_n hx hb dX10_addSign_103 rfl (lv_at hl 3 rfl) ?_
              refine lv_iconst (v := 0) hx hb dX10_addSign_104 (by decide) ?_
              refine lv_iload_n hx hb dX10_addSign_105 rfl (lv_at hl 3 rfl) ?_
              refine lv_iconst (v := 2) hx hb dX10_addSign_106 (by decide) ?_
              refine lv_iadd hx hb dX10_addSign_107 ?_
              refine lv_topi (fun x93 e94 => ?_)
              obtain rfl : x93 = nI (at9 + 2) := e94.trans (nI_add (at9) (2))
              have hO : OKW G h0 a (upd (upd (upd F 1 (nI ln)) 2 (nI sz)) 2 (nI sz)) R Z B J T Pi w := hO.to rfl
              obtain ⟨_, qr98, hqr99⟩ := hO.2.1 2 _ (sg_2 G h0 a _ _ _ _ _)
              refine pc_V0 (G := G) (As := [.int x91, .int (nI at9), .int 0, .int (nI (at9 + 2))]) (rest := []) hx hb hml hown hq hE hX pX0_al hP hD hS hA hl.1 (K_add l G h0 a (upd (upd F 1 (nI ln)) 2 (nI sz)) R Z B J T Pi w x91 (nI at9) 0 (nI (at9 + 2)) sz (by omega) hO) (gV pw_1272 pw_1273 pw_1274 pw_59 pw_1271) hV_X10_add qr98 7 hqr99 rfl rfl rfl (Nat.le_of_ble_eq_true rfl) dX10_addSign_108 ⟨Nat.le_of_ble_eq_true rfl, Nat.le_of_ble_eq_true rfl⟩ ⟨Nat.le_of_ble_eq_true rfl, Nat.le_of_ble_eq_true rfl⟩ (fun v97 u95 H locs hw96 hP hD hS => ?_)
              obtain ⟨w, sz100, f101, f102, f103, f104, f105⟩ := u95
              obtain ⟨hw96, h106, h107, hO⟩ := hw96
              have h106 : sz100 ≤ 5000 := h106
              have h107 : sz100 ≤ sz + 1 := h107
              obtain rfl : v97 = some (.int (nI (at9 + 2))) := hw96
              have hO : OKW G h0 a (upd (upd F 1 (nI ln)) 2 (nI sz100)) R Z (updA (updA (updA (updA (updA B 7 f101) 8 f102) 9 f103) 10 f104) 11 f105) J T Pi w := hO.to rfl
              refine W.widen (k := 0) (n := 0) (Nat.le_of_ble_eq_true rfl) (Nat.le_of_ble_eq_true rfl) ?_
              refine W.eq (g2 := F0 m 111 ls [.int (nI (at9 + 2))]) rfl ?_
              have hz108 : sz100 ≤ 5000 := (by omega)
              have hz109 : sz100 ≤ sz + 1 := (by omega)
              have hO : OKW G h0 a (upd (upd F 1 (nI ln)) 2 (nI sz100)) R Z (updA (updA (updA (updA (updA B 7 f101) 8 f102) 9 f103) 10 f104) 11 f105) J T Pi w := hO.to rfl
              exact W.iret (v := (nI (at9 + 2))) hx hb hr (fun t99 ht99 hW99 => ⟨⟨_, (w, (sz100, f101, f102, f103, f104, f105, (nI (at9 + 2)))), rfl, ⟨rfl, hz108, hz109, hO⟩, by rw [ht99]; exact hP, hD⟩, hS.F ht99⟩) hS.2.2 dX10_addSign_111
    have hO : OKW G h0 a (upd (upd F 1 (nI ln)) 2 (nI sz)) R Z B J T Pi w := hO.to rfl
    exact loop_i (8 + 1) 0 r6 r14 0 _ _ _ _ (by omega) (by omega) (by omega) hP hD hS hO (lv_sub hl [0, 1, 2, 4, 3] rfl)
  · refine lv_iload_n hx hb dX10_addSign_20 rfl (lv_at hl 0 rfl) ?_
    refine lv_bipush (v := 62) hx hb dX10_addSign_21 (by decide) ?_
    refine lv_icmp_ne (tgt := 50) hx hb dX10_addSign_23 (by decide) (fun c110 => ?_) (fun c110 => ?_)
    · refine lv_iconst (v := 0) hx hb dX10_addSign_50 (by decide) ?_
      refine lv_istore (lv' := [(4, .int 0), (3, .int r14), (2, .int r6), (0, .ref (a 1)), (1, .int (nI at9))]) hx hb dX10_addSign_51 hl (by decide) rfl (fun ls hl => ?_)
      have loop_i : ∀ (n_i : Nat) (i2 : Nat) (x2 : Int32) (x3 : Int32) (e2 : Nat) (H : Heap) (locs : List Loc) (ls : Array Slot) (w : va_W), i2 ≤ 8 → 8 + 1 ≤ i2 + n_i → (e2 = 2 * i2) → va_P G.1 pCl w H → va_D A w → va_S A s.heap H locs → OKW G h0 a (upd (upd F 1 (nI ln)) 2 (nI sz)) R Z B J T Pi w → lv_has ls 5 [(4, .int (nI e2)), (3, .int x3), (2, .int x2), (1, .int (nI at9)), (0, .ref (a 1))] → W p l e (headSpec (Cond.code yX10_addSign cX10_addSign 5 (some .int) :: pw) ({ frames := 6, cells := 0, slots := 0, locals := 145 } : Room)).room s m ([.ref (a 1), .int (nI at9)] : List Value).toArray below meth c H locs 0 0 (MQ below (pQ G A (fun (v : Option Value) (u : va_W × (Nat × (Nat → Int32) × (Nat → Int32) × (Nat → Int32) × (Nat → Int32) × (Nat → Int32) × Int32)) => v = some (.int u.2.2.2.2.2.2.2) ∧ (u.2.1 ≤ 5000) ∧ (u.2.1 ≤ sz + 1) ∧ (OKW G h0 a (upd (upd F 1 (nI ln)) 2 (nI u.2.1)) R Z (updA (updA (updA (updA (updA B 7 u.2.2.1) 8 u.2.2.2.1) 9 u.2.2.2.2.1) 10 u.2.2.2.2.2.1) 11 u.2.2.2.2.2.2.1) J T Pi u.1)) (fun u => u.1)) ([.ref (a 1), .int (nI at9)] : List Value).toArray s ({ frames := 6, cells := 0, slots := 0, locals := 145 } : Room).cells ({ frames := 6, cells := 0, slots := 0, locals := 145 } : Room).slots A) (F0 m 53 ls []) := by
        intro n_i
        induction n_i with
        | zero => intro i2 x2 x3 e2 H locs ls w hk_i hn_i; omega
        | succ n_i ih_i =>
          intro i2 x2 x3 e2 H locs ls w hk_i hn_i he2 hP hD hS hO hl
          refine lv_iload hx hb dX10_addSign_53 (lv_at hl 0 rfl) ?_
          refine lv_iconst (v := 1) hx hb dX10_addSign_55 (by decide) ?_
          refine lv_iadd hx hb dX10_addSign_56 ?_
          refine lv_topi (fun x111 e112 => ?_)
          obtain rfl : x111 = nI (e2 + 1) := e112.trans (nI_add (e2) (1))
          refine va_ldcS (q := G.2.2.1 15) hx hb hown (hE.2.2.1 15 (by decide)) dX10_addSign_57 ?_
          refine pc_VN (G := G) (As := []) (rest := [.int (nI (e2 + 1))]) hx hb hml hown hq hE hX pX0_al hP hS hA hl.1 (c_length l G 15 (by decide)) (gV pw_1235 pw_1236 pw_1237 pw_1214 pw_1209) hV_J0_length_8abf5 (vk_recv hE.2.1 (by decide) hS) rfl (Nat.le_of_ble_eq_true rfl) dX10_addSign_59 ⟨Nat.le_of_ble_eq_true rfl, Nat.le_of_ble_eq_true rfl⟩ ⟨Nat.le_of_ble_eq_true rfl, Nat.le_of_ble_eq_true rfl⟩ (fun v115 u113 H locs hw114 hP hS => ?_)
          obtain rfl : v115 = some (.int (nI 16)) := hw114.trans (by rw [show sLen.getD 15 0 = 16 by decide +kernel])
          refine W.widen (k := 0) (n := 0) (Nat.le_of_ble_eq_true rfl) (Nat.le_of_ble_eq_true rfl) ?_
          refine W.eq (g2 := F0 m 62 ls [.int (nI 16), .int (nI (e2 + 1))]) rfl ?_
          refine lv_icmp_ge (tgt := 118) hx hb dX10_addSign_62 (by decide) (fun c116 => ?_) (fun c116 => ?_)
          · have n117 : 16 ≤ (e2 + 1) := (nI_leI (a := 16) (b := (e2 + 1)) (by omega) (by omega)).mp c116
            refine lv_iconst (v := 0) hx hb dX10_addSign_118 (by decide) ?_
            refine lv_istore (lv' := [(4, .int 0), (3, .int x3), (2, .int x2), (1, .int (nI at9)), (0, .ref (a 1))]) hx hb dX10_addSign_119 hl (by decide) rfl (fun ls hl => ?_)
            have loop_j : ∀ (n_j : Nat) (j2 : Nat) (x2 : Int32) (x3 : Int32) (H : Heap) (locs : List Loc) (ls : Array Slot) (w : va_W), j2 ≤ 24 → 24 + 1 ≤ j2 + n_j → va_P G.1 pCl w H → va_D A w → va_S A s.heap H locs → OKW G h0 a (upd (upd F 1 (nI ln)) 2 (nI sz)) R Z B J T Pi w → lv_has ls 5 [(4, .int (nI j2)), (3, .int x3), (2, .int x2), (1, .int (nI at9)), (0, .ref (a 1))] → W p l e (headSpec (Cond.code yX10_addSign cX10_addSign 5 (some .int) :: pw) ({ frames := 6, cells := 0, slots := 0, locals := 145 } : Room)).room s m ([.ref (a 1), .int (nI at9)] : List Value).toArray below meth c H locs 0 0 (MQ below (pQ G A (fun (v : Option Value) (u : va_W × (Nat × (Nat → Int32) × (Nat → Int32) × (Nat → Int32) × (Nat → Int32) × (Nat → Int32) × Int32)) => v = some (.int u.2.2.2.2.2.2.2) ∧ (u.2.1 ≤ 5000) ∧ (u.2.1 ≤ sz + 1) ∧ (OKW G h0 a (upd (upd F 1 (nI ln)) 2 (nI u.2.1)) R Z (updA (updA (updA (updA (updA B 7 u.2.2.1) 8 u.2.2.2.1) 9 u.2.2.2.2.1) 10 u.2.2.2.2.2.1) 11 u.2.2.2.2.2.2.1) J T Pi u.1)) (fun u => u.1)) ([.ref (a 1), .int (nI at9)] : List Value).toArray s ({ frames := 6, cells := 0, slots := 0, locals := 145 } : Room).cells ({ frames := 6, cells := 0, slots := 0, locals := 145 } : Room).slots A) (F0 m 121 ls []) := by
              intro n_j
              induction n_j with
              | zero => intro j2 x2 x3 H locs ls w hk_j hn_j; omega
              | succ n_j ih_j =>
                intro j2 x2 x3 H locs ls w hk_j hn_j hP hD hS hO hl
                refine lv_iload hx hb dX10_addSign_121 (lv_at hl 0 rfl) ?_
                refine va_ldcS (q := G.2.2.1 16) hx hb hown (hE.2.2.1 16 (by decide)) dX10_addSign_123 ?_
                refine pc_VN (G := G) (As := []) (rest := [.int (nI j2)]) hx hb hml hown hq hE hX pX0_al hP hS hA hl.1 (c_length l G 16 (by decide)) (gV pw_1235 pw_1236 pw_1237 pw_1214 pw_1209) hV_J0_length_8abf5 (vk_recv hE.2.1 (by decide) hS) rfl (Nat.le_of_ble_eq_true rfl) dX10_addSign_125 ⟨Nat.le_of_ble_eq_true rfl, Nat.le_of_ble_eq_true rfl⟩ ⟨Nat.le_of_ble_eq_true rfl, Nat.le_of_ble_eq_true rfl⟩ (fun v120 u118 H locs hw119 hP hS => ?_)
                obtain rfl : v120 = some (.int (nI 24)) := hw119.trans (by rw [show sLen.getD 16 0 = 24 by decide +kernel])
                refine W.widen (k := 0) (n := 0) (Nat.le_of_ble_eq_true rfl) (Nat.le_of_ble_eq_true rfl) ?_
                refine W.eq (g2 := F0 m 128 ls [.int (nI 24), .int (nI j2)]) rfl ?_
                refine lv_icmp_ge (tgt := 163) hx hb dX10_addSign_128 (by decide) (fun c121 => ?_) (fun c121 => ?_)
                · have n122 : 24 ≤ j2 := (nI_leI (a := 24) (b := j2) (by omega) (by omega)).mp c121
                  refine lv_aload_n hx hb dX10_addSign_163 rfl (lv_at hl 4 rfl) ?_
                  refine lv_bipush (v := 68) hx hb dX10_addSign_164 (by decide) ?_
                  refine lv_iload_n hx hb dX10_addSign_166 rfl (lv_at hl 3 rfl) ?_
                  refine lv_iconst (v := 0) hx hb dX10_addSign_167 (by decide) ?_
                  refine lv_iload_n hx hb dX10_addSign_168 rfl (lv_at hl 3 rfl) ?_
                  have hO : OKW G h0 a (upd (upd (upd F 1 (nI ln)) 2 (nI sz)) 2 (nI sz)) R Z B J T Pi w := hO.to rfl
                  obtain ⟨_, qr126, hqr127⟩ := hO.2.1 2 _ (sg_2 G h0 a _ _ _ _ _)
                  refine pc_V0 (G := G) (As := [.int 68, .int (nI at9), .int 0, .int (nI at9)]) (rest := []) hx hb hml hown hq hE hX pX0_al hP hD hS hA hl.1 (K_add l G h0 a (upd (upd F 1 (nI ln)) 2 (nI sz)) R Z B J T Pi w 68 (nI at9) 0 (nI at9) sz (by omega) hO) (gV pw_1272 pw_1273 pw_1274 pw_59 pw_1271) hV_X10_add qr126 7 hqr127 rfl rfl rfl (Nat.le_of_ble_eq_true rfl) dX10_addSign_169 ⟨Nat.le_of_ble_eq_true rfl, Nat.le_of_ble_eq_true rfl⟩ ⟨Nat.le_of_ble_eq_true rfl, Nat.le_of_ble_eq_true rfl⟩ (fun v125 u123 H locs hw124 hP hD hS => ?_)
                  obtain ⟨w, sz128, f129, f130, f131, f132, f133⟩ := u123
                  obtain ⟨hw124, h134, h135, hO⟩ := hw124
                  have h134 : sz128 ≤ 5000 := h134
                  have h135 : sz128 ≤ sz + 1 := h135
                  obtain rfl : v125 = some (.int (nI at9)) := hw124
                  have hO : OKW G h0 a (upd (upd F 1 (nI ln)) 2 (nI sz128)) R Z (updA (updA (updA (updA (updA B 7 f129) 8 f130) 9 f131) 10 f132) 11 f133) J T Pi w := hO.to rfl
                  refine W.widen (k := 0) (n := 0) (Nat.le_of_ble_eq_true rfl) (Nat.le_of_ble_eq_true rfl) ?_
                  refine W.eq (g2 := F0 m 172 ls [.int (nI at9)]) rfl ?_
                  have hz136 : sz128 ≤ 5000 := (by omega)
                  have hz137 : sz128 ≤ sz + 1 := (by omega)
                  have hO : OKW G h0 a (upd (upd F 1 (nI ln)) 2 (nI sz128)) R Z (updA (updA (updA (updA (updA B 7 f129) 8 f130) 9 f131) 10 f132) 11 f133) J T Pi w := hO.to rfl
                  exact W.iret (v := (nI at9)) hx hb hr (fun t99 ht99 hW99 => ⟨⟨_, (w, (sz128, f129, f130, f131, f132, f133, (nI at9))), rfl, ⟨rfl, hz136, hz137, hO⟩, by rw [ht99]; exact hP, hD⟩, hS.F ht99⟩) hS.2.2 dX10_addSign_172
                · have n138 : ¬ (24 ≤ j2) := fun h9 => c121 ((nI_leI (a := 24) (b := j2) (by omega) (by omega)).mpr h9)
                  refine va_ldcS (q := G.2.2.1 16) hx hb hown (hE.2.2.1 16 (by decide)) dX10_addSign_131 ?_
                  refine lv_iload hx hb dX10_addSign_133 (lv_at hl 0 rfl) ?_
                  refine pc_VN (G := G) (As := [.int (nI j2)]) (rest := []) hx hb hml hown hq hE hX pX0_al hP hS hA hl.1 (c_charAtX l G 16 j2 (by decide) (by rw [show sLen.getD 16 0 = 24 by decide +kernel]; omega)) (gV pw_1238 pw_1239 pw_1240 pw_1214 pw_1233) hV_J0_charAt_5068e (vk_recv hE.2.1 (by decide) hS) rfl (Nat.le_of_ble_eq_true rfl) dX10_addSign_135 ⟨Nat.le_of_ble_eq_true rfl, Nat.le_of_ble_eq_true rfl⟩ ⟨Nat.le_of_ble_eq_true rfl, Nat.le_of_ble_eq_true rfl⟩ (fun v141 u139 H locs hw140 hP hS => ?_)
                  obtain rfl : v141 = some (.int (sCh 16 j2)) := hw140
                  refine W.widen (k := 0) (n := 0) (Nat.le_of_ble_eq_true rfl) (Nat.le_of_ble_eq_true rfl) ?_
                  refine W.eq (g2 := F0 m 138 ls [.int (sCh 16 j2)]) rfl ?_
                  refine lv_topi (fun x142 e143 => ?_)
                  refine lv_iload_n hx hb dX10_addSign_138 rfl (lv_at hl 2 rfl) ?_
                  refine lv_icmp_ne (tgt := 157) hx hb dX10_addSign_139 (by decide) (fun c144 => ?_) (fun c144 => ?_)
                  · refine lv_iinc (v := (nI (j2 + 1))) (lv' := [(4, .int (nI (j2 + 1))), (3, .int x3), (2, .int x2), (1, .int (nI at9)), (0, .ref (a 1))]) hx hb dX10_addSign_157 hl (k := 0) rfl (nI_1 j2) (by decide) rfl (fun ls hl => ?_)
                    refine lv_goto (tgt := 121) hx hb dX10_addSign_160 (by decide) ?_
                    have hO : OKW G h0 a (upd (upd F 1 (nI ln)) 2 (nI sz)) R Z B J T Pi w := hO.to rfl
                    exact ih_j (j2 + 1) x2 x3 _ _ _ _ (by omega) (by omega) hP hD hS hO (lv_sub hl [0, 1, 2, 3, 4] rfl)
                  · refine lv_aload_n hx hb dX10_addSign_142 rfl (lv_at hl 4 rfl) ?_
                    refine lv_bipush (v := 32) hx hb dX10_addSign_143 (by decide) ?_
                    refine lv_iload hx hb dX10_addSign_145 (lv_at hl 0 rfl) ?_
                    refine lv_iadd hx hb dX10_addSign_147 ?_
                    refine lv_topi (fun x145 e146 => ?_)
                    obtain rfl : x145 = nI (32 + j2) := e146.trans (nI_add (32) (j2))
                    refine lv_iload_n hx hb dX10_addSign_148 rfl (lv_at hl 3 rfl) ?_
                    refine lv_iconst (v := 0) hx hb dX10_addSign_149 (by decide) ?_
                    refine lv_iload_n hx hb dX10_addSign_150 rfl (lv_at hl 3 rfl) ?_
                    refine lv_iconst (v := 1) hx hb dX10_addSign_151 (by decide) ?_
                    refine lv_iadd hx hb dX10_addSign_152 ?_
                    refine lv_topi (fun x147 e148 => ?_)
                    obtain rfl : x147 = nI (at9 + 1) := e148.trans (nI_add (at9) (1))
                    have hO : OKW G h0 a (upd (upd (upd F 1 (nI ln)) 2 (nI sz)) 2 (nI sz)) R Z B J T Pi w := hO.to rfl
                    obtain ⟨_, qr152, hqr153⟩ := hO.2.1 2 _ (sg_2 G h0 a _ _ _ _ _)
                    refine pc_V0 (G := G) (As := [.int (nI (32 + j2)), .int (nI at9), .int 0, .int (nI (at9 + 1))]) (rest := []) hx hb hml hown hq hE hX pX0_al hP hD hS hA hl.1 (K_add l G h0 a (upd (upd F 1 (nI ln)) 2 (nI sz)) R Z B J T Pi w (nI (32 + j2)) (nI at9) 0 (nI (at9 + 1)) sz (by omega) hO) (gV pw_1272 pw_1273 pw_1274 pw_59 pw_1271) hV_X10_add qr152 7 hqr153 rfl rfl rfl (Nat.le_of_ble_eq_true rfl) dX10_addSign_153 ⟨Nat.le_of_ble_eq_true rfl, Nat.le_of_ble_eq_true rfl⟩ ⟨Nat.le_of_ble_eq_true rfl, Nat.le_of_ble_eq_true rfl⟩ (fun v151 u149 H locs hw150 hP hD hS => ?_)
                    obtain ⟨w, sz154, f155, f156, f157, f158, f159⟩ := u149
                    obtain ⟨hw150, h160, h161, hO⟩ := hw150
                    have h160 : sz154 ≤ 5000 := h160
                    have h161 : sz154 ≤ sz + 1 := h161
                    obtain rfl : v151 = some (.int (nI (at9 + 1))) := hw150
                    have hO : OKW G h0 a (upd (upd F 1 (nI ln)) 2 (nI sz154)) R Z (updA (updA (updA (updA (updA B 7 f155) 8 f156) 9 f157) 10 f158) 11 f159) J T Pi w := hO.to rfl
                    refine W.widen (k := 0) (n := 0) (Nat.le_of_ble_eq_true rfl) (Nat.le_of_ble_eq_true rfl) ?_
                    refine W.eq (g2 := F0 m 156 ls [.int (nI (at9 + 1))]) rfl ?_
                    have hz162 : sz154 ≤ 5000 := (by omega)
                    have hz163 : sz154 ≤ sz + 1 := (by omega)
                    have hO : OKW G h0 a (upd (upd F 1 (nI ln)) 2 (nI sz154)) R Z (updA (updA (updA (updA (updA B 7 f155) 8 f156) 9 f157) 10 f158) 11 f159) J T Pi w := hO.to rfl
                    exact W.iret (v := (nI (at9 + 1))) hx hb hr (fun t99 ht99 hW99 => ⟨⟨_, (w, (sz154, f155, f156, f157, f158, f159, (nI (at9 + 1)))), rfl, ⟨rfl, hz162, hz163, hO⟩, by rw [ht99]; exact hP, hD⟩, hS.F ht99⟩) hS.2.2 dX10_addSign_156
            have hO : OKW G h0 a (upd (upd F 1 (nI ln)) 2 (nI sz)) R Z B J T Pi w := hO.to rfl
            exact loop_j (24 + 1) 0 x2 x3 _ _ _ _ (by omega) (by omega) hP hD hS hO (lv_sub hl [0, 1, 2, 3, 4] rfl)
          · have n164 : ¬ (16 ≤ (e2 + 1)) := fun h9 => c116 ((nI_leI (a := 16) (b := (e2 + 1)) (by omega) (by omega)).mpr h9)
            refine va_ldcS (q := G.2.2.1 15) hx hb hown (hE.2.2.1 15 (by decide)) dX10_addSign_65 ?_
            refine lv_iload hx hb dX10_addSign_67 (lv_at hl 0 rfl) ?_
            refine pc_VN (G := G) (As := [.int (nI e2)]) (rest := []) hx hb hml hown hq hE hX pX0_al hP hS hA hl.1 (c_charAtX l G 15 e2 (by decide) (by rw [show sLen.getD 15 0 = 16 by decide +kernel]; omega)) (gV pw_1238 pw_1239 pw_1240 pw_1214 pw_1233) hV_J0_charAt_5068e (vk_recv hE.2.1 (by decide) hS) rfl (Nat.le_of_ble_eq_true rfl) dX10_addSign_69 ⟨Nat.le_of_ble_eq_true rfl, Nat.le_of_ble_eq_true rfl⟩ ⟨Nat.le_of_ble_eq_true rfl, Nat.le_of_ble_eq_true rfl⟩ (fun v167 u165 H locs hw166 hP hS => ?_)
            obtain rfl : v167 = some (.int (sCh 15 e2)) := hw166
            refine W.widen (k := 0) (n := 0) (Nat.le_of_ble_eq_true rfl) (Nat.le_of_ble_eq_true rfl) ?_
            refine W.eq (g2 := F0 m 72 ls [.int (sCh 15 e2)]) rfl ?_
            refine lv_topi (fun x168 e169 => ?_)
            refine lv_iload_n hx hb dX10_addSign_72 rfl (lv_at hl 2 rfl) ?_
            refine lv_icmp_ne (tgt := 112) hx hb dX10_addSign_73 (by decide) (fun c170 => ?_) (fun c170 => ?_)
            · refine lv_iinc (v := (nI (e2 + 2))) (lv' := [(4, .int (nI (e2 + 2))), (3, .int x3), (2, .int x2), (1, .int (nI at9)), (0, .ref (a 1))]) hx hb dX10_addSign_112 hl (k := 0) rfl (nI_add _ 2) (by decide) rfl (fun ls hl => ?_)
              refine lv_goto (tgt := 53) hx hb dX10_addSign_115 (by decide) ?_
              have hO : OKW G h0 a (upd (upd F 1 (nI ln)) 2 (nI sz)) R Z B J T Pi w := hO.to rfl
              exact ih_i (i2 + 1) x2 x3 (e2 + 2) _ _ _ _ (by omega) (by omega) (by omega) hP hD hS hO (lv_sub hl [0, 1, 2, 3, 4] rfl)
            · refine va_ldcS (q := G.2.2.1 15) hx hb hown (hE.2.2.1 15 (by decide)) dX10_addSign_76 ?_
              refine lv_iload hx hb dX10_addSign_78 (lv_at hl 0 rfl) ?_
              refine lv_iconst (v := 1) hx hb dX10_addSign_80 (by decide) ?_
              refine lv_iadd hx hb dX10_addSign_81 ?_
              refine lv_topi (fun x171 e172 => ?_)
              obtain rfl : x171 = nI (e2 + 1) := e172.trans (nI_add (e2) (1))
              refine pc_VN (G := G) (As := [.int (nI (e2 + 1))]) (rest := []) hx hb hml hown hq hE hX pX0_al hP hS hA hl.1 (c_charAtX l G 15 (e2 + 1) (by decide) (by rw [show sLen.getD 15 0 = 16 by decide +kernel]; omega)) (gV pw_1238 pw_1239 pw_1240 pw_1214 pw_1233) hV_J0_charAt_5068e (vk_recv hE.2.1 (by decide) hS) rfl (Nat.le_of_ble_eq_true rfl) dX10_addSign_82 ⟨Nat.le_of_ble_eq_true rfl, Nat.le_of_ble_eq_true rfl⟩ ⟨Nat.le_of_ble_eq_true rfl, Nat.le_of_ble_eq_true rfl⟩ (fun v175 u173 H locs hw174 hP hS => ?_)
              obtain rfl : v175 = some (.int (sCh 15 (e2 + 1))) := hw174
              refine W.widen (k := 0) (n := 0) (Nat.le_of_ble_eq_true rfl) (Nat.le_of_ble_eq_true rfl) ?_
              refine W.eq (g2 := F0 m 85 ls [.int (sCh 15 (e2 + 1))]) rfl ?_
              refine lv_topi (fun x176 e177 => ?_)
              refine lv_iload_n hx hb dX10_addSign_85 rfl (lv_at hl 1 rfl) ?_
              refine lv_icmp_ne (tgt := 112) hx hb dX10_addSign_86 (by decide) (fun c178 => ?_) (fun c178 => ?_)
              · refine lv_iinc (v := (nI (e2 + 2))) (lv' := [(4, .int (nI (e2 + 2))), (3, .int x3), (2, .int x2), (1, .int (nI at9)), (0, .ref (a 1))]) hx hb dX10_addSign_112 hl (k := 0) rfl (nI_add _ 2) (by decide) rfl (fun ls hl => ?_)
                refine lv_goto (tgt := 53) hx hb dX10_addSign_115 (by decide) ?_
                have hO : OKW G h0 a (upd (upd F 1 (nI ln)) 2 (nI sz)) R Z B J T Pi w := hO.to rfl
                exact ih_i (i2 + 1) x2 x3 (e2 + 2) _ _ _ _ (by omega) (by omega) (by omega) hP hD hS hO (lv_sub hl [0, 1, 2, 3, 4] rfl)
              · refine lv_aload_n hx hb dX10_addSign_89 rfl (lv_at hl 4 rfl) ?_
                refine lv_bipush (v := 32) hx hb dX10_addSign_90 (by decide) ?_
                refine va_ldcS (q := G.2.2.1 16) hx hb hown (hE.2.2.1 16 (by decide)) dX10_addSign_92 ?_
                refine pc_VN (G := G) (As := []) (rest := [.int 32, .ref (a 1)]) hx hb hml hown hq hE hX pX0_al hP hS hA hl.1 (c_length l G 16 (by decide)) (gV pw_1235 pw_1236 pw_1237 pw_1214 pw_1209) hV_J0_length_8abf5 (vk_recv hE.2.1 (by decide) hS) rfl (Nat.le_of_ble_eq_true rfl) dX10_addSign_94 ⟨Nat.le_of_ble_eq_true rfl, Nat.le_of_ble_eq_true rfl⟩ ⟨Nat.le_of_ble_eq_true rfl, Nat.le_of_ble_eq_true rfl⟩ (fun v181 u179 H locs hw180 hP hS => ?_)
                obtain rfl : v181 = some (.int (nI 24)) := hw180.trans (by rw [show sLen.getD 16 0 = 24 by decide +kernel])
                refine W.widen (k := 0) (n := 0) (Nat.le_of_ble_eq_true rfl) (Nat.le_of_ble_eq_true rfl) ?_
                refine W.eq (g2 := F0 m 97 ls [.int (nI 24), .int 32, .ref (a 1)]) rfl ?_
                refine lv_iadd hx hb dX10_addSign_97 ?_
                refine lv_topi (fun x182 e183 => ?_)
                obtain rfl : x182 = nI (32 + 24) := e183.trans (nI_add (32) (24))
                refine lv_iload hx hb dX10_addSign_98 (lv_at hl 0 rfl) ?_
                refine lv_iconst (v := 2) hx hb dX10_addSign_100 (by decide) ?_
                refine lv_idiv hx hb dX10_addSign_101 (by decide) ?_
                refine lv_topi (fun x184 e185 => ?_)
                refine lv_iadd hx hb dX10_addSign_102 ?_
                refine lv_topi (fun x186 e187 => ?_)
                refine lv_iload_n hx hb dX10_addSign_103 rfl (lv_at hl 3 rfl) ?_
                refine lv_iconst (v := 0) hx hb dX10_addSign_104 (by decide) ?_
                refine lv_iload_n hx hb dX10_addSign_105 rfl (lv_at hl 3 rfl) ?_
                refine lv_iconst (v := 2) hx hb dX10_addSign_106 (by decide) ?_
                refine lv_iadd hx hb dX10_addSign_107 ?_
                refine lv_topi (fun x188 e189 => ?_)
                obtain rfl : x188 = nI (at9 + 2) := e189.trans (nI_add (at9) (2))
                have hO : OKW G h0 a (upd (upd (upd F 1 (nI ln)) 2 (nI sz)) 2 (nI sz)) R Z B J T Pi w := hO.to rfl
                obtain ⟨_, qr193, hqr194⟩ := hO.2.1 2 _ (sg_2 G h0 a _ _ _ _ _)
                refine pc_V0 (G := G) (As := [.int x186, .int (nI at9), .int 0, .int (nI (at9 + 2))]) (rest := []) hx hb hml hown hq hE hX pX0_al hP hD hS hA hl.1 (K_add l G h0 a (upd (upd F 1 (nI ln)) 2 (nI sz)) R Z B J T Pi w x186 (nI at9) 0 (nI (at9 + 2)) sz (by omega) hO) (gV pw_1272 pw_1273 pw_1274 pw_59 pw_1271) hV_X10_add qr193 7 hqr194 rfl rfl rfl (Nat.le_of_ble_eq_true rfl) dX10_addSign_108 ⟨Nat.le_of_ble_eq_true rfl, Nat.le_of_ble_eq_true rfl⟩ ⟨Nat.le_of_ble_eq_true rfl, Nat.le_of_ble_eq_true rfl⟩ (fun v192 u190 H locs hw191 hP hD hS => ?_)
                obtain ⟨w, sz195, f196, f197, f198, f199, f200⟩ := u190
                obtain ⟨hw191, h201, h202, hO⟩ := hw191
                have h201 : sz195 ≤ 5000 := h201
                have h202 : sz195 ≤ sz + 1 := h202
                obtain rfl : v192 = some (.int (nI (at9 + 2))) := hw191
                have hO : OKW G h0 a (upd (upd F 1 (nI ln)) 2 (nI sz195)) R Z (updA (updA (updA (updA (updA B 7 f196) 8 f197) 9 f198) 10 f199) 11 f200) J T Pi w := hO.to rfl
                refine W.widen (k := 0) (n := 0) (Nat.le_of_ble_eq_true rfl) (Nat.le_of_ble_eq_true rfl) ?_
                refine W.eq (g2 := F0 m 111 ls [.int (nI (at9 + 2))]) rfl ?_
                have hz203 : sz195 ≤ 5000 := (by omega)
                have hz204 : sz195 ≤ sz + 1 := (by omega)
                have hO : OKW G h0 a (upd (upd F 1 (nI ln)) 2 (nI sz195)) R Z (updA (updA (updA (updA (updA B 7 f196) 8 f197) 9 f198) 10 f199) 11 f200) J T Pi w := hO.to rfl
                exact W.iret (v := (nI (at9 + 2))) hx hb hr (fun t99 ht99 hW99 => ⟨⟨_, (w, (sz195, f196, f197, f198, f199, f200, (nI (at9 + 2)))), rfl, ⟨rfl, hz203, hz204, hO⟩, by rw [ht99]; exact hP, hD⟩, hS.F ht99⟩) hS.2.2 dX10_addSign_111
      have hO : OKW G h0 a (upd (upd F 1 (nI ln)) 2 (nI sz)) R Z B J T Pi w := hO.to rfl
      exact loop_i (8 + 1) 0 r6 r14 0 _ _ _ _ (by omega) (by omega) (by omega) hP hD hS hO (lv_sub hl [0, 1, 2, 4, 3] rfl)
    · refine lv_aload_n hx hb dX10_addSign_26 rfl (lv_at hl 2 rfl) ?_
      refine lv_iload_n hx hb dX10_addSign_27 rfl (lv_at hl 3 rfl) ?_
      refine lv_iconst (v := 2) hx hb dX10_addSign_28 (by decide) ?_
      refine lv_iadd hx hb dX10_addSign_29 ?_
      refine lv_topi (fun x205 e206 => ?_)
      obtain rfl : x205 = nI (at9 + 2) := e206.trans (nI_add (at9) (2))
      have hO : OKW G h0 a (upd (upd (upd F 1 (nI ln)) 2 (nI sz)) 1 (nI ln)) R Z B J T Pi w := hO.to rfl
      obtain ⟨_, qr210, hqr211⟩ := hO.2.1 2 _ (sg_2 G h0 a _ _ _ _ _)
      refine pc_V0 (G := G) (As := [.int (nI (at9 + 2))]) (rest := []) hx hb hml hown hq hE hX pX0_al hP hD hS hA hl.1 (K_byteAt l G h0 a (upd (upd F 1 (nI ln)) 2 (nI sz)) R Z B J T Pi w (nI (at9 + 2)) ln (by omega) hO) (gV pw_1266 pw_1267 pw_1268 pw_59 pw_1264) hV_X10_byteAt qr210 7 hqr211 rfl rfl rfl (Nat.le_of_ble_eq_true rfl) dX10_addSign_30 ⟨Nat.le_of_ble_eq_true rfl, Nat.le_of_ble_eq_true rfl⟩ ⟨Nat.le_of_ble_eq_true rfl, Nat.le_of_ble_eq_true rfl⟩ (fun v209 u207 H locs hw208 hP hD hS => ?_)
      obtain ⟨w, r212⟩ := u207
      obtain ⟨hw208, hO⟩ := hw208
      obtain rfl : v209 = some (.int r212) := hw208
      have hO : OKW G h0 a (upd (upd F 1 (nI ln)) 2 (nI sz)) R Z B J T Pi w := hO.to rfl
      refine W.widen (k := 0) (n := 0) (Nat.le_of_ble_eq_true rfl) (Nat.le_of_ble_eq_true rfl) ?_
      refine W.eq (g2 := F0 m 33 ls [.int r212]) rfl ?_
      refine lv_bipush (v := 62) hx hb dX10_addSign_33 (by decide) ?_
      refine lv_icmp_ne (tgt := 50) hx hb dX10_addSign_35 (by decide) (fun c213 => ?_) (fun c213 => ?_)
      · refine lv_iconst (v := 0) hx hb dX10_addSign_50 (by decide) ?_
        refine lv_istore (lv' := [(4, .int 0), (3, .int r14), (2, .int r6), (0, .ref (a 1)), (1, .int (nI at9))]) hx hb dX10_addSign_51 hl (by decide) rfl (fun ls hl => ?_)
        have loop_i : ∀ (n_i : Nat) (i2 : Nat) (x2 : Int32) (x3 : Int32) (e2 : Nat) (H : Heap) (locs : List Loc) (ls : Array Slot) (w : va_W), i2 ≤ 8 → 8 + 1 ≤ i2 + n_i → (e2 = 2 * i2) → va_P G.1 pCl w H → va_D A w → va_S A s.heap H locs → OKW G h0 a (upd (upd F 1 (nI ln)) 2 (nI sz)) R Z B J T Pi w → lv_has ls 5 [(4, .int (nI e2)), (3, .int x3), (2, .int x2), (1, .int (nI at9)), (0, .ref (a 1))] → W p l e (headSpec (Cond.code yX10_addSign cX10_addSign 5 (some .int) :: pw) ({ frames := 6, cells := 0, slots := 0, locals := 145 } : Room)).room s m ([.ref (a 1), .int (nI at9)] : List Value).toArray below meth c H locs 0 0 (MQ below (pQ G A (fun (v : Option Value) (u : va_W × (Nat × (Nat → Int32) × (Nat → Int32) × (Nat → Int32) × (Nat → Int32) × (Nat → Int32) × Int32)) => v = some (.int u.2.2.2.2.2.2.2) ∧ (u.2.1 ≤ 5000) ∧ (u.2.1 ≤ sz + 1) ∧ (OKW G h0 a (upd (upd F 1 (nI ln)) 2 (nI u.2.1)) R Z (updA (updA (updA (updA (updA B 7 u.2.2.1) 8 u.2.2.2.1) 9 u.2.2.2.2.1) 10 u.2.2.2.2.2.1) 11 u.2.2.2.2.2.2.1) J T Pi u.1)) (fun u => u.1)) ([.ref (a 1), .int (nI at9)] : List Value).toArray s ({ frames := 6, cells := 0, slots := 0, locals := 145 } : Room).cells ({ frames := 6, cells := 0, slots := 0, locals := 145 } : Room).slots A) (F0 m 53 ls []) := by
          intro n_i
          induction n_i with
          | zero => intro i2 x2 x3 e2 H locs ls w hk_i hn_i; omega
          | succ n_i ih_i =>
            intro i2 x2 x3 e2 H locs ls w hk_i hn_i he2 hP hD hS hO hl
            refine lv_iload hx hb dX10_addSign_53 (lv_at hl 0 rfl) ?_
            refine lv_iconst (v := 1) hx hb dX10_addSign_55 (by decide) ?_
            refine lv_iadd hx hb dX10_addSign_56 ?_
            refine lv_topi (fun x214 e215 => ?_)
            obtain rfl : x214 = nI (e2 + 1) := e215.trans (nI_add (e2) (1))
            refine va_ldcS (q := G.2.2.1 15) hx hb hown (hE.2.2.1 15 (by decide)) dX10_addSign_57 ?_
            refine pc_VN (G := G) (As := []) (rest := [.int (nI (e2 + 1))]) hx hb hml hown hq hE hX pX0_al hP hS hA hl.1 (c_length l G 15 (by decide)) (gV pw_1235 pw_1236 pw_1237 pw_1214 pw_1209) hV_J0_length_8abf5 (vk_recv hE.2.1 (by decide) hS) rfl (Nat.le_of_ble_eq_true rfl) dX10_addSign_59 ⟨Nat.le_of_ble_eq_true rfl, Nat.le_of_ble_eq_true rfl⟩ ⟨Nat.le_of_ble_eq_true rfl, Nat.le_of_ble_eq_true rfl⟩ (fun v218 u216 H locs hw217 hP hS => ?_)
            obtain rfl : v218 = some (.int (nI 16)) := hw217.trans (by rw [show sLen.getD 15 0 = 16 by decide +kernel])
            refine W.widen (k := 0) (n := 0) (Nat.le_of_ble_eq_true rfl) (Nat.le_of_ble_eq_true rfl) ?_
            refine W.eq (g2 := F0 m 62 ls [.int (nI 16), .int (nI (e2 + 1))]) rfl ?_
            refine lv_icmp_ge (tgt := 118) hx hb dX10_addSign_62 (by decide) (fun c219 => ?_) (fun c219 => ?_)
            · have n220 : 16 ≤ (e2 + 1) := (nI_leI (a := 16) (b := (e2 + 1)) (by omega) (by omega)).mp c219
              refine lv_iconst (v := 0) hx hb dX10_addSign_118 (by decide) ?_
              refine lv_istore (lv' := [(4, .int 0), (3, .int x3), (2, .int x2), (1, .int (nI at9)), (0, .ref (a 1))]) hx hb dX10_addSign_119 hl (by decide) rfl (fun ls hl => ?_)
              have loop_j : ∀ (n_j : Nat) (j2 : Nat) (x2 : Int32) (x3 : Int32) (H : Heap) (locs : List Loc) (ls : Array Slot) (w : va_W), j2 ≤ 24 → 24 + 1 ≤ j2 + n_j → va_P G.1 pCl w H → va_D A w → va_S A s.heap H locs → OKW G h0 a (upd (upd F 1 (nI ln)) 2 (nI sz)) R Z B J T Pi w → lv_has ls 5 [(4, .int (nI j2)), (3, .int x3), (2, .int x2), (1, .int (nI at9)), (0, .ref (a 1))] → W p l e (headSpec (Cond.code yX10_addSign cX10_addSign 5 (some .int) :: pw) ({ frames := 6, cells := 0, slots := 0, locals := 145 } : Room)).room s m ([.ref (a 1), .int (nI at9)] : List Value).toArray below meth c H locs 0 0 (MQ below (pQ G A (fun (v : Option Value) (u : va_W × (Nat × (Nat → Int32) × (Nat → Int32) × (Nat → Int32) × (Nat → Int32) × (Nat → Int32) × Int32)) => v = some (.int u.2.2.2.2.2.2.2) ∧ (u.2.1 ≤ 5000) ∧ (u.2.1 ≤ sz + 1) ∧ (OKW G h0 a (upd (upd F 1 (nI ln)) 2 (nI u.2.1)) R Z (updA (updA (updA (updA (updA B 7 u.2.2.1) 8 u.2.2.2.1) 9 u.2.2.2.2.1) 10 u.2.2.2.2.2.1) 11 u.2.2.2.2.2.2.1) J T Pi u.1)) (fun u => u.1)) ([.ref (a 1), .int (nI at9)] : List Value).toArray s ({ frames := 6, cells := 0, slots := 0, locals := 145 } : Room).cells ({ frames := 6, cells := 0, slots := 0, locals := 145 } : Room).slots A) (F0 m 121 ls []) := by
                intro n_j
                induction n_j with
                | zero => intro j2 x2 x3 H locs ls w hk_j hn_j; omega
                | succ n_j ih_j =>
                  intro j2 x2 x3 H locs ls w hk_j hn_j hP hD hS hO hl
                  refine lv_iload hx hb dX10_addSign_121 (lv_at hl 0 rfl) ?_
                  refine va_ldcS (q := G.2.2.1 16) hx hb hown (hE.2.2.1 16 (by decide)) dX10_addSign_123 ?_
                  refine pc_VN (G := G) (As := []) (rest := [.int (nI j2)]) hx hb hml hown hq hE hX pX0_al hP hS hA hl.1 (c_length l G 16 (by decide)) (gV pw_1235 pw_1236 pw_1237 pw_1214 pw_1209) hV_J0_length_8abf5 (vk_recv hE.2.1 (by decide) hS) rfl (Nat.le_of_ble_eq_true rfl) dX10_addSign_125 ⟨Nat.le_of_ble_eq_true rfl, Nat.le_of_ble_eq_true rfl⟩ ⟨Nat.le_of_ble_eq_true rfl, Nat.le_of_ble_eq_true rfl⟩ (fun v223 u221 H locs hw222 hP hS => ?_)
                  obtain rfl : v223 = some (.int (nI 24)) := hw222.trans (by rw [show sLen.getD 16 0 = 24 by decide +kernel])
                  refine W.widen (k := 0) (n := 0) (Nat.le_of_ble_eq_true rfl) (Nat.le_of_ble_eq_true rfl) ?_
                  refine W.eq (g2 := F0 m 128 ls [.int (nI 24), .int (nI j2)]) rfl ?_
                  refine lv_icmp_ge (tgt := 163) hx hb dX10_addSign_128 (by decide) (fun c224 => ?_) (fun c224 => ?_)
                  · have n225 : 24 ≤ j2 := (nI_leI (a := 24) (b := j2) (by omega) (by omega)).mp c224
                    refine lv_aload_n hx hb dX10_addSign_163 rfl (lv_at hl 4 rfl) ?_
                    refine lv_bipush (v := 68) hx hb dX10_addSign_164 (by decide) ?_
                    refine lv_iload_n hx hb dX10_addSign_166 rfl (lv_at hl 3 rfl) ?_
                    refine lv_iconst (v := 0) hx hb dX10_addSign_167 (by decide) ?_
                    refine lv_iload_n hx hb dX10_addSign_168 rfl (lv_at hl 3 rfl) ?_
                    have hO : OKW G h0 a (upd (upd (upd F 1 (nI ln)) 2 (nI sz)) 2 (nI sz)) R Z B J T Pi w := hO.to rfl
                    obtain ⟨_, qr229, hqr230⟩ := hO.2.1 2 _ (sg_2 G h0 a _ _ _ _ _)
                    refine pc_V0 (G := G) (As := [.int 68, .int (nI at9), .int 0, .int (nI at9)]) (rest := []) hx hb hml hown hq hE hX pX0_al hP hD hS hA hl.1 (K_add l G h0 a (upd (upd F 1 (nI ln)) 2 (nI sz)) R Z B J T Pi w 68 (nI at9) 0 (nI at9) sz (by omega) hO) (gV pw_1272 pw_1273 pw_1274 pw_59 pw_1271) hV_X10_add qr229 7 hqr230 rfl rfl rfl (Nat.le_of_ble_eq_true rfl) dX10_addSign_169 ⟨Nat.le_of_ble_eq_true rfl, Nat.le_of_ble_eq_true rfl⟩ ⟨Nat.le_of_ble_eq_true rfl, Nat.le_of_ble_eq_true rfl⟩ (fun v228 u226 H locs hw227 hP hD hS => ?_)
                    obtain ⟨w, sz231, f232, f233, f234, f235, f236⟩ := u226
                    obtain ⟨hw227, h237, h238, hO⟩ := hw227
                    have h237 : sz231 ≤ 5000 := h237
                    have h238 : sz231 ≤ sz + 1 := h238
                    obtain rfl : v228 = some (.int (nI at9)) := hw227
                    have hO : OKW G h0 a (upd (upd F 1 (nI ln)) 2 (nI sz231)) R Z (updA (updA (updA (updA (updA B 7 f232) 8 f233) 9 f234) 10 f235) 11 f236) J T Pi w := hO.to rfl
                    refine W.widen (k := 0) (n := 0) (Nat.le_of_ble_eq_true rfl) (Nat.le_of_ble_eq_true rfl) ?_
                    refine W.eq (g2 := F0 m 172 ls [.int (nI at9)]) rfl ?_
                    have hz239 : sz231 ≤ 5000 := (by omega)
                    have hz240 : sz231 ≤ sz + 1 := (by omega)
                    have hO : OKW G h0 a (upd (upd F 1 (nI ln)) 2 (nI sz231)) R Z (updA (updA (updA (updA (updA B 7 f232) 8 f233) 9 f234) 10 f235) 11 f236) J T Pi w := hO.to rfl
                    exact W.iret (v := (nI at9)) hx hb hr (fun t99 ht99 hW99 => ⟨⟨_, (w, (sz231, f232, f233, f234, f235, f236, (nI at9))), rfl, ⟨rfl, hz239, hz240, hO⟩, by rw [ht99]; exact hP, hD⟩, hS.F ht99⟩) hS.2.2 dX10_addSign_172
                  · have n241 : ¬ (24 ≤ j2) := fun h9 => c224 ((nI_leI (a := 24) (b := j2) (by omega) (by omega)).mpr h9)
                    refine va_ldcS (q := G.2.2.1 16) hx hb hown (hE.2.2.1 16 (by decide)) dX10_addSign_131 ?_
                    refine lv_iload hx hb dX10_addSign_133 (lv_at hl 0 rfl) ?_
                    refine pc_VN (G := G) (As := [.int (nI j2)]) (rest := []) hx hb hml hown hq hE hX pX0_al hP hS hA hl.1 (c_charAtX l G 16 j2 (by decide) (by rw [show sLen.getD 16 0 = 24 by decide +kernel]; omega)) (gV pw_1238 pw_1239 pw_1240 pw_1214 pw_1233) hV_J0_charAt_5068e (vk_recv hE.2.1 (by decide) hS) rfl (Nat.le_of_ble_eq_true rfl) dX10_addSign_135 ⟨Nat.le_of_ble_eq_true rfl, Nat.le_of_ble_eq_true rfl⟩ ⟨Nat.le_of_ble_eq_true rfl, Nat.le_of_ble_eq_true rfl⟩ (fun v244 u242 H locs hw243 hP hS => ?_)
                    obtain rfl : v244 = some (.int (sCh 16 j2)) := hw243
                    refine W.widen (k := 0) (n := 0) (Nat.le_of_ble_eq_true rfl) (Nat.le_of_ble_eq_true rfl) ?_
                    refine W.eq (g2 := F0 m 138 ls [.int (sCh 16 j2)]) rfl ?_
                    refine lv_topi (fun x245 e246 => ?_)
                    refine lv_iload_n hx hb dX10_addSign_138 rfl (lv_at hl 2 rfl) ?_
                    refine lv_icmp_ne (tgt := 157) hx hb dX10_addSign_139 (by decide) (fun c247 => ?_) (fun c247 => ?_)
                    · refine lv_iinc (v := (nI (j2 + 1))) (lv' := [(4, .int (nI (j2 + 1))), (3, .int x3), (2, .int x2), (1, .int (nI at9)), (0, .ref (a 1))]) hx hb dX10_addSign_157 hl (k := 0) rfl (nI_1 j2) (by decide) rfl (fun ls hl => ?_)
                      refine lv_goto (tgt := 121) hx hb dX10_addSign_160 (by decide) ?_
                      have hO : OKW G h0 a (upd (upd F 1 (nI ln)) 2 (nI sz)) R Z B J T Pi w := hO.to rfl
                      exact ih_j (j2 + 1) x2 x3 _ _ _ _ (by omega) (by omega) hP hD hS hO (lv_sub hl [0, 1, 2, 3, 4] rfl)
                    · refine lv_aload_n hx hb dX10_addSign_142 rfl (lv_at hl 4 rfl) ?_
                      refine lv_bipush (v := 32) hx hb dX10_addSign_143 (by decide) ?_
                      refine lv_iload hx hb dX10_addSign_145 (lv_at hl 0 rfl) ?_
                      refine lv_iadd hx hb dX10_addSign_147 ?_
                      refine lv_topi (fun x248 e249 => ?_)
                      obtain rfl : x248 = nI (32 + j2) := e249.trans (nI_add (32) (j2))
                      refine lv_iload_n hx hb dX10_addSign_148 rfl (lv_at hl 3 rfl) ?_
                      refine lv_iconst (v := 0) hx hb dX10_addSign_149 (by decide) ?_
                      refine lv_iload_n hx hb dX10_addSign_150 rfl (lv_at hl 3 rfl) ?_
                      refine lv_iconst (v := 1) hx hb dX10_addSign_151 (by decide) ?_
                      refine lv_iadd hx hb dX10_addSign_152 ?_
                      refine lv_topi (fun x250 e251 => ?_)
                      obtain rfl : x250 = nI (at9 + 1) := e251.trans (nI_add (at9) (1))
                      have hO : OKW G h0 a (upd (upd (upd F 1 (nI ln)) 2 (nI sz)) 2 (nI sz)) R Z B J T Pi w := hO.to rfl
                      obtain ⟨_, qr255, hqr256⟩ := hO.2.1 2 _ (sg_2 G h0 a _ _ _ _ _)
                      refine pc_V0 (G := G) (As := [.int (nI (32 + j2)), .int (nI at9), .int 0, .int (nI (at9 + 1))]) (rest := []) hx hb hml hown hq hE hX pX0_al hP hD hS hA hl.1 (K_add l G h0 a (upd (upd F 1 (nI ln)) 2 (nI sz)) R Z B J T Pi w (nI (32 + j2)) (nI at9) 0 (nI (at9 + 1)) sz (by omega) hO) (gV pw_1272 pw_1273 pw_1274 pw_59 pw_1271) hV_X10_add qr255 7 hqr256 rfl rfl rfl (Nat.le_of_ble_eq_true rfl) dX10_addSign_153 ⟨Nat.le_of_ble_eq_true rfl, Nat.le_of_ble_eq_true rfl⟩ ⟨Nat.le_of_ble_eq_true rfl, Nat.le_of_ble_eq_true rfl⟩ (fun v254 u252 H locs hw253 hP hD hS => ?_)
                      obtain ⟨w, sz257, f258, f259, f260, f261, f262⟩ := u252
                      obtain ⟨hw253, h263, h264, hO⟩ := hw253
                      have h263 : sz257 ≤ 5000 := h263
                      have h264 : sz257 ≤ sz + 1 := h264
                      obtain rfl : v254 = some (.int (nI (at9 + 1))) := hw253
                      have hO : OKW G h0 a (upd (upd F 1 (nI ln)) 2 (nI sz257)) R Z (updA (updA (updA (updA (updA B 7 f258) 8 f259) 9 f260) 10 f261) 11 f262) J T Pi w := hO.to rfl
                      refine W.widen (k := 0) (n := 0) (Nat.le_of_ble_eq_true rfl) (Nat.le_of_ble_eq_true rfl) ?_
                      refine W.eq (g2 := F0 m 156 ls [.int (nI (at9 + 1))]) rfl ?_
                      have hz265 : sz257 ≤ 5000 := (by omega)
                      have hz266 : sz257 ≤ sz + 1 := (by omega)
                      have hO : OKW G h0 a (upd (upd F 1 (nI ln)) 2 (nI sz257)) R Z (updA (updA (updA (updA (updA B 7 f258) 8 f259) 9 f260) 10 f261) 11 f262) J T Pi w := hO.to rfl
                      exact W.iret (v := (nI (at9 + 1))) hx hb hr (fun t99 ht99 hW99 => ⟨⟨_, (w, (sz257, f258, f259, f260, f261, f262, (nI (at9 + 1)))), rfl, ⟨rfl, hz265, hz266, hO⟩, by rw [ht99]; exact hP, hD⟩, hS.F ht99⟩) hS.2.2 dX10_addSign_156
              have hO : OKW G h0 a (upd (upd F 1 (nI ln)) 2 (nI sz)) R Z B J T Pi w := hO.to rfl
              exact loop_j (24 + 1) 0 x2 x3 _ _ _ _ (by omega) (by omega) hP hD hS hO (lv_sub hl [0, 1, 2, 3, 4] rfl)
            · have n267 : ¬ (16 ≤ (e2 + 1)) := fun h9 => c219 ((nI_leI (a := 16) (b := (e2 + 1)) (by omega) (by omega)).mpr h9)
              refine va_ldcS (q := G.2.2.1 15) hx hb hown (hE.2.2.1 15 (by decide)) dX10_addSign_65 ?_
              refine lv_iload hx hb dX10_addSign_67 (lv_at hl 0 rfl) ?_
              refine pc_VN (G := G) (As := [.int (nI e2)]) (rest := []) hx hb hml hown hq hE hX pX0_al hP hS hA hl.1 (c_charAtX l G 15 e2 (by decide) (by rw [show sLen.getD 15 0 = 16 by decide +kernel]; omega)) (gV pw_1238 pw_1239 pw_1240 pw_1214 pw_1233) hV_J0_charAt_5068e (vk_recv hE.2.1 (by decide) hS) rfl (Nat.le_of_ble_eq_true rfl) dX10_addSign_69 ⟨Nat.le_of_ble_eq_true rfl, Nat.le_of_ble_eq_true rfl⟩ ⟨Nat.le_of_ble_eq_true rfl, Nat.le_of_ble_eq_true rfl⟩ (fun v270 u268 H locs hw269 hP hS => ?_)
              obtain rfl : v270 = some (.int (sCh 15 e2)) := hw269
              refine W.widen (k := 0) (n := 0) (Nat.le_of_ble_eq_true rfl) (Nat.le_of_ble_eq_true rfl) ?_
              refine W.eq (g2 := F0 m 72 ls [.int (sCh 15 e2)]) rfl ?_
              refine lv_topi (fun x271 e272 => ?_)
              refine lv_iload_n hx hb dX10_addSign_72 rfl (lv_at hl 2 rfl) ?_
              refine lv_icmp_ne (tgt := 112) hx hb dX10_addSign_73 (by decide) (fun c273 => ?_) (fun c273 => ?_)
              · refine lv_iinc (v := (nI (e2 + 2))) (lv' := [(4, .int (nI (e2 + 2))), (3, .int x3), (2, .int x2), (1, .int (nI at9)), (0, .ref (a 1))]) hx hb dX10_addSign_112 hl (k := 0) rfl (nI_add _ 2) (by decide) rfl (fun ls hl => ?_)
                refine lv_goto (tgt := 53) hx hb dX10_addSign_115 (by decide) ?_
                have hO : OKW G h0 a (upd (upd F 1 (nI ln)) 2 (nI sz)) R Z B J T Pi w := hO.to rfl
                exact ih_i (i2 + 1) x2 x3 (e2 + 2) _ _ _ _ (by omega) (by omega) (by omega) hP hD hS hO (lv_sub hl [0, 1, 2, 3, 4] rfl)
              · refine va_ldcS (q := G.2.2.1 15) hx hb hown (hE.2.2.1 15 (by decide)) dX10_addSign_76 ?_
                refine lv_iload hx hb dX10_addSign_78 (lv_at hl 0 rfl) ?_
                refine lv_iconst (v := 1) hx hb dX10_addSign_80 (by decide) ?_
                refine lv_iadd hx hb dX10_addSign_81 ?_
                refine lv_topi (fun x274 e275 => ?_)
                obtain rfl : x274 = nI (e2 + 1) := e275.trans (nI_add (e2) (1))
                refine pc_VN (G := G) (As := [.int (nI (e2 + 1))]) (rest := []) hx hb hml hown hq hE hX pX0_al hP hS hA hl.1 (c_charAtX l G 15 (e2 + 1) (by decide) (by rw [show sLen.getD 15 0 = 16 by decide +kernel]; omega)) (gV pw_1238 pw_1239 pw_1240 pw_1214 pw_1233) hV_J0_charAt_5068e (vk_recv hE.2.1 (by decide) hS) rfl (Nat.le_of_ble_eq_true rfl) dX10_addSign_82 ⟨Nat.le_of_ble_eq_true rfl, Nat.le_of_ble_eq_true rfl⟩ ⟨Nat.le_of_ble_eq_true rfl, Nat.le_of_ble_eq_true rfl⟩ (fun v278 u276 H locs hw277 hP hS => ?_)
                obtain rfl : v278 = some (.int (sCh 15 (e2 + 1))) := hw277
                refine W.widen (k := 0) (n := 0) (Nat.le_of_ble_eq_true rfl) (Nat.le_of_ble_eq_true rfl) ?_
                refine W.eq (g2 := F0 m 85 ls [.int (sCh 15 (e2 + 1))]) rfl ?_
                refine lv_topi (fun x279 e280 => ?_)
                refine lv_iload_n hx hb dX10_addSign_85 rfl (lv_at hl 1 rfl) ?_
                refine lv_icmp_ne (tgt := 112) hx hb dX10_addSign_86 (by decide) (fun c281 => ?_) (fun c281 => ?_)
                · refine lv_iinc (v := (nI (e2 + 2))) (lv' := [(4, .int (nI (e2 + 2))), (3, .int x3), (2, .int x2), (1, .int (nI at9)), (0, .ref (a 1))]) hx hb dX10_addSign_112 hl (k := 0) rfl (nI_add _ 2) (by decide) rfl (fun ls hl => ?_)
                  refine lv_goto (tgt := 53) hx hb dX10_addSign_115 (by decide) ?_
                  have hO : OKW G h0 a (upd (upd F 1 (nI ln)) 2 (nI sz)) R Z B J T Pi w := hO.to rfl
                  exact ih_i (i2 + 1) x2 x3 (e2 + 2) _ _ _ _ (by omega) (by omega) (by omega) hP hD hS hO (lv_sub hl [0, 1, 2, 3, 4] rfl)
                · refine lv_aload_n hx hb dX10_addSign_89 rfl (lv_at hl 4 rfl) ?_
                  refine lv_bipush (v := 32) hx hb dX10_addSign_90 (by decide) ?_
                  refine va_ldcS (q := G.2.2.1 16) hx hb hown (hE.2.2.1 16 (by decide)) dX10_addSign_92 ?_
                  refine pc_VN (G := G) (As := []) (rest := [.int 32, .ref (a 1)]) hx hb hml hown hq hE hX pX0_al hP hS hA hl.1 (c_length l G 16 (by decide)) (gV pw_1235 pw_1236 pw_1237 pw_1214 pw_1209) hV_J0_length_8abf5 (vk_recv hE.2.1 (by decide) hS) rfl (Nat.le_of_ble_eq_true rfl) dX10_addSign_94 ⟨Nat.le_of_ble_eq_true rfl, Nat.le_of_ble_eq_true rfl⟩ ⟨Nat.le_of_ble_eq_true rfl, Nat.le_of_ble_eq_true rfl⟩ (fun v284 u282 H locs hw283 hP hS => ?_)
                  obtain rfl : v284 = some (.int (nI 24)) := hw283.trans (by rw [show sLen.getD 16 0 = 24 by decide +kernel])
                  refine W.widen (k := 0) (n := 0) (Nat.le_of_ble_eq_true rfl) (Nat.le_of_ble_eq_true rfl) ?_
                  refine W.eq (g2 := F0 m 97 ls [.int (nI 24), .int 32, .ref (a 1)]) rfl ?_
                  refine lv_iadd hx hb dX10_addSign_97 ?_
                  refine lv_topi (fun x285 e286 => ?_)
                  obtain rfl : x285 = nI (32 + 24) := e286.trans (nI_add (32) (24))
                  refine lv_iload hx hb dX10_addSign_98 (lv_at hl 0 rfl) ?_
                  refine lv_iconst (v := 2) hx hb dX10_addSign_100 (by decide) ?_
                  refine lv_idiv hx hb dX10_addSign_101 (by decide) ?_
                  refine lv_topi (fun x287 e288 => ?_)
                  refine lv_iadd hx hb dX10_addSign_102 ?_
                  refine lv_topi (fun x289 e290 => ?_)
                  refine lv_iload_n hx hb dX10_addSign_103 rfl (lv_at hl 3 rfl) ?_
                  refine lv_iconst (v := 0) hx hb dX10_addSign_104 (by decide) ?_
                  refine lv_iload_n hx hb dX10_addSign_105 rfl (lv_at hl 3 rfl) ?_
                  refine lv_iconst (v := 2) hx hb dX10_addSign_106 (by decide) ?_
                  refine lv_iadd hx hb dX10_addSign_107 ?_
                  refine lv_topi (fun x291 e292 => ?_)
                  obtain rfl : x291 = nI (at9 + 2) := e292.trans (nI_add (at9) (2))
                  have hO : OKW G h0 a (upd (upd (upd F 1 (nI ln)) 2 (nI sz)) 2 (nI sz)) R Z B J T Pi w := hO.to rfl
                  obtain ⟨_, qr296, hqr297⟩ := hO.2.1 2 _ (sg_2 G h0 a _ _ _ _ _)
                  refine pc_V0 (G := G) (As := [.int x289, .int (nI at9), .int 0, .int (nI (at9 + 2))]) (rest := []) hx hb hml hown hq hE hX pX0_al hP hD hS hA hl.1 (K_add l G h0 a (upd (upd F 1 (nI ln)) 2 (nI sz)) R Z B J T Pi w x289 (nI at9) 0 (nI (at9 + 2)) sz (by omega) hO) (gV pw_1272 pw_1273 pw_1274 pw_59 pw_1271) hV_X10_add qr296 7 hqr297 rfl rfl rfl (Nat.le_of_ble_eq_true rfl) dX10_addSign_108 ⟨Nat.le_of_ble_eq_true rfl, Nat.le_of_ble_eq_true rfl⟩ ⟨Nat.le_of_ble_eq_true rfl, Nat.le_of_ble_eq_true rfl⟩ (fun v295 u293 H locs hw294 hP hD hS => ?_)
                  obtain ⟨w, sz298, f299, f300, f301, f302, f303⟩ := u293
                  obtain ⟨hw294, h304, h305, hO⟩ := hw294
                  have h304 : sz298 ≤ 5000 := h304
                  have h305 : sz298 ≤ sz + 1 := h305
                  obtain rfl : v295 = some (.int (nI (at9 + 2))) := hw294
                  have hO : OKW G h0 a (upd (upd F 1 (nI ln)) 2 (nI sz298)) R Z (updA (updA (updA (updA (updA B 7 f299) 8 f300) 9 f301) 10 f302) 11 f303) J T Pi w := hO.to rfl
                  refine W.widen (k := 0) (n := 0) (Nat.le_of_ble_eq_true rfl) (Nat.le_of_ble_eq_true rfl) ?_
                  refine W.eq (g2 := F0 m 111 ls [.int (nI (at9 + 2))]) rfl ?_
                  have hz306 : sz298 ≤ 5000 := (by omega)
                  have hz307 : sz298 ≤ sz + 1 := (by omega)
                  have hO : OKW G h0 a (upd (upd F 1 (nI ln)) 2 (nI sz298)) R Z (updA (updA (updA (updA (updA B 7 f299) 8 f300) 9 f301) 10 f302) 11 f303) J T Pi w := hO.to rfl
                  exact W.iret (v := (nI (at9 + 2))) hx hb hr (fun t99 ht99 hW99 => ⟨⟨_, (w, (sz298, f299, f300, f301, f302, f303, (nI (at9 + 2)))), rfl, ⟨rfl, hz306, hz307, hO⟩, by rw [ht99]; exact hP, hD⟩, hS.F ht99⟩) hS.2.2 dX10_addSign_111
        have hO : OKW G h0 a (upd (upd F 1 (nI ln)) 2 (nI sz)) R Z B J T Pi w := hO.to rfl
        exact loop_i (8 + 1) 0 r6 r14 0 _ _ _ _ (by omega) (by omega) (by omega) hP hD hS hO (lv_sub hl [0, 1, 2, 4, 3] rfl)
      · refine lv_aload_n hx hb dX10_addSign_38 rfl (lv_at hl 2 rfl) ?_
        refine lv_bipush (v := 64) hx hb dX10_addSign_39 (by decide) ?_
        refine lv_iload_n hx hb dX10_addSign_41 rfl (lv_at hl 3 rfl) ?_
        refine lv_iconst (v := 0) hx hb dX10_addSign_42 (by decide) ?_
        refine lv_iload_n hx hb dX10_addSign_43 rfl (lv_at hl 3 rfl) ?_
        refine lv_iconst (v := 3) hx hb dX10_addSign_44 (by decide) ?_
        refine lv_iadd hx hb dX10_addSign_45 ?_
        refine lv_topi (fun x308 e309 => ?_)
        obtain rfl : x308 = nI (at9 + 3) := e309.trans (nI_add (at9) (3))
        have hO : OKW G h0 a (upd (upd (upd F 1 (nI ln)) 2 (nI sz)) 2 (nI sz)) R Z B J T Pi w := hO.to rfl
        obtain ⟨_, qr313, hqr314⟩ := hO.2.1 2 _ (sg_2 G h0 a _ _ _ _ _)
        refine pc_V0 (G := G) (As := [.int 64, .int (nI at9), .int 0, .int (nI (at9 + 3))]) (rest := []) hx hb hml hown hq hE hX pX0_al hP hD hS hA hl.1 (K_add l G h0 a (upd (upd F 1 (nI ln)) 2 (nI sz)) R Z B J T Pi w 64 (nI at9) 0 (nI (at9 + 3)) sz (by omega) hO) (gV pw_1272 pw_1273 pw_1274 pw_59 pw_1271) hV_X10_add qr313 7 hqr314 rfl rfl rfl (Nat.le_of_ble_eq_true rfl) dX10_addSign_46 ⟨Nat.le_of_ble_eq_true rfl, Nat.le_of_ble_eq_true rfl⟩ ⟨Nat.le_of_ble_eq_true rfl, Nat.le_of_ble_eq_true rfl⟩ (fun v312 u310 H locs hw311 hP hD hS => ?_)
        obtain ⟨w, sz315, f316, f317, f318, f319, f320⟩ := u310
        obtain ⟨hw311, h321, h322, hO⟩ := hw311
        have h321 : sz315 ≤ 5000 := h321
        have h322 : sz315 ≤ sz + 1 := h322
        obtain rfl : v312 = some (.int (nI (at9 + 3))) := hw311
        have hO : OKW G h0 a (upd (upd F 1 (nI ln)) 2 (nI sz315)) R Z (updA (updA (updA (updA (updA B 7 f316) 8 f317) 9 f318) 10 f319) 11 f320) J T Pi w := hO.to rfl
        refine W.widen (k := 0) (n := 0) (Nat.le_of_ble_eq_true rfl) (Nat.le_of_ble_eq_true rfl) ?_
        refine W.eq (g2 := F0 m 49 ls [.int (nI (at9 + 3))]) rfl ?_
        have hz323 : sz315 ≤ 5000 := (by omega)
        have hz324 : sz315 ≤ sz + 1 := (by omega)
        have hO : OKW G h0 a (upd (upd F 1 (nI ln)) 2 (nI sz315)) R Z (updA (updA (updA (updA (updA B 7 f316) 8 f317) 9 f318) 10 f319) 11 f320) J T Pi w := hO.to rfl
        exact W.iret (v := (nI (at9 + 3))) hx hb hr (fun t99 ht99 hW99 => ⟨⟨_, (w, (sz315, f316, f317, f318, f319, f320, (nI (at9 + 3)))), rfl, ⟨rfl, hz323, hz324, hO⟩, by rw [ht99]; exact hP, hD⟩, hS.F ht99⟩) hS.2.2 dX10_addSign_49
theorem dX10_addNumber_0 : decode cX10_addNumber 0 = .ok (.lconst 0, 1) := by decide +kernel
theorem dX10_addNumber_1 : decode cX10_addNumber 1 = .ok (.lstore_n 3, 1) := by decide +kernel
theorem dX10_addNumber_2 : decode cX10_addNumber 2 = .ok (.iload_n 2, 1) := by decide +kernel
theorem dX10_addNumber_3 : decode cX10_addNumber 3 = .ok (.iload_n 1, 1) := by decide +kernel
theorem dX10_addNumber_4 : decode cX10_addNumber 4 = .ok (.isub, 1) := by decide +kernel
theorem dX10_addNumber_5 : decode cX10_addNumber 5 = .ok (.bipush 10, 2) := by decide +kernel
theorem dX10_addNumber_7 : decode cX10_addNumber 7 = .ok (.if_icmp .gt 7, 3) := by decide +kernel
theorem dX10_addNumber_14 : decode cX10_addNumber 14 = .ok (.iconst 0, 1) := by decide +kernel
theorem dX10_addNumber_15 : decode cX10_addNumber 15 = .ok (.istore 5, 2) := by decide +kernel
theorem dX10_addNumber_17 : decode cX10_addNumber 17 = .ok (.iload_n 1, 1) := by decide +kernel
theorem dX10_addNumber_18 : decode cX10_addNumber 18 = .ok (.istore 6, 2) := by decide +kernel
theorem dX10_addNumber_20 : decode cX10_addNumber 20 = .ok (.iload 6, 2) := by decide +kernel
theorem dX10_addNumber_22 : decode cX10_addNumber 22 = .ok (.iload_n 2, 1) := by decide +kernel
theorem dX10_addNumber_23 : decode cX10_addNumber 23 = .ok (.if_icmp .ge 43, 3) := by decide +kernel
theorem dX10_addNumber_66 : decode cX10_addNumber 66 = .ok (.iload 5, 2) := by decide +kernel
theorem dX10_addNumber_68 : decode cX10_addNumber 68 = .ok (.ifCond .eq 11, 3) := by decide +kernel
theorem dX10_addNumber_79 : decode cX10_addNumber 79 = .ok (.aload_n 0, 1) := by decide +kernel
theorem dX10_addNumber_80 : decode cX10_addNumber 80 = .ok (.bipush 68, 2) := by decide +kernel
theorem dX10_addNumber_82 : decode cX10_addNumber 82 = .ok (.iload_n 1, 1) := by decide +kernel
theorem dX10_addNumber_83 : decode cX10_addNumber 83 = .ok (.iconst 0, 1) := by decide +kernel
theorem dX10_addNumber_84 : decode cX10_addNumber 84 = .ok (.iload_n 1, 1) := by decide +kernel
theorem dX10_addNumber_85 : decode cX10_addNumber 85 = .ok (.invokevirtual 128, 3) := by decide +kernel
theorem dX10_addNumber_88 : decode cX10_addNumber 88 = .ok (.ireturn, 1) := by decide +kernel
theorem dX10_addNumber_71 : decode cX10_addNumber 71 = .ok (.lload_n 3, 1) := by decide +kernel
theorem dX10_addNumber_72 : decode cX10_addNumber 72 = .ok (.ldc2_w 136, 3) := by decide +kernel
theorem dX10_addNumber_75 : decode cX10_addNumber 75 = .ok (.lcmp, 1) := by decide +kernel
theorem dX10_addNumber_76 : decode cX10_addNumber 76 = .ok (.ifCond .le 13, 3) := by decide +kernel
theorem dX10_addNumber_89 : decode cX10_addNumber 89 = .ok (.aload_n 0, 1) := by decide +kernel
theorem dX10_addNumber_90 : decode cX10_addNumber 90 = .ok (.bipush 66, 2) := by decide +kernel
theorem dX10_addNumber_92 : decode cX10_addNumber 92 = .ok (.iload_n 1, 1) := by decide +kernel
theorem dX10_addNumber_93 : decode cX10_addNumber 93 = .ok (.lload_n 3, 1) := by decide +kernel
theorem dX10_addNumber_94 : decode cX10_addNumber 94 = .ok (.l2i, 1) := by decide +kernel
theorem dX10_addNumber_95 : decode cX10_addNumber 95 = .ok (.iload_n 2, 1) := by decide +kernel
theorem dX10_addNumber_96 : decode cX10_addNumber 96 = .ok (.invokevirtual 128, 3) := by decide +kernel
theorem dX10_addNumber_99 : decode cX10_addNumber 99 = .ok (.ireturn, 1) := by decide +kernel
theorem dX10_addNumber_26 : decode cX10_addNumber 26 = .ok (.iload 5, 2) := by decide +kernel
theorem dX10_addNumber_28 : decode cX10_addNumber 28 = .ok (.ifCond .eq 38, 3) := by decide +kernel
theorem dX10_addNumber_31 : decode cX10_addNumber 31 = .ok (.aload_n 0, 1) := by decide +kernel
theorem dX10_addNumber_32 : decode cX10_addNumber 32 = .ok (.iload 6, 2) := by decide +kernel
theorem dX10_addNumber_34 : decode cX10_addNumber 34 = .ok (.invokevirtual 112, 3) := by decide +kernel
theorem dX10_addNumber_37 : decode cX10_addNumber 37 = .ok (.invokestatic 115, 3) := by decide +kernel
theorem dX10_addNumber_40 : decode cX10_addNumber 40 = .ok (.istore 5, 2) := by decide +kernel
theorem dX10_addNumber_42 : decode cX10_addNumber 42 = .ok (.lload_n 3, 1) := by decide +kernel
theorem dX10_addNumber_43 : decode cX10_addNumber 43 = .ok (.ldc2_w 132, 3) := by decide +kernel
theorem dX10_addNumber_46 : decode cX10_addNumber 46 = .ok (.lmul, 1) := by decide +kernel
theorem dX10_addNumber_47 : decode cX10_addNumber 47 = .ok (.aload_n 0, 1) := by decide +kernel
theorem dX10_addNumber_48 : decode cX10_addNumber 48 = .ok (.iload 6, 2) := by decide +kernel
theorem dX10_addNumber_50 : decode cX10_addNumber 50 = .ok (.invokevirtual 112, 3) := by decide +kernel
theorem dX10_addNumber_53 : decode cX10_addNumber 53 = .ok (.i2l, 1) := by decide +kernel
theorem dX10_addNumber_54 : decode cX10_addNumber 54 = .ok (.ladd, 1) := by decide +kernel
theorem dX10_addNumber_55 : decode cX10_addNumber 55 = .ok (.ldc2_w 134, 3) := by decide +kernel
theorem dX10_addNumber_58 : decode cX10_addNumber 58 = .ok (.lsub, 1) := by decide +kernel
theorem dX10_addNumber_59 : decode cX10_addNumber 59 = .ok (.lstore_n 3, 1) := by decide +kernel
theorem dX10_addNumber_60 : decode cX10_addNumber 60 = .ok (.iinc 6 1, 3) := by decide +kernel
theorem dX10_addNumber_63 : decode cX10_addNumber 63 = .ok (.goto (-43), 3) := by decide +kernel
theorem dX10_addNumber_10 : decode cX10_addNumber 10 = .ok (.iconst 1, 1) := by decide +kernel
theorem dX10_addNumber_11 : decode cX10_addNumber 11 = .ok (.goto 4, 3) := by decide +kernel
theorem hS_X10_isDigit : yX10_isDigit.cls ≠ "java/lang/invoke/MethodHandle" ∧ yX10_isDigit.cls ≠ "java/lang/invoke/VarHandle" ∧ (parseMethodDescriptor yX10_isDigit.desc).map (fun d => d.parameters.length) = some 1 := by decide +kernel
set_option maxHeartbeats 6000000 in
set_option maxRecDepth 100000 in
theorem K_addNumber (l : Launch) (G : pT) (h0 : Nat) (a : Nat → Nat) (F : Nat → Int32) (R : Nat → Value) (Z : Int64) (B : Nat → Nat → Int32) (J : Nat → Nat → Int64) (T : Nat → Nat) (Pi : Nat → va_E → Prop) (w : va_W) (at9 : Nat) (en9 : Nat) (ln : Nat) (sz : Nat) (hln : ln ≤ 5000) (hsz : sz ≤ 5000) (hat : at9 ≤ en9 ∧ en9 ≤ 5000) (hO : OKW G h0 a (upd (upd F 1 (nI ln)) 2 (nI sz)) R Z B J T Pi w) : PM l G pX0 yX10_addNumber cX10_addNumber 7 (some .int) ({ frames := 3, cells := 0, slots := 0, locals := 84 }) [.ref (a 1), .int (nI at9), .int (nI en9)] w (fun (v : Option Value) (u : va_W × (Nat × (Nat → Int32) × (Nat → Int32) × (Nat → Int32) × (Nat → Int32) × (Nat → Int32) × Int32)) => v = some (.int u.2.2.2.2.2.2.2) ∧ (u.2.1 ≤ 5000) ∧ (u.2.1 ≤ sz + 1) ∧ (OKW G h0 a (upd (upd F 1 (nI ln)) 2 (nI u.2.1)) R Z (updA (updA (updA (updA (updA B 7 u.2.2.1) 8 u.2.2.2.1) 9 u.2.2.2.2.1) 10 u.2.2.2.2.2.1) 11 u.2.2.2.2.2.2.1) J T Pi u.1)) (fun u => u.1) := by
  intro sz
  refine Met.ofW (cc := cX10_addNumber) (maxL := 7) (ret := (some .int)) (by decide) rfl ?_
  intro p e s m args below meth c s₁ B9 hml hv
  obtain ⟨rfl, hsz, hP, hD0, hE, hX⟩ := hv
  have hx := B9.exec
  have hb := B9.bytes
  have hr := B9.returns
  have hts := atoms_spec (ws := Cond.code yX10_addNumber cX10_addNumber 7 (some .int) :: pw) B9.pre
  have hq : ∀ w ∈ pw, w.before _ s = true := fun w h => hts w (List.mem_cons_of_mem _ h)
  have hown : s.vm.findClass RX10 = some m.cls := findClass_of_methodNamed B9.named
  have hlocks := B9.notSynchronized
  subst hsz
  have hD := hD0.self (sz := s.heap.size)
  have hA : ∀ q : Nat, s.heap.size ≤ q → va_A w s.heap.size q := fun q h => Or.inr h
  generalize va_A w s.heap.size = A at hD hE hA ⊢
  have hS : va_S A s.heap s.heap [] := va_S.rf
  have hl := lv_entry ([.ref (a 1), .int (nI at9), .int (nI en9)]) (n := 7) (Nat.le_of_ble_eq_true rfl)
  rw [lg_entry_eq]
  generalize (lg_sl ([.ref (a 1), .int (nI at9), .int (nI en9)]) ++ List.replicate (7 - (lg_sl ([.ref (a 1), .int (nI at9), .int (nI en9)])).length) Slot.unset).toArray = ls at hl ⊢
  have hl : lv_has ls 7 [(0, .ref (a 1)), (1, .int (nI at9)), (2, .int (nI en9))] := hl
  refine lv_lconst (v := 0) hx hb dX10_addNumber_0 (by decide) ?_
  refine lv_lstore_n (lv' := [(3, .long 0), (0, .ref (a 1)), (1, .int (nI at9)), (2, .int (nI en9))]) hx hb dX10_addNumber_1 rfl hl (by decide) rfl (fun ls hl => ?_)
  refine lv_iload_n hx hb dX10_addNumber_2 rfl (lv_at hl 3 rfl) ?_
  refine lv_iload_n hx hb dX10_addNumber_3 rfl (lv_at hl 2 rfl) ?_
  refine lv_isub hx hb dX10_addNumber_4 ?_
  refine lv_topi (fun x1 e2 => ?_)
  obtain rfl : x1 = nI (en9 - at9) := e2.trans (nI_subN (a := at9) (b := en9) (by omega))
  refine lv_bipush (v := 10) hx hb dX10_addNumber_5 (by decide) ?_
  refine lv_icmp_gt (tgt := 14) hx hb dX10_addNumber_7 (by decide) (fun c3 => ?_) (fun c3 => ?_)
  · have n4 : 10 < (en9 - at9) := (nI_ltI (a := 10) (b := (en9 - at9)) (by omega) (by omega)).mp c3
    refine lv_iconst (v := 0) hx hb dX10_addNumber_14 (by decide) ?_
    refine lv_istore (lv' := [(5, .int 0), (3, .long 0), (0, .ref (a 1)), (1, .int (nI at9)), (2, .int (nI en9))]) hx hb dX10_addNumber_15 hl (by decide) rfl (fun ls hl => ?_)
    refine lv_iload_n hx hb dX10_addNumber_17 rfl (lv_at hl 3 rfl) ?_
    refine lv_istore (lv' := [(6, .int (nI at9)), (5, .int 0), (3, .long 0), (0, .ref (a 1)), (1, .int (nI at9)), (2, .int (nI en9))]) hx hb dX10_addNumber_18 hl (by decide) rfl (fun ls hl => ?_)
    have loop_i : ∀ (n_i : Nat) (i2 : Nat) (nu2 : Int64) (ri2 : Int32) (H : Heap) (locs : List Loc) (ls : Array Slot) (w : va_W), i2 ≤ en9 → en9 + 1 ≤ i2 + n_i → (at9 ≤ i2) → va_P G.1 pCl w H → va_D A w → va_S A s.heap H locs → OKW G h0 a (upd (upd F 1 (nI ln)) 2 (nI sz)) R Z B J T Pi w → lv_has ls 7 [(6, .int (nI i2)), (5, .int ri2), (3, .long nu2), (2, .int (nI en9)), (1, .int (nI at9)), (0, .ref (a 1))] → W p l e (headSpec (Cond.code yX10_addNumber cX10_addNumber 7 (some .int) :: pw) ({ frames := 3, cells := 0, slots := 0, locals := 84 } : Room)).room s m ([.ref (a 1), .int (nI at9), .int (nI en9)] : List Value).toArray below meth c H locs 0 0 (MQ below (pQ G A (fun (v : Option Value) (u : va_W × (Nat × (Nat → Int32) × (Nat → Int32) × (Nat → Int32) × (Nat → Int32) × (Nat → Int32) × Int32)) => v = some (.int u.2.2.2.2.2.2.2) ∧ (u.2.1 ≤ 5000) ∧ (u.2.1 ≤ sz + 1) ∧ (OKW G h0 a (upd (upd F 1 (nI ln)) 2 (nI u.2.1)) R Z (updA (updA (updA (updA (updA B 7 u.2.2.1) 8 u.2.2.2.1) 9 u.2.2.2.2.1) 10 u.2.2.2.2.2.1) 11 u.2.2.2.2.2.2.1) J T Pi u.1)) (fun u => u.1)) ([.ref (a 1), .int (nI at9), .int (nI en9)] : List Value).toArray s ({ frames := 3, cells := 0, slots := 0, locals := 84 } : Room).cells ({ frames := 3, cells := 0, slots := 0, locals := 84 } : Room).slots A) (F0 m 20 ls []) := by
      intro n_i
      induction n_i with
      | zero => intro i2 nu2 ri2 H locs ls w hk_i hn_i; omega
      | succ n_i ih_i =>
        intro i2 nu2 ri2 H locs ls w hk_i hn_i hi2 hP hD hS hO hl
        refine lv_iload hx hb dX10_addNumber_20 (lv_at hl 0 rfl) ?_
        refine lv_iload_n hx hb dX10_addNumber_22 rfl (lv_at hl 3 rfl) ?_
        refine lv_icmp_ge (tgt := 66) hx hb dX10_addNumber_23 (by decide) (fun c5 => ?_) (fun c5 => ?_)
        · have n6 : en9 ≤ i2 := (nI_leI (a := en9) (b := i2) (by omega) (by omega)).mp c5
          refine lv_iload hx hb dX10_addNumber_66 (lv_at hl 1 rfl) ?_
          refine lv_if_eq (tgt := 79) hx hb dX10_addNumber_68 (by decide) (fun c7 => ?_) (fun c7 => ?_)
          · refine lv_aload_n hx hb dX10_addNumber_79 rfl (lv_at hl 5 rfl) ?_
            refine lv_bipush (v := 68) hx hb dX10_addNumber_80 (by decide) ?_
            refine lv_iload_n hx hb dX10_addNumber_82 rfl (lv_at hl 4 rfl) ?_
            refine lv_iconst (v := 0) hx hb dX10_addNumber_83 (by decide) ?_
            refine lv_iload_n hx hb dX10_addNumber_84 rfl (lv_at hl 4 rfl) ?_
            have hO : OKW G h0 a (upd (upd (upd F 1 (nI ln)) 2 (nI sz)) 2 (nI sz)) R Z B J T Pi w := hO.to rfl
            obtain ⟨_, qr11, hqr12⟩ := hO.2.1 2 _ (sg_2 G h0 a _ _ _ _ _)
            refine pc_V0 (G := G) (As := [.int 68, .int (nI at9), .int 0, .int (nI at9)]) (rest := []) hx hb hml hown hq hE hX pX0_al hP hD hS hA hl.1 (K_add l G h0 a (upd (upd F 1 (nI ln)) 2 (nI sz)) R Z B J T Pi w 68 (nI at9) 0 (nI at9) sz (by omega) hO) (gV pw_1272 pw_1273 pw_1274 pw_59 pw_1271) hV_X10_add qr11 7 hqr12 rfl rfl rfl (Nat.le_of_ble_eq_true rfl) dX10_addNumber_85 ⟨Nat.le_of_ble_eq_true rfl, Nat.le_of_ble_eq_true rfl⟩ ⟨Nat.le_of_ble_eq_true rfl, Nat.le_of_ble_eq_true rfl⟩ (fun v10 u8 H locs hw9 hP hD hS => ?_)
            obtain ⟨w, sz13, f14, f15, f16, f17, f18⟩ := u8
            obtain ⟨hw9, h19, h20, hO⟩ := hw9
            have h19 : sz13 ≤ 5000 := h19
            have h20 : sz13 ≤ sz + 1 := h20
            obtain rfl : v10 = some (.int (nI at9)) := hw9
            have hO : OKW G h0 a (upd (upd F 1 (nI ln)) 2 (nI sz13)) R Z (updA (updA (updA (updA (updA B 7 f14) 8 f15) 9 f16) 10 f17) 11 f18) J T Pi w := hO.to rfl
            refine W.widen (k := 0) (n := 0) (Nat.le_of_ble_eq_true rfl) (Nat.le_of_ble_eq_true rfl) ?_
            refine W.eq (g2 := F0 m 88 ls [.int (nI at9)]) rfl ?_
            have hz21 : sz13 ≤ 5000 := (by omega)
            have hz22 : sz13 ≤ sz + 1 := (by omega)
            have hO : OKW G h0 a (upd (upd F 1 (nI ln)) 2 (nI sz13)) R Z (updA (updA (updA (updA (updA B 7 f14) 8 f15) 9 f16) 10 f17) 11 f18) J T Pi w := hO.to rfl
            exact W.iret (v := (nI at9)) hx hb hr (fun t99 ht99 hW99 => ⟨⟨_, (w, (sz13, f14, f15, f16, f17, f18, (nI at9))), rfl, ⟨rfl, hz21, hz22, hO⟩, by rw [ht99]; exact hP, hD⟩, hS.F ht99⟩) hS.2.2 dX10_addNumber_88
          · refine lv_lload_n hx hb dX10_addNumber_71 rfl (lv_at hl 2 rfl) ?_
            refine lv_ldc2 (v := 2147483647) hx hb hown (hq _ pw_1279) dX10_addNumber_72 ?_
            refine W.lcmp hx hb dX10_addNumber_75 ?_
            refine lv_topi (fun x23 e24 => ?_)
            refine lv_if_le (tgt := 89) hx hb dX10_addNumber_76 (by decide) (fun c25 => ?_) (fun c25 => ?_)
            · refine lv_aload_n hx hb dX10_addNumber_89 rfl (lv_at hl 5 rfl) ?_
              refine lv_bipush (v := 66) hx hb dX10_addNumber_90 (by decide) ?_
              refine lv_iload_n hx hb dX10_addNumber_92 rfl (lv_at hl 4 rfl) ?_
              refine lv_lload_n hx hb dX10_addNumber_93 rfl (lv_at hl 2 rfl) ?_
              refine lv_l2i hx hb dX10_addNumber_94 rfl ?_
              refine lv_topi (fun x26 e27 => ?_)
              refine lv_iload_n hx hb dX10_addNumber_95 rfl (lv_at hl 3 rfl) ?_
              have hO : OKW G h0 a (upd (upd (upd F 1 (nI ln)) 2 (nI sz)) 2 (nI sz)) R Z B J T Pi w := hO.to rfl
              obtain ⟨_, qr31, hqr32⟩ := hO.2.1 2 _ (sg_2 G h0 a _ _ _ _ _)
              refine pc_V0 (G := G) (As := [.int 66, .int (nI at9), .int x26, .int (nI en9)]) (rest := []) hx hb hml hown hq hE hX pX0_al hP hD hS hA hl.1 (K_add l G h0 a (upd (upd F 1 (nI ln)) 2 (nI sz)) R Z B J T Pi w 66 (nI at9) x26 (nI en9) sz (by omega) hO) (gV pw_1272 pw_1273 pw_1274 pw_59 pw_1271) hV_X10_add qr31 7 hqr32 rfl rfl rfl (Nat.le_of_ble_eq_true rfl) dX10_addNumber_96 ⟨Nat.le_of_ble_eq_true rfl, Nat.le_of_ble_eq_true rfl⟩ ⟨Nat.le_of_ble_eq_true rfl, Nat.le_of_ble_eq_true rfl⟩ (fun v30 u28 H locs hw29 hP hD hS => ?_)
              obtain ⟨w, sz33, f34, f35, f36, f37, f38⟩ := u28
              obtain ⟨hw29, h39, h40, hO⟩ := hw29
              have h39 : sz33 ≤ 5000 := h39
              have h40 : sz33 ≤ sz + 1 := h40
              obtain rfl : v30 = some (.int (nI en9)) := hw29
              have hO : OKW G h0 a (upd (upd F 1 (nI ln)) 2 (nI sz33)) R Z (updA (updA (updA (updA (updA B 7 f34) 8 f35) 9 f36) 10 f37) 11 f38) J T Pi w := hO.to rfl
              refine W.widen (k := 0) (n := 0) (Nat.le_of_ble_eq_true rfl) (Nat.le_of_ble_eq_true rfl) ?_
              refine W.eq (g2 := F0 m 99 ls [.int (nI en9)]) rfl ?_
              have hz41 : sz33 ≤ 5000 := (by omega)
              have hz42 : sz33 ≤ sz + 1 := (by omega)
              have hO : OKW G h0 a (upd (upd F 1 (nI ln)) 2 (nI sz33)) R Z (updA (updA (updA (updA (updA B 7 f34) 8 f35) 9 f36) 10 f37) 11 f38) J T Pi w := hO.to rfl
              exact W.iret (v := (nI en9)) hx hb hr (fun t99 ht99 hW99 => ⟨⟨_, (w, (sz33, f34, f35, f36, f37, f38, (nI en9))), rfl, ⟨rfl, hz41, hz42, hO⟩, by rw [ht99]; exact hP, hD⟩, hS.F ht99⟩) hS.2.2 dX10_addNumber_99
            · refine lv_aload_n hx hb dX10_addNumber_79 rfl (lv_at hl 5 rfl) ?_
              refine lv_bipush (v := 68) hx hb dX10_addNumber_80 (by decide) ?_
              refine lv_iload_n hx hb dX10_addNumber_82 rfl (lv_at hl 4 rfl) ?_
              refine lv_iconst (v := 0) hx hb dX10_addNumber_83 (by decide) ?_
              refine lv_iload_n hx hb dX10_addNumber_84 rfl (lv_at hl 4 rfl) ?_
              have hO : OKW G h0 a (upd (upd (upd F 1 (nI ln)) 2 (nI sz)) 2 (nI sz)) R Z B J T Pi w := hO.to rfl
              obtain ⟨_, qr46, hqr47⟩ := hO.2.1 2 _ (sg_2 G h0 a _ _ _ _ _)
              refine pc_V0 (G := G) (As := [.int 68, .int (nI at9), .int 0, .int (nI at9)]) (rest := []) hx hb hml hown hq hE hX pX0_al hP hD hS hA hl.1 (K_add l G h0 a (upd (upd F 1 (nI ln)) 2 (nI sz)) R Z B J T Pi w 68 (nI at9) 0 (nI at9) sz (by omega) hO) (gV pw_1272 pw_1273 pw_1274 pw_59 pw_1271) hV_X10_add qr46 7 hqr47 rfl rfl rfl (Nat.le_of_ble_eq_true rfl) dX10_addNumber_85 ⟨Nat.le_of_ble_eq_true rfl, Nat.le_of_ble_eq_true rfl⟩ ⟨Nat.le_of_ble_eq_true rfl, Nat.le_of_ble_eq_true rfl⟩ (fun v45 u43 H locs hw44 hP hD hS => ?_)
              obtain ⟨w, sz48, f49, f50, f51, f52, f53⟩ := u43
              obtain ⟨hw44, h54, h55, hO⟩ := hw44
              have h54 : sz48 ≤ 5000 := h54
              have h55 : sz48 ≤ sz + 1 := h55
              obtain rfl : v45 = some (.int (nI at9)) := hw44
              have hO : OKW G h0 a (upd (upd F 1 (nI ln)) 2 (nI sz48)) R Z (updA (updA (updA (updA (updA B 7 f49) 8 f50) 9 f51) 10 f52) 11 f53) J T Pi w := hO.to rfl
              refine W.widen (k := 0) (n := 0) (Nat.le_of_ble_eq_true rfl) (Nat.le_of_ble_eq_true rfl) ?_
              refine W.eq (g2 := F0 m 88 ls [.int (nI at9)]) rfl ?_
              have hz56 : sz48 ≤ 5000 := (by omega)
              have hz57 : sz48 ≤ sz + 1 := (by omega)
              have hO : OKW G h0 a (upd (upd F 1 (nI ln)) 2 (nI sz48)) R Z (updA (updA (updA (updA (updA B 7 f49) 8 f50) 9 f51) 10 f52) 11 f53) J T Pi w := hO.to rfl
              exact W.iret (v := (nI at9)) hx hb hr (fun t99 ht99 hW99 => ⟨⟨_, (w, (sz48, f49, f50, f51, f52, f53, (nI at9))), rfl, ⟨rfl, hz56, hz57, hO⟩, by rw [ht99]; exact hP, hD⟩, hS.F ht99⟩) hS.2.2 dX10_addNumber_88
        · have n58 : ¬ (en9 ≤ i2) := fun h9 => c5 ((nI_leI (a := en9) (b := i2) (by omega) (by omega)).mpr h9)
          refine lv_iload hx hb dX10_addNumber_26 (lv_at hl 1 rfl) ?_
          refine lv_if_eq (tgt := 66) hx hb dX10_addNumber_28 (by decide) (fun c59 => ?_) (fun c59 => ?_)
          · refine lv_iload hx hb dX10_addNumber_66 (lv_at hl 1 rfl) ?_
            refine lv_if_eq (tgt := 79) hx hb dX10_addNumber_68 (by decide) (fun c60 => ?_) (fun c60 => ?_)
            · refine lv_aload_n hx hb dX10_addNumber_79 rfl (lv_at hl 5 rfl) ?_
              refine lv_bipush (v := 68) hx hb dX10_addNumber_80 (by decide) ?_
              refine lv_iload_n hx hb dX10_addNumber_82 rfl (lv_at hl 4 rfl) ?_
              refine lv_iconst (v := 0) hx hb dX10_addNumber_83 (by decide) ?_
              refine lv_iload_n hx hb dX10_addNumber_84 rfl (lv_at hl 4 rfl) ?_
              have hO : OKW G h0 a (upd (upd (upd F 1 (nI ln)) 2 (nI sz)) 2 (nI sz)) R Z B J T Pi w := hO.to rfl
              obtain ⟨_, qr64, hqr65⟩ := hO.2.1 2 _ (sg_2 G h0 a _ _ _ _ _)
              refine pc_V0 (G := G) (As := [.int 68, .int (nI at9), .int 0, .int (nI at9)]) (rest := []) hx hb hml hown hq hE hX pX0_al hP hD hS hA hl.1 (K_add l G h0 a (upd (upd F 1 (nI ln)) 2 (nI sz)) R Z B J T Pi w 68 (nI at9) 0 (nI at9) sz (by omega) hO) (gV pw_1272 pw_1273 pw_1274 pw_59 pw_1271) hV_X10_add qr64 7 hqr65 rfl rfl rfl (Nat.le_of_ble_eq_true rfl) dX10_addNumber_85 ⟨Nat.le_of_ble_eq_true rfl, Nat.le_of_ble_eq_true rfl⟩ ⟨Nat.le_of_ble_eq_true rfl, Nat.le_of_ble_eq_true rfl⟩ (fun v63 u61 H locs hw62 hP hD hS => ?_)
              obtain ⟨w, sz66, f67, f68, f69, f70, f71⟩ := u61
              obtain ⟨hw62, h72, h73, hO⟩ := hw62
              have h72 : sz66 ≤ 5000 := h72
              have h73 : sz66 ≤ sz + 1 := h73
              obtain rfl : v63 = some (.int (nI at9)) := hw62
              have hO : OKW G h0 a (upd (upd F 1 (nI ln)) 2 (nI sz66)) R Z (updA (updA (updA (updA (updA B 7 f67) 8 f68) 9 f69) 10 f70) 11 f71) J T Pi w := hO.to rfl
              refine W.widen (k := 0) (n := 0) (Nat.le_of_ble_eq_true rfl) (Nat.le_of_ble_eq_true rfl) ?_
              refine W.eq (g2 := F0 m 88 ls [.int (nI at9)]) rfl ?_
              have hz74 : sz66 ≤ 5000 := (by omega)
              have hz75 : sz66 ≤ sz + 1 := (by omega)
              have hO : OKW G h0 a (upd (upd F 1 (nI ln)) 2 (nI sz66)) R Z (updA (updA (updA (updA (updA B 7 f67) 8 f68) 9 f69) 10 f70) 11 f71) J T Pi w := hO.to rfl
              exact W.iret (v := (nI at9)) hx hb hr (fun t99 ht99 hW99 => ⟨⟨_, (w, (sz66, f67, f68, f69, f70, f71, (nI at9))), rfl, ⟨rfl, hz74, hz75, hO⟩, by rw [ht99]; exact hP, hD⟩, hS.F ht99⟩) hS.2.2 dX10_addNumber_88
            · refine lv_lload_n hx hb dX10_addNumber_71 rfl (lv_at hl 2 rfl) ?_
              refine lv_ldc2 (v := 2147483647) hx hb hown (hq _ pw_1279) dX10_addNumber_72 ?_
              refine W.lcmp hx hb dX10_addNumber_75 ?_
              refine lv_topi (fun x76 e77 => ?_)
              refine lv_if_le (tgt := 89) hx hb dX10_addNumber_76 (by decide) (fun c78 => ?_) (fun c78 => ?_)
              · refine lv_aload_n hx hb dX10_addNumber_89 rfl (lv_at hl 5 rfl) ?_
                refine lv_bipush (v := 66) hx hb dX10_addNumber_90 (by decide) ?_
                refine lv_iload_n hx hb dX10_addNumber_92 rfl (lv_at hl 4 rfl) ?_
                refine lv_lload_n hx hb dX10_addNumber_93 rfl (lv_at hl 2 rfl) ?_
                refine lv_l2i hx hb dX10_addNumber_94 rfl ?_
                refine lv_topi (fun x79 e80 => ?_)
                refine lv_iload_n hx hb dX10_addNumber_95 rfl (lv_at hl 3 rfl) ?_
                have hO : OKW G h0 a (upd (upd (upd F 1 (nI ln)) 2 (nI sz)) 2 (nI sz)) R Z B J T Pi w := hO.to rfl
                obtain ⟨_, qr84, hqr85⟩ := hO.2.1 2 _ (sg_2 G h0 a _ _ _ _ _)
                refine pc_V0 (G := G) (As := [.int 66, .int (nI at9), .int x79, .int (nI en9)]) (rest := []) hx hb hml hown hq hE hX pX0_al hP hD hS hA hl.1 (K_add l G h0 a (upd (upd F 1 (nI ln)) 2 (nI sz)) R Z B J T Pi w 66 (nI at9) x79 (nI en9) sz (by omega) hO) (gV pw_1272 pw_1273 pw_1274 pw_59 pw_1271) hV_X10_add qr84 7 hqr85 rfl rfl rfl (Nat.le_of_ble_eq_true rfl) dX10_addNumber_96 ⟨Nat.le_of_ble_eq_true rfl, Nat.le_of_ble_eq_true rfl⟩ ⟨Nat.le_of_ble_eq_true rfl, Nat.le_of_ble_eq_true rfl⟩ (fun v83 u81 H locs hw82 hP hD hS => ?_)
                obtain ⟨w, sz86, f87, f88, f89, f90, f91⟩ := u81
                obtain ⟨hw82, h92, h93, hO⟩ := hw82
                have h92 : sz86 ≤ 5000 := h92
                have h93 : sz86 ≤ sz + 1 := h93
                obtain rfl : v83 = some (.int (nI en9)) := hw82
                have hO : OKW G h0 a (upd (upd F 1 (nI ln)) 2 (nI sz86)) R Z (updA (updA (updA (updA (updA B 7 f87) 8 f88) 9 f89) 10 f90) 11 f91) J T Pi w := hO.to rfl
                refine W.widen (k := 0) (n := 0) (Nat.le_of_ble_eq_true rfl) (Nat.le_of_ble_eq_true rfl) ?_
                refine W.eq (g2 := F0 m 99 ls [.int (nI en9)]) rfl ?_
                have hz94 : sz86 ≤ 5000 := (by omega)
                have hz95 : sz86 ≤ sz + 1 := (by omega)
                have hO : OKW G h0 a (upd (upd F 1 (nI ln)) 2 (nI sz86)) R Z (updA (updA (updA (updA (updA B 7 f87) 8 f88) 9 f89) 10 f90) 11 f91) J T Pi w := hO.to rfl
                exact W.iret (v := (nI en9)) hx hb hr (fun t99 ht99 hW99 => ⟨⟨_, (w, (sz86, f87, f88, f89, f90, f91, (nI en9))), rfl, ⟨rfl, hz94, hz95, hO⟩, by rw [ht99]; exact hP, hD⟩, hS.F ht99⟩) hS.2.2 dX10_addNumber_99
              · refine lv_aload_n hx hb dX10_addNumber_79 rfl (lv_at hl 5 rfl) ?_
                refine lv_bipush (v := 68) hx hb dX10_addNumber_80 (by decide) ?_
                refine lv_iload_n hx hb dX10_addNumber_82 rfl (lv_at hl 4 rfl) ?_
                refine lv_iconst (v := 0) hx hb dX10_addNumber_83 (by decide) ?_
                refine lv_iload_n hx hb dX10_addNumber_84 rfl (lv_at hl 4 rfl) ?_
                have hO : OKW G h0 a (upd (upd (upd F 1 (nI ln)) 2 (nI sz)) 2 (nI sz)) R Z B J T Pi w := hO.to rfl
                obtain ⟨_, qr99, hqr100⟩ := hO.2.1 2 _ (sg_2 G h0 a _ _ _ _ _)
                refine pc_V0 (G := G) (As := [.int 68, .int (nI at9), .int 0, .int (nI at9)]) (rest := []) hx hb hml hown hq hE hX pX0_al hP hD hS hA hl.1 (K_add l G h0 a (upd (upd F 1 (nI ln)) 2 (nI sz)) R Z B J T Pi w 68 (nI at9) 0 (nI at9) sz (by omega) hO) (gV pw_1272 pw_1273 pw_1274 pw_59 pw_1271) hV_X10_add qr99 7 hqr100 rfl rfl rfl (Nat.le_of_ble_eq_true rfl) dX10_addNumber_85 ⟨Nat.le_of_ble_eq_true rfl, Nat.le_of_ble_eq_true rfl⟩ ⟨Nat.le_of_ble_eq_true rfl, Nat.le_of_ble_eq_true rfl⟩ (fun v98 u96 H locs hw97 hP hD hS => ?_)
                obtain ⟨w, sz101, f102, f103, f104, f105, f106⟩ := u96
                obtain ⟨hw97, h107, h108, hO⟩ := hw97
                have h107 : sz101 ≤ 5000 := h107
                have h108 : sz101 ≤ sz + 1 := h108
                obtain rfl : v98 = some (.int (nI at9)) := hw97
                have hO : OKW G h0 a (upd (upd F 1 (nI ln)) 2 (nI sz101)) R Z (updA (updA (updA (updA (updA B 7 f102) 8 f103) 9 f104) 10 f105) 11 f106) J T Pi w := hO.to rfl
                refine W.widen (k := 0) (n := 0) (Nat.le_of_ble_eq_true rfl) (Nat.le_of_ble_eq_true rfl) ?_
                refine W.eq (g2 := F0 m 88 ls [.int (nI at9)]) rfl ?_
                have hz109 : sz101 ≤ 5000 := (by omega)
                have hz110 : sz101 ≤ sz + 1 := (by omega)
                have hO : OKW G h0 a (upd (upd F 1 (nI ln)) 2 (nI sz101)) R Z (updA (updA (updA (updA (updA B 7 f102) 8 f103) 9 f104) 10 f105) 11 f106) J T Pi w := hO.to rfl
                exact W.iret (v := (nI at9)) hx hb hr (fun t99 ht99 hW99 => ⟨⟨_, (w, (sz101, f102, f103, f104, f105, f106, (nI at9))), rfl, ⟨rfl, hz109, hz110, hO⟩, by rw [ht99]; exact hP, hD⟩, hS.F ht99⟩) hS.2.2 dX10_addNumber_88
          · refine lv_aload_n hx hb dX10_addNumber_31 rfl (lv_at hl 5 rfl) ?_
            refine lv_iload hx hb dX10_addNumber_32 (lv_at hl 0 rfl) ?_
            have hO : OKW G h0 a (upd (upd (upd F 1 (nI ln)) 2 (nI sz)) 1 (nI ln)) R Z B J T Pi w := hO.to rfl
            obtain ⟨_, qr114, hqr115⟩ := hO.2.1 2 _ (sg_2 G h0 a _ _ _ _ _)
            refine pc_V0 (G := G) (As := [.int (nI i2)]) (rest := []) hx hb hml hown hq hE hX pX0_al hP hD hS hA hl.1 (K_byteAt l G h0 a (upd (upd F 1 (nI ln)) 2 (nI sz)) R Z B J T Pi w (nI i2) ln (by omega) hO) (gV pw_1266 pw_1267 pw_1268 pw_59 pw_1264) hV_X10_byteAt qr114 7 hqr115 rfl rfl rfl (Nat.le_of_ble_eq_true rfl) dX10_addNumber_34 ⟨Nat.le_of_ble_eq_true rfl, Nat.le_of_ble_eq_true rfl⟩ ⟨Nat.le_of_ble_eq_true rfl, Nat.le_of_ble_eq_true rfl⟩ (fun v113 u111 H locs hw112 hP hD hS => ?_)
            obtain ⟨w, r116⟩ := u111
            obtain ⟨hw112, hO⟩ := hw112
            obtain rfl : v113 = some (.int r116) := hw112
            have hO : OKW G h0 a (upd (upd F 1 (nI ln)) 2 (nI sz)) R Z B J T Pi w := hO.to rfl
            refine W.widen (k := 0) (n := 0) (Nat.le_of_ble_eq_true rfl) (Nat.le_of_ble_eq_true rfl) ?_
            refine W.eq (g2 := F0 m 37 ls [.int r116]) rfl ?_
            refine pc_SN (G := G) (As := [.int r116]) (rest := []) hx hb hml hown hq hE hX pX0_al hP hS hA hl.1 (s_dig l G r116) (gS pw_1280 pw_1281 pw_59 pw_1269) hS_X10_isDigit rfl (Nat.le_of_ble_eq_true rfl) dX10_addNumber_37 ⟨Nat.le_of_ble_eq_true rfl, Nat.le_of_ble_eq_true rfl⟩ ⟨Nat.le_of_ble_eq_true rfl, Nat.le_of_ble_eq_true rfl⟩ (fun v119 u117 H locs hw118 hP hS => ?_)
            obtain ⟨rfl, h121⟩ := hw118
            refine W.widen (k := 0) (n := 0) (Nat.le_of_ble_eq_true rfl) (Nat.le_of_ble_eq_true rfl) ?_
            refine W.eq (g2 := F0 m 40 ls [.int (nI u117)]) rfl ?_
            refine lv_istore (lv' := [(5, .int (nI u117)), (6, .int (nI i2)), (3, .long nu2), (2, .int (nI en9)), (1, .int (nI at9)), (0, .ref (a 1))]) hx hb dX10_addNumber_40 hl (by decide) rfl (fun ls hl => ?_)
            refine lv_lload_n hx hb dX10_addNumber_42 rfl (lv_at hl 2 rfl) ?_
            refine lv_ldc2 (v := 10) hx hb hown (hq _ pw_1277) dX10_addNumber_43 ?_
            refine lv_lmul hx hb dX10_addNumber_46 ?_
            refine lv_topl (fun x122 e123 => ?_)
            refine lv_aload_n hx hb dX10_addNumber_47 rfl (lv_at hl 5 rfl) ?_
            refine lv_iload hx hb dX10_addNumber_48 (lv_at hl 1 rfl) ?_
            have hO : OKW G h0 a (upd (upd (upd F 1 (nI ln)) 2 (nI sz)) 1 (nI ln)) R Z B J T Pi w := hO.to rfl
            obtain ⟨_, qr127, hqr128⟩ := hO.2.1 2 _ (sg_2 G h0 a _ _ _ _ _)
            refine pc_V0 (G := G) (As := [.int (nI i2)]) (rest := [.long x122]) hx hb hml hown hq hE hX pX0_al hP hD hS hA hl.1 (K_byteAt l G h0 a (upd (upd F 1 (nI ln)) 2 (nI sz)) R Z B J T Pi w (nI i2) ln (by omega) hO) (gV pw_1266 pw_1267 pw_1268 pw_59 pw_1264) hV_X10_byteAt qr127 7 hqr128 rfl rfl rfl (Nat.le_of_ble_eq_true rfl) dX10_addNumber_50 ⟨Nat.le_of_ble_eq_true rfl, Nat.le_of_ble_eq_true rfl⟩ ⟨Nat.le_of_ble_eq_true rfl, Nat.le_of_ble_eq_true rfl⟩ (fun v126 u124 H locs hw125 hP hD hS => ?_)
            obtain ⟨w, r129⟩ := u124
            obtain ⟨hw125, hO⟩ := hw125
            obtain rfl : v126 = some (.int r129) := hw125
            have hO : OKW G h0 a (upd (upd F 1 (nI ln)) 2 (nI sz)) R Z B J T Pi w := hO.to rfl
            refine W.widen (k := 0) (n := 0) (Nat.le_of_ble_eq_true rfl) (Nat.le_of_ble_eq_true rfl) ?_
            refine W.eq (g2 := F0 m 53 ls [.int r129, .long x122]) rfl ?_
            refine lv_i2l hx hb dX10_addNumber_53 rfl ?_
            refine lv_topl (fun x130 e131 => ?_)
            refine lv_ladd hx hb dX10_addNumber_54 ?_
            refine lv_topl (fun x132 e133 => ?_)
            refine lv_ldc2 (v := 48) hx hb hown (hq _ pw_1278) dX10_addNumber_55 ?_
            refine lv_lsub hx hb dX10_addNumber_58 ?_
            refine lv_topl (fun x134 e135 => ?_)
            refine lv_lstore_n (lv' := [(3, .long x134), (5, .int (nI u117)), (6, .int (nI i2)), (2, .int (nI en9)), (1, .int (nI at9)), (0, .ref (a 1))]) hx hb dX10_addNumber_59 rfl hl (by decide) rfl (fun ls hl => ?_)
            refine lv_iinc (v := (nI (i2 + 1))) (lv' := [(6, .int (nI (i2 + 1))), (3, .long x134), (5, .int (nI u117)), (2, .int (nI en9)), (1, .int (nI at9)), (0, .ref (a 1))]) hx hb dX10_addNumber_60 hl (k := 2) rfl (nI_1 i2) (by decide) rfl (fun ls hl => ?_)
            refine lv_goto (tgt := 20) hx hb dX10_addNumber_63 (by decide) ?_
            have hO : OKW G h0 a (upd (upd F 1 (nI ln)) 2 (nI sz)) R Z B J T Pi w := hO.to rfl
            exact ih_i (i2 + 1) x134 (nI u117) _ _ _ _ (by omega) (by omega) (by omega) hP hD hS hO (lv_sub hl [0, 2, 1, 3, 4, 5] rfl)
    have hO : OKW G h0 a (upd (upd F 1 (nI ln)) 2 (nI sz)) R Z B J T Pi w := hO.to rfl
    exact loop_i (en9 + 1) at9 (0 : Int64) (0 : Int32) _ _ _ _ (by omega) (by omega) (by omega) hP hD hS hO (lv_sub hl [0, 1, 2, 5, 4, 3] rfl)
  · have n136 : ¬ (10 < (en9 - at9)) := fun h9 => c3 ((nI_ltI (a := 10) (b := (en9 - at9)) (by omega) (by omega)).mpr h9)
    refine lv_iconst (v := 1) hx hb dX10_addNumber_10 (by decide) ?_
    refine lv_goto (tgt := 15) hx hb dX10_addNumber_11 (by decide) ?_
    refine lv_istore (lv' := [(5, .int 1), (3, .long 0), (0, .ref (a 1)), (1, .int (nI at9)), (2, .int (nI en9))]) hx hb dX10_addNumber_15 hl (by decide) rfl (fun ls hl => ?_)
    refine lv_iload_n hx hb dX10_addNumber_17 rfl (lv_at hl 3 rfl) ?_
    refine lv_istore (lv' := [(6, .int (nI at9)), (5, .int 1), (3, .long 0), (0, .ref (a 1)), (1, .int (nI at9)), (2, .int (nI en9))]) hx hb dX10_addNumber_18 hl (by decide) rfl (fun ls hl => ?_)
    have loop_i : ∀ (n_i : Nat) (i2 : Nat) (nu2 : Int64) (ri2 : Int32) (H : Heap) (locs : List Loc) (ls : Array Slot) (w : va_W), i2 ≤ en9 → en9 + 1 ≤ i2 + n_i → (at9 ≤ i2) → va_P G.1 pCl w H → va_D A w → va_S A s.heap H locs → OKW G h0 a (upd (upd F 1 (nI ln)) 2 (nI sz)) R Z B J T Pi w → lv_has ls 7 [(6, .int (nI i2)), (5, .int ri2), (3, .long nu2), (2, .int (nI en9)), (1, .int (nI at9)), (0, .ref (a 1))] → W p l e (headSpec (Cond.code yX10_addNumber cX10_addNumber 7 (some .int) :: pw) ({ frames := 3, cells := 0, slots := 0, locals := 84 } : Room)).room s m ([.ref (a 1), .int (nI at9), .int (nI en9)] : List Value).toArray below meth c H locs 0 0 (MQ below (pQ G A (fun (v : Option Value) (u : va_W × (Nat × (Nat → Int32) × (Nat → Int32) × (Nat → Int32) × (Nat → Int32) × (Nat → Int32) × Int32)) => v = some (.int u.2.2.2.2.2.2.2) ∧ (u.2.1 ≤ 5000) ∧ (u.2.1 ≤ sz + 1) ∧ (OKW G h0 a (upd (upd F 1 (nI ln)) 2 (nI u.2.1)) R Z (updA (updA (updA (updA (updA B 7 u.2.2.1) 8 u.2.2.2.1) 9 u.2.2.2.2.1) 10 u.2.2.2.2.2.1) 11 u.2.2.2.2.2.2.1) J T Pi u.1)) (fun u => u.1)) ([.ref (a 1), .int (nI at9), .int (nI en9)] : List Value).toArray s ({ frames := 3, cells := 0, slots := 0, locals := 84 } : Room).cells ({ frames := 3, cells := 0, slots := 0, locals := 84 } : Room).slots A) (F0 m 20 ls []) := by
      intro n_i
      induction n_i with
      | zero => intro i2 nu2 ri2 H locs ls w hk_i hn_i; omega
      | succ n_i ih_i =>
        intro i2 nu2 ri2 H locs ls w hk_i hn_i hi2 hP hD hS hO hl
        refine lv_iload hx hb dX10_addNumber_20 (lv_at hl 0 rfl) ?_
        refine lv_iload_n hx hb dX10_addNumber_22 rfl (lv_at hl 3 rfl) ?_
        refine lv_icmp_ge (tgt := 66) hx hb dX10_addNumber_23 (by decide) (fun c137 => ?_) (fun c137 => ?_)
        · have n138 : en9 ≤ i2 := (nI_leI (a := en9) (b := i2) (by omega) (by omega)).mp c137
          refine lv_iload hx hb dX10_addNumber_66 (lv_at hl 1 rfl) ?_
          refine lv_if_eq (tgt := 79) hx hb dX10_addNumber_68 (by decide) (fun c139 => ?_) (fun c139 => ?_)
          · refine lv_aload_n hx hb dX10_addNumber_79 rfl (lv_at hl 5 rfl) ?_
            refine lv_bipush (v := 68) hx hb dX10_addNumber_80 (by decide) ?_
            refine lv_iload_n hx hb dX10_addNumber_82 rfl (lv_at hl 4 rfl) ?_
            refine lv_iconst (v := 0) hx hb dX10_addNumber_83 (by decide) ?_
            refine lv_iload_n hx hb dX10_addNumber_84 rfl (lv_at hl 4 rfl) ?_
            have hO : OKW G h0 a (upd (upd (upd F 1 (nI ln)) 2 (nI sz)) 2 (nI sz)) R Z B J T Pi w := hO.to rfl
            obtain ⟨_, qr143, hqr144⟩ := hO.2.1 2 _ (sg_2 G h0 a _ _ _ _ _)
            refine pc_V0 (G := G) (As := [.int 68, .int (nI at9), .int 0, .int (nI at9)]) (rest := []) hx hb hml hown hq hE hX pX0_al hP hD hS hA hl.1 (K_add l G h0 a (upd (upd F 1 (nI ln)) 2 (nI sz)) R Z B J T Pi w 68 (nI at9) 0 (nI at9) sz (by omega) hO) (gV pw_1272 pw_1273 pw_1274 pw_59 pw_1271) hV_X10_add qr143 7 hqr144 rfl rfl rfl (Nat.le_of_ble_eq_true rfl) dX10_addNumber_85 ⟨Nat.le_of_ble_eq_true rfl, Nat.le_of_ble_eq_true rfl⟩ ⟨Nat.le_of_ble_eq_true rfl, Nat.le_of_ble_eq_true rfl⟩ (fun v142 u140 H locs hw141 hP hD hS => ?_)
            obtain ⟨w, sz145, f146, f147, f148, f149, f150⟩ := u140
            obtain ⟨hw141, h151, h152, hO⟩ := hw141
            have h151 : sz145 ≤ 5000 := h151
            have h152 : sz145 ≤ sz + 1 := h152
            obtain rfl : v142 = some (.int (nI at9)) := hw141
            have hO : OKW G h0 a (upd (upd F 1 (nI ln)) 2 (nI sz145)) R Z (updA (updA (updA (updA (updA B 7 f146) 8 f147) 9 f148) 10 f149) 11 f150) J T Pi w := hO.to rfl
            refine W.widen (k := 0) (n := 0) (Nat.le_of_ble_eq_true rfl) (Nat.le_of_ble_eq_true rfl) ?_
            refine W.eq (g2 := F0 m 88 ls [.int (nI at9)]) rfl ?_
            have hz153 : sz145 ≤ 5000 := (by omega)
            have hz154 : sz145 ≤ sz + 1 := (by omega)
            have hO : OKW G h0 a (upd (upd F 1 (nI ln)) 2 (nI sz145)) R Z (updA (updA (updA (updA (updA B 7 f146) 8 f147) 9 f148) 10 f149) 11 f150) J T Pi w := hO.to rfl
            exact W.iret (v := (nI at9)) hx hb hr (fun t99 ht99 hW99 => ⟨⟨_, (w, (sz145, f146, f147, f148, f149, f150, (nI at9))), rfl, ⟨rfl, hz153, hz154, hO⟩, by rw [ht99]; exact hP, hD⟩, hS.F ht99⟩) hS.2.2 dX10_addNumber_88
          · refine lv_lload_n hx hb dX10_addNumber_71 rfl (lv_at hl 2 rfl) ?_
            refine lv_ldc2 (v := 2147483647) hx hb hown (hq _ pw_1279) dX10_addNumber_72 ?_
            refine W.lcmp hx hb dX10_addNumber_75 ?_
            refine lv_topi (fun x155 e156 => ?_)
            refine lv_if_le (tgt := 89) hx hb dX10_addNumber_76 (by decide) (fun c157 => ?_) (fun c157 => ?_)
            · refine lv_aload_n hx hb dX10_addNumber_89 rfl (lv_at hl 5 rfl) ?_
              refine lv_bipush (v := 66) hx hb dX10_addNumber_90 (by decide) ?_
              refine lv_iload_n hx hb dX10_addNumber_92 rfl (lv_at hl 4 rfl) ?_
              refine lv_lload_n hx hb dX10_addNumber_93 rfl (lv_at hl 2 rfl) ?_
              refine lv_l2i hx hb dX10_addNumber_94 rfl ?_
              refine lv_topi (fun x158 e159 => ?_)
              refine lv_iload_n hx hb dX10_addNumber_95 rfl (lv_at hl 3 rfl) ?_
              have hO : OKW G h0 a (upd (upd (upd F 1 (nI ln)) 2 (nI sz)) 2 (nI sz)) R Z B J T Pi w := hO.to rfl
              obtain ⟨_, qr163, hqr164⟩ := hO.2.1 2 _ (sg_2 G h0 a _ _ _ _ _)
              refine pc_V0 (G := G) (As := [.int 66, .int (nI at9), .int x158, .int (nI en9)]) (rest := []) hx hb hml hown hq hE hX pX0_al hP hD hS hA hl.1 (K_add l G h0 a (upd (upd F 1 (nI ln)) 2 (nI sz)) R Z B J T Pi w 66 (nI at9) x158 (nI en9) sz (by omega) hO) (gV pw_1272 pw_1273 pw_1274 pw_59 pw_1271) hV_X10_add qr163 7 hqr164 rfl rfl rfl (Nat.le_of_ble_eq_true rfl) dX10_addNumber_96 ⟨Nat.le_of_ble_eq_true rfl, Nat.le_of_ble_eq_true rfl⟩ ⟨Nat.le_of_ble_eq_true rfl, Nat.le_of_ble_eq_true rfl⟩ (fun v162 u160 H locs hw161 hP hD hS => ?_)
              obtain ⟨w, sz165, f166, f167, f168, f169, f170⟩ := u160
              obtain ⟨hw161, h171, h172, hO⟩ := hw161
              have h171 : sz165 ≤ 5000 := h171
              have h172 : sz165 ≤ sz + 1 := h172
              obtain rfl : v162 = some (.int (nI en9)) := hw161
              have hO : OKW G h0 a (upd (upd F 1 (nI ln)) 2 (nI sz165)) R Z (updA (updA (updA (updA (updA B 7 f166) 8 f167) 9 f168) 10 f169) 11 f170) J T Pi w := hO.to rfl
              refine W.widen (k := 0) (n := 0) (Nat.le_of_ble_eq_true rfl) (Nat.le_of_ble_eq_true rfl) ?_
              refine W.eq (g2 := F0 m 99 ls [.int (nI en9)]) rfl ?_
              have hz173 : sz165 ≤ 5000 := (by omega)
              have hz174 : sz165 ≤ sz + 1 := (by omega)
              have hO : OKW G h0 a (upd (upd F 1 (nI ln)) 2 (nI sz165)) R Z (updA (updA (updA (updA (updA B 7 f166) 8 f167) 9 f168) 10 f169) 11 f170) J T Pi w := hO.to rfl
              exact W.iret (v := (nI en9)) hx hb hr (fun t99 ht99 hW99 => ⟨⟨_, (w, (sz165, f166, f167, f168, f169, f170, (nI en9))), rfl, ⟨rfl, hz173, hz174, hO⟩, by rw [ht99]; exact hP, hD⟩, hS.F ht99⟩) hS.2.2 dX10_addNumber_99
            · refine lv_aload_n hx hb dX10_addNumber_79 rfl (lv_at hl 5 rfl) ?_
              refine lv_bipush (v := 68) hx hb dX10_addNumber_80 (by decide) ?_
              refine lv_iload_n hx hb dX10_addNumber_82 rfl (lv_at hl 4 rfl) ?_
              refine lv_iconst (v := 0) hx hb dX10_addNumber_83 (by decide) ?_
              refine lv_iload_n hx hb dX10_addNumber_84 rfl (lv_at hl 4 rfl) ?_
              have hO : OKW G h0 a (upd (upd (upd F 1 (nI ln)) 2 (nI sz)) 2 (nI sz)) R Z B J T Pi w := hO.to rfl
              obtain ⟨_, qr178, hqr179⟩ := hO.2.1 2 _ (sg_2 G h0 a _ _ _ _ _)
              refine pc_V0 (G := G) (As := [.int 68, .int (nI at9), .int 0, .int (nI at9)]) (rest := []) hx hb hml hown hq hE hX pX0_al hP hD hS hA hl.1 (K_add l G h0 a (upd (upd F 1 (nI ln)) 2 (nI sz)) R Z B J T Pi w 68 (nI at9) 0 (nI at9) sz (by omega) hO) (gV pw_1272 pw_1273 pw_1274 pw_59 pw_1271) hV_X10_add qr178 7 hqr179 rfl rfl rfl (Nat.le_of_ble_eq_true rfl) dX10_addNumber_85 ⟨Nat.le_of_ble_eq_true rfl, Nat.le_of_ble_eq_true rfl⟩ ⟨Nat.le_of_ble_eq_true rfl, Nat.le_of_ble_eq_true rfl⟩ (fun v177 u175 H locs hw176 hP hD hS => ?_)
              obtain ⟨w, sz180, f181, f182, f183, f184, f185⟩ := u175
              obtain ⟨hw176, h186, h187, hO⟩ := hw176
              have h186 : sz180 ≤ 5000 := h186
              have h187 : sz180 ≤ sz + 1 := h187
              obtain rfl : v177 = some (.int (nI at9)) := hw176
              have hO : OKW G h0 a (upd (upd F 1 (nI ln)) 2 (nI sz180)) R Z (updA (updA (updA (updA (updA B 7 f181) 8 f182) 9 f183) 10 f184) 11 f185) J T Pi w := hO.to rfl
              refine W.widen (k := 0) (n := 0) (Nat.le_of_ble_eq_true rfl) (Nat.le_of_ble_eq_true rfl) ?_
              refine W.eq (g2 := F0 m 88 ls [.int (nI at9)]) rfl ?_
              have hz188 : sz180 ≤ 5000 := (by omega)
              have hz189 : sz180 ≤ sz + 1 := (by omega)
              have hO : OKW G h0 a (upd (upd F 1 (nI ln)) 2 (nI sz180)) R Z (updA (updA (updA (updA (updA B 7 f181) 8 f182) 9 f183) 10 f184) 11 f185) J T Pi w := hO.to rfl
              exact W.iret (v := (nI at9)) hx hb hr (fun t99 ht99 hW99 => ⟨⟨_, (w, (sz180, f181, f182, f183, f184, f185, (nI at9))), rfl, ⟨rfl, hz188, hz189, hO⟩, by rw [ht99]; exact hP, hD⟩, hS.F ht99⟩) hS.2.2 dX10_addNumber_88
        · have n190 : ¬ (en9 ≤ i2) := fun h9 => c137 ((nI_leI (a := en9) (b := i2) (by omega) (by omega)).mpr h9)
          refine lv_iload hx hb dX10_addNumber_26 (lv_at hl 1 rfl) ?_
          refine lv_if_eq (tgt := 66) hx hb dX10_addNumber_28 (by decide) (fun c191 => ?_) (fun c191 => ?_)
          · refine lv_iload hx hb dX10_addNumber_66 (lv_at hl 1 rfl) ?_
            refine lv_if_eq (tgt := 79) hx hb dX10_addNumber_68 (by decide) (fun c192 => ?_) (fun c192 => ?_)
            · refine lv_aload_n hx hb dX10_addNumber_79 rfl (lv_at hl 5 rfl) ?_
              refine lv_bipush (v := 68) hx hb dX10_addNumber_80 (by decide) ?_
              refine lv_iload_n hx hb dX10_addNumber_82 rfl (lv_at hl 4 rfl) ?_
              refine lv_iconst (v := 0) hx hb dX10_addNumber_83 (by decide) ?_
              refine lv_iload_n hx hb dX10_addNumber_84 rfl (lv_at hl 4 rfl) ?_
              have hO : OKW G h0 a (upd (upd (upd F 1 (nI ln)) 2 (nI sz)) 2 (nI sz)) R Z B J T Pi w := hO.to rfl
              obtain ⟨_, qr196, hqr197⟩ := hO.2.1 2 _ (sg_2 G h0 a _ _ _ _ _)
              refine pc_V0 (G := G) (As := [.int 68, .int (nI at9), .int 0, .int (nI at9)]) (rest := []) hx hb hml hown hq hE hX pX0_al hP hD hS hA hl.1 (K_add l G h0 a (upd (upd F 1 (nI ln)) 2 (nI sz)) R Z B J T Pi w 68 (nI at9) 0 (nI at9) sz (by omega) hO) (gV pw_1272 pw_1273 pw_1274 pw_59 pw_1271) hV_X10_add qr196 7 hqr197 rfl rfl rfl (Nat.le_of_ble_eq_true rfl) dX10_addNumber_85 ⟨Nat.le_of_ble_eq_true rfl, Nat.le_of_ble_eq_true rfl⟩ ⟨Nat.le_of_ble_eq_true rfl, Nat.le_of_ble_eq_true rfl⟩ (fun v195 u193 H locs hw194 hP hD hS => ?_)
              obtain ⟨w, sz198, f199, f200, f201, f202, f203⟩ := u193
              obtain ⟨hw194, h204, h205, hO⟩ := hw194
              have h204 : sz198 ≤ 5000 := h204
              have h205 : sz198 ≤ sz + 1 := h205
              obtain rfl : v195 = some (.int (nI at9)) := hw194
              have hO : OKW G h0 a (upd (upd F 1 (nI ln)) 2 (nI sz198)) R Z (updA (updA (updA (updA (updA B 7 f199) 8 f200) 9 f201) 10 f202) 11 f203) J T Pi w := hO.to rfl
              refine W.widen (k := 0) (n := 0) (Nat.le_of_ble_eq_true rfl) (Nat.le_of_ble_eq_true rfl) ?_
              refine W.eq (g2 := F0 m 88 ls [.int (nI at9)]) rfl ?_
              have hz206 : sz198 ≤ 5000 := (by omega)
              have hz207 : sz198 ≤ sz + 1 := (by omega)
              have hO : OKW G h0 a (upd (upd F 1 (nI ln)) 2 (nI sz198)) R Z (updA (updA (updA (updA (updA B 7 f199) 8 f200) 9 f201) 10 f202) 11 f203) J T Pi w := hO.to rfl
              exact W.iret (v := (nI at9)) hx hb hr (fun t99 ht99 hW99 => ⟨⟨_, (w, (sz198, f199, f200, f201, f202, f203, (nI at9))), rfl, ⟨rfl, hz206, hz207, hO⟩, by rw [ht99]; exact hP, hD⟩, hS.F ht99⟩) hS.2.2 dX10_addNumber_88
            · refine lv_lload_n hx hb dX10_addNumber_71 rfl (lv_at hl 2 rfl) ?_
              refine lv_ldc2 (v := 2147483647) hx hb hown (hq _ pw_1279) dX10_addNumber_72 ?_
              refine W.lcmp hx hb dX10_addNumber_75 ?_
              refine lv_topi (fun x208 e209 => ?_)
              refine lv_if_le (tgt := 89) hx hb dX10_addNumber_76 (by decide) (fun c210 => ?_) (fun c210 => ?_)
              · refine lv_aload_n hx hb dX10_addNumber_89 rfl (lv_at hl 5 rfl) ?_
                refine lv_bipush (v := 66) hx hb dX10_addNumber_90 (by decide) ?_
                refine lv_iload_n hx hb dX10_addNumber_92 rfl (lv_at hl 4 rfl) ?_
                refine lv_lload_n hx hb dX10_addNumber_93 rfl (lv_at hl 2 rfl) ?_
                refine lv_l2i hx hb dX10_addNumber_94 rfl ?_
                refine lv_topi (fun x211 e212 => ?_)
                refine lv_iload_n hx hb dX10_addNumber_95 rfl (lv_at hl 3 rfl) ?_
                have hO : OKW G h0 a (upd (upd (upd F 1 (nI ln)) 2 (nI sz)) 2 (nI sz)) R Z B J T Pi w := hO.to rfl
                obtain ⟨_, qr216, hqr217⟩ := hO.2.1 2 _ (sg_2 G h0 a _ _ _ _ _)
                refine pc_V0 (G := G) (As := [.int 66, .int (nI at9), .int x211, .int (nI en9)]) (rest := []) hx hb hml hown hq hE hX pX0_al hP hD hS hA hl.1 (K_add l G h0 a (upd (upd F 1 (nI ln)) 2 (nI sz)) R Z B J T Pi w 66 (nI at9) x211 (nI en9) sz (by omega) hO) (gV pw_1272 pw_1273 pw_1274 pw_59 pw_1271) hV_X10_add qr216 7 hqr217 rfl rfl rfl (Nat.le_of_ble_eq_true rfl) dX10_addNumber_96 ⟨Nat.le_of_ble_eq_true rfl, Nat.le_of_ble_eq_true rfl⟩ ⟨Nat.le_of_ble_eq_true rfl, Nat.le_of_ble_eq_true rfl⟩ (fun v215 u213 H locs hw214 hP hD hS => ?_)
                obtain ⟨w, sz218, f219, f220, f221, f222, f223⟩ := u213
                obtain ⟨hw214, h224, h225, hO⟩ := hw214
                have h224 : sz218 ≤ 5000 := h224
                have h225 : sz218 ≤ sz + 1 := h225
                obtain rfl : v215 = some (.int (nI en9)) := hw214
                have hO : OKW G h0 a (upd (upd F 1 (nI ln)) 2 (nI sz218)) R Z (updA (updA (updA (updA (updA B 7 f219) 8 f220) 9 f221) 10 f222) 11 f223) J T Pi w := hO.to rfl
                refine W.widen (k := 0) (n := 0) (Nat.le_of_ble_eq_true rfl) (Nat.le_of_ble_eq_true rfl) ?_
                refine W.eq (g2 := F0 m 99 ls [.int (nI en9)]) rfl ?_
                have hz226 : sz218 ≤ 5000 := (by omega)
                have hz227 : sz218 ≤ sz + 1 := (by omega)
                have hO : OKW G h0 a (upd (upd F 1 (nI ln)) 2 (nI sz218)) R Z (updA (updA (updA (updA (updA B 7 f219) 8 f220) 9 f221) 10 f222) 11 f223) J T Pi w := hO.to rfl
                exact W.iret (v := (nI en9)) hx hb hr (fun t99 ht99 hW99 => ⟨⟨_, (w, (sz218, f219, f220, f221, f222, f223, (nI en9))), rfl, ⟨rfl, hz226, hz227, hO⟩, by rw [ht99]; exact hP, hD⟩, hS.F ht99⟩) hS.2.2 dX10_addNumber_99
              · refine lv_aload_n hx hb dX10_addNumber_79 rfl (lv_at hl 5 rfl) ?_
                refine lv_bipush (v := 68) hx hb dX10_addNumber_80 (by decide) ?_
                refine lv_iload_n hx hb dX10_addNumber_82 rfl (lv_at hl 4 rfl) ?_
                refine lv_iconst (v := 0) hx hb dX10_addNumber_83 (by decide) ?_
                refine lv_iload_n hx hb dX10_addNumber_84 rfl (lv_at hl 4 rfl) ?_
                have hO : OKW G h0 a (upd (upd (upd F 1 (nI ln)) 2 (nI sz)) 2 (nI sz)) R Z B J T Pi w := hO.to rfl
                obtain ⟨_, qr231, hqr232⟩ := hO.2.1 2 _ (sg_2 G h0 a _ _ _ _ _)
                refine pc_V0 (G := G) (As := [.int 68, .int (nI at9), .int 0, .int (nI at9)]) (rest := []) hx hb hml hown hq hE hX pX0_al hP hD hS hA hl.1 (K_add l G h0 a (upd (upd F 1 (nI ln)) 2 (nI sz)) R Z B J T Pi w 68 (nI at9) 0 (nI at9) sz (by omega) hO) (gV pw_1272 pw_1273 pw_1274 pw_59 pw_1271) hV_X10_add qr231 7 hqr232 rfl rfl rfl (Nat.le_of_ble_eq_true rfl) dX10_addNumber_85 ⟨Nat.le_of_ble_eq_true rfl, Nat.le_of_ble_eq_true rfl⟩ ⟨Nat.le_of_ble_eq_true rfl, Nat.le_of_ble_eq_true rfl⟩ (fun v230 u228 H locs hw229 hP hD hS => ?_)
                obtain ⟨w, sz233, f234, f235, f236, f237, f238⟩ := u228
                obtain ⟨hw229, h239, h240, hO⟩ := hw229
                have h239 : sz233 ≤ 5000 := h239
                have h240 : sz233 ≤ sz + 1 := h240
                obtain rfl : v230 = some (.int (nI at9)) := hw229
                have hO : OKW G h0 a (upd (upd F 1 (nI ln)) 2 (nI sz233)) R Z (updA (updA (updA (updA (updA B 7 f234) 8 f235) 9 f236) 10 f237) 11 f238) J T Pi w := hO.to rfl
                refine W.widen (k := 0) (n := 0) (Nat.le_of_ble_eq_true rfl) (Nat.le_of_ble_eq_true rfl) ?_
                refine W.eq (g2 := F0 m 88 ls [.int (nI at9)]) rfl ?_
                have hz241 : sz233 ≤ 5000 := (by omega)
                have hz242 : sz233 ≤ sz + 1 := (by omega)
                have hO : OKW G h0 a (upd (upd F 1 (nI ln)) 2 (nI sz233)) R Z (updA (updA (updA (updA (updA B 7 f234) 8 f235) 9 f236) 10 f237) 11 f238) J T Pi w := hO.to rfl
                exact W.iret (v := (nI at9)) hx hb hr (fun t99 ht99 hW99 => ⟨⟨_, (w, (sz233, f234, f235, f236, f237, f238, (nI at9))), rfl, ⟨rfl, hz241, hz242, hO⟩, by rw [ht99]; exact hP, hD⟩, hS.F ht99⟩) hS.2.2 dX10_addNumber_88
          · refine lv_aload_n hx hb dX10_addNumber_31 rfl (lv_at hl 5 rfl) ?_
            refine lv_iload hx hb dX10_addNumber_32 (lv_at hl 0 rfl) ?_
            have hO : OKW G h0 a (upd (upd (upd F 1 (nI ln)) 2 (nI sz)) 1 (nI ln)) R Z B J T Pi w := hO.to rfl
            obtain ⟨_, qr246, hqr247⟩ := hO.2.1 2 _ (sg_2 G h0 a _ _ _ _ _)
            refine pc_V0 (G := G) (As := [.int (nI i2)]) (rest := []) hx hb hml hown hq hE hX pX0_al hP hD hS hA hl.1 (K_byteAt l G h0 a (upd (upd F 1 (nI ln)) 2 (nI sz)) R Z B J T Pi w (nI i2) ln (by omega) hO) (gV pw_1266 pw_1267 pw_1268 pw_59 pw_1264) hV_X10_byteAt qr246 7 hqr247 rfl rfl rfl (Nat.le_of_ble_eq_true rfl) dX10_addNumber_34 ⟨Nat.le_of_ble_eq_true rfl, Nat.le_of_ble_eq_true rfl⟩ ⟨Nat.le_of_ble_eq_true rfl, Nat.le_of_ble_eq_true rfl⟩ (fun v245 u243 H locs hw244 hP hD hS => ?_)
            obtain ⟨w, r248⟩ := u243
            obtain ⟨hw244, hO⟩ := hw244
            obtain rfl : v245 = some (.int r248) := hw244
            have hO : OKW G h0 a (upd (upd F 1 (nI ln)) 2 (nI sz)) R Z B J T Pi w := hO.to rfl
            refine W.widen (k := 0) (n := 0) (Nat.le_of_ble_eq_true rfl) (Nat.le_of_ble_eq_true rfl) ?_
            refine W.eq (g2 := F0 m 37 ls [.int r248]) rfl ?_
            refine pc_SN (G := G) (As := [.int r248]) (rest := []) hx hb hml hown hq hE hX pX0_al hP hS hA hl.1 (s_dig l G r248) (gS pw_1280 pw_1281 pw_59 pw_1269) hS_X10_isDigit rfl (Nat.le_of_ble_eq_true rfl) dX10_addNumber_37 ⟨Nat.le_of_ble_eq_true rfl, Nat.le_of_ble_eq_true rfl⟩ ⟨Nat.le_of_ble_eq_true rfl, Nat.le_of_ble_eq_true rfl⟩ (fun v251 u249 H locs hw250 hP hS => ?_)
            obtain ⟨rfl, h253⟩ := hw250
            refine W.widen (k := 0) (n := 0) (Nat.le_of_ble_eq_true rfl) (Nat.le_of_ble_eq_true rfl) ?_
            refine W.eq (g2 := F0 m 40 ls [.int (nI u249)]) rfl ?_
            refine lv_istore (lv' := [(5, .int (nI u249)), (6, .int (nI i2)), (3, .long nu2), (2, .int (nI en9)), (1, .int (nI at9)), (0, .ref (a 1))]) hx hb dX10_addNumber_40 hl (by decide) rfl (fun ls hl => ?_)
            refine lv_lload_n hx hb dX10_addNumber_42 rfl (lv_at hl 2 rfl) ?_
            refine lv_ldc2 (v := 10) hx hb hown (hq _ pw_1277) dX10_addNumber_43 ?_
            refine lv_lmul hx hb dX10_addNumber_46 ?_
            refine lv_topl (fun x254 e255 => ?_)
            refine lv_aload_n hx hb dX10_addNumber_47 rfl (lv_at hl 5 rfl) ?_
            refine lv_iload hx hb dX10_addNumber_48 (lv_at hl 1 rfl) ?_
            have hO : OKW G h0 a (upd (upd (upd F 1 (nI ln)) 2 (nI sz)) 1 (nI ln)) R Z B J T Pi w := hO.to rfl
            obtain ⟨_, qr259, hqr260⟩ := hO.2.1 2 _ (sg_2 G h0 a _ _ _ _ _)
            refine pc_V0 (G := G) (As := [.int (nI i2)]) (rest := [.long x254]) hx hb hml hown hq hE hX pX0_al hP hD hS hA hl.1 (K_byteAt l G h0 a (upd (upd F 1 (nI ln)) 2 (nI sz)) R Z B J T Pi w (nI i2) ln (by omega) hO) (gV pw_1266 pw_1267 pw_1268 pw_59 pw_1264) hV_X10_byteAt qr259 7 hqr260 rfl rfl rfl (Nat.le_of_ble_eq_true rfl) dX10_addNumber_50 ⟨Nat.le_of_ble_eq_true rfl, Nat.le_of_ble_eq_true rfl⟩ ⟨Nat.le_of_ble_eq_true rfl, Nat.le_of_ble_eq_true rfl⟩ (fun v258 u256 H locs hw257 hP hD hS => ?_)
            obtain ⟨w, r261⟩ := u256
            obtain ⟨hw257, hO⟩ := hw257
            obtain rfl : v258 = some (.int r261) := hw257
            have hO : OKW G h0 a (upd (upd F 1 (nI ln)) 2 (nI sz)) R Z B J T Pi w := hO.to rfl
            refine W.widen (k := 0) (n := 0) (Nat.le_of_ble_eq_true rfl) (Nat.le_of_ble_eq_true rfl) ?_
            refine W.eq (g2 := F0 m 53 ls [.int r261, .long x254]) rfl ?_
            refine lv_i2l hx hb dX10_addNumber_53 rfl ?_
            refine lv_topl (fun x262 e263 => ?_)
            refine lv_ladd hx hb dX10_addNumber_54 ?_
            refine lv_topl (fun x264 e265 => ?_)
            refine lv_ldc2 (v := 48) hx hb hown (hq _ pw_1278) dX10_addNumber_55 ?_
            refine lv_lsub hx hb dX10_addNumber_58 ?_
            refine lv_topl (fun x266 e267 => ?_)
            refine lv_lstore_n (lv' := [(3, .long x266), (5, .int (nI u249)), (6, .int (nI i2)), (2, .int (nI en9)), (1, .int (nI at9)), (0, .ref (a 1))]) hx hb dX10_addNumber_59 rfl hl (by decide) rfl (fun ls hl => ?_)
            refine lv_iinc (v := (nI (i2 + 1))) (lv' := [(6, .int (nI (i2 + 1))), (3, .long x266), (5, .int (nI u249)), (2, .int (nI en9)), (1, .int (nI at9)), (0, .ref (a 1))]) hx hb dX10_addNumber_60 hl (k := 2) rfl (nI_1 i2) (by decide) rfl (fun ls hl => ?_)
            refine lv_goto (tgt := 20) hx hb dX10_addNumber_63 (by decide) ?_
            have hO : OKW G h0 a (upd (upd F 1 (nI ln)) 2 (nI sz)) R Z B J T Pi w := hO.to rfl
            exact ih_i (i2 + 1) x266 (nI u249) _ _ _ _ (by omega) (by omega) (by omega) hP hD hS hO (lv_sub hl [0, 2, 1, 3, 4, 5] rfl)
    have hO : OKW G h0 a (upd (upd F 1 (nI ln)) 2 (nI sz)) R Z B J T Pi w := hO.to rfl
    exact loop_i (en9 + 1) at9 (0 : Int64) (1 : Int32) _ _ _ _ (by omega) (by omega) (by omega) hP hD hS hO (lv_sub hl [0, 1, 2, 5, 4, 3] rfl)
theorem dX10_addToken_0 : decode cX10_addToken 0 = .ok (.iload_n 1, 1) := by decide +kernel
theorem dX10_addToken_1 : decode cX10_addToken 1 = .ok (.istore_n 2, 1) := by decide +kernel
theorem dX10_addToken_2 : decode cX10_addToken 2 = .ok (.iload_n 2, 1) := by decide +kernel
theorem dX10_addToken_3 : decode cX10_addToken 3 = .ok (.aload_n 0, 1) := by decide +kernel
theorem dX10_addToken_4 : decode cX10_addToken 4 = .ok (.getfield 76, 3) := by decide +kernel
theorem dX10_addToken_7 : decode cX10_addToken 7 = .ok (.if_icmp .ge 31, 3) := by decide +kernel
theorem dX10_addToken_38 : decode cX10_addToken 38 = .ok (.iload_n 2, 1) := by decide +kernel
theorem dX10_addToken_39 : decode cX10_addToken 39 = .ok (.iload_n 1, 1) := by decide +kernel
theorem dX10_addToken_40 : decode cX10_addToken 40 = .ok (.if_icmp .ne 9, 3) := by decide +kernel
theorem dX10_addToken_49 : decode cX10_addToken 49 = .ok (.aload_n 0, 1) := by decide +kernel
theorem dX10_addToken_50 : decode cX10_addToken 50 = .ok (.iload_n 1, 1) := by decide +kernel
theorem dX10_addToken_51 : decode cX10_addToken 51 = .ok (.invokevirtual 112, 3) := by decide +kernel
theorem dX10_addToken_54 : decode cX10_addToken 54 = .ok (.invokestatic 115, 3) := by decide +kernel
theorem dX10_addToken_57 : decode cX10_addToken 57 = .ok (.ifCond .eq 10, 3) := by decide +kernel
theorem dX10_addToken_67 : decode cX10_addToken 67 = .ok (.iload_n 2, 1) := by decide +kernel
theorem dX10_addToken_68 : decode cX10_addToken 68 = .ok (.iload_n 1, 1) := by decide +kernel
theorem dX10_addToken_69 : decode cX10_addToken 69 = .ok (.isub, 1) := by decide +kernel
theorem dX10_addToken_70 : decode cX10_addToken 70 = .ok (.bipush 16, 2) := by decide +kernel
theorem dX10_addToken_72 : decode cX10_addToken 72 = .ok (.if_icmp .le 13, 3) := by decide +kernel
theorem dX10_addToken_85 : decode cX10_addToken 85 = .ok (.aload_n 0, 1) := by decide +kernel
theorem dX10_addToken_86 : decode cX10_addToken 86 = .ok (.aload_n 0, 1) := by decide +kernel
theorem dX10_addToken_87 : decode cX10_addToken 87 = .ok (.getfield 23, 3) := by decide +kernel
theorem dX10_addToken_90 : decode cX10_addToken 90 = .ok (.iload_n 1, 1) := by decide +kernel
theorem dX10_addToken_91 : decode cX10_addToken 91 = .ok (.iadd, 1) := by decide +kernel
theorem dX10_addToken_92 : decode cX10_addToken 92 = .ok (.iload_n 2, 1) := by decide +kernel
theorem dX10_addToken_93 : decode cX10_addToken 93 = .ok (.iload_n 1, 1) := by decide +kernel
theorem dX10_addToken_94 : decode cX10_addToken 94 = .ok (.isub, 1) := by decide +kernel
theorem dX10_addToken_95 : decode cX10_addToken 95 = .ok (.invokevirtual 109, 3) := by decide +kernel
theorem dX10_addToken_98 : decode cX10_addToken 98 = .ok (.istore_n 3, 1) := by decide +kernel
theorem dX10_addToken_99 : decode cX10_addToken 99 = .ok (.aload_n 0, 1) := by decide +kernel
theorem dX10_addToken_100 : decode cX10_addToken 100 = .ok (.iload_n 3, 1) := by decide +kernel
theorem dX10_addToken_101 : decode cX10_addToken 101 = .ok (.bipush 29, 2) := by decide +kernel
theorem dX10_addToken_103 : decode cX10_addToken 103 = .ok (.if_icmp .ge 7, 3) := by decide +kernel
theorem dX10_addToken_110 : decode cX10_addToken 110 = .ok (.bipush 65, 2) := by decide +kernel
theorem dX10_addToken_112 : decode cX10_addToken 112 = .ok (.iload_n 1, 1) := by decide +kernel
theorem dX10_addToken_113 : decode cX10_addToken 113 = .ok (.iload_n 3, 1) := by decide +kernel
theorem dX10_addToken_114 : decode cX10_addToken 114 = .ok (.iload_n 2, 1) := by decide +kernel
theorem dX10_addToken_115 : decode cX10_addToken 115 = .ok (.invokevirtual 128, 3) := by decide +kernel
theorem dX10_addToken_118 : decode cX10_addToken 118 = .ok (.ireturn, 1) := by decide +kernel
theorem dX10_addToken_106 : decode cX10_addToken 106 = .ok (.iload_n 3, 1) := by decide +kernel
theorem dX10_addToken_107 : decode cX10_addToken 107 = .ok (.goto 5, 3) := by decide +kernel
theorem dX10_addToken_75 : decode cX10_addToken 75 = .ok (.aload_n 0, 1) := by decide +kernel
theorem dX10_addToken_76 : decode cX10_addToken 76 = .ok (.bipush 68, 2) := by decide +kernel
theorem dX10_addToken_78 : decode cX10_addToken 78 = .ok (.iload_n 1, 1) := by decide +kernel
theorem dX10_addToken_79 : decode cX10_addToken 79 = .ok (.iconst 0, 1) := by decide +kernel
theorem dX10_addToken_80 : decode cX10_addToken 80 = .ok (.iload_n 1, 1) := by decide +kernel
theorem dX10_addToken_81 : decode cX10_addToken 81 = .ok (.invokevirtual 128, 3) := by decide +kernel
theorem dX10_addToken_84 : decode cX10_addToken 84 = .ok (.ireturn, 1) := by decide +kernel
theorem dX10_addToken_60 : decode cX10_addToken 60 = .ok (.aload_n 0, 1) := by decide +kernel
theorem dX10_addToken_61 : decode cX10_addToken 61 = .ok (.iload_n 1, 1) := by decide +kernel
theorem dX10_addToken_62 : decode cX10_addToken 62 = .ok (.iload_n 2, 1) := by decide +kernel
theorem dX10_addToken_63 : decode cX10_addToken 63 = .ok (.invokevirtual 125, 3) := by decide +kernel
theorem dX10_addToken_66 : decode cX10_addToken 66 = .ok (.ireturn, 1) := by decide +kernel
theorem dX10_addToken_43 : decode cX10_addToken 43 = .ok (.aload_n 0, 1) := by decide +kernel
theorem dX10_addToken_44 : decode cX10_addToken 44 = .ok (.iload_n 1, 1) := by decide +kernel
theorem dX10_addToken_45 : decode cX10_addToken 45 = .ok (.invokevirtual 122, 3) := by decide +kernel
theorem dX10_addToken_48 : decode cX10_addToken 48 = .ok (.ireturn, 1) := by decide +kernel
theorem dX10_addToken_10 : decode cX10_addToken 10 = .ok (.aload_n 0, 1) := by decide +kernel
theorem dX10_addToken_11 : decode cX10_addToken 11 = .ok (.iload_n 2, 1) := by decide +kernel
theorem dX10_addToken_12 : decode cX10_addToken 12 = .ok (.invokevirtual 112, 3) := by decide +kernel
theorem dX10_addToken_15 : decode cX10_addToken 15 = .ok (.invokestatic 115, 3) := by decide +kernel
theorem dX10_addToken_18 : decode cX10_addToken 18 = .ok (.ifCond .ne 14, 3) := by decide +kernel
theorem dX10_addToken_32 : decode cX10_addToken 32 = .ok (.iinc 2 1, 3) := by decide +kernel
theorem dX10_addToken_35 : decode cX10_addToken 35 = .ok (.goto (-33), 3) := by decide +kernel
theorem dX10_addToken_21 : decode cX10_addToken 21 = .ok (.aload_n 0, 1) := by decide +kernel
theorem dX10_addToken_22 : decode cX10_addToken 22 = .ok (.iload_n 2, 1) := by decide +kernel
theorem dX10_addToken_23 : decode cX10_addToken 23 = .ok (.invokevirtual 112, 3) := by decide +kernel
theorem dX10_addToken_26 : decode cX10_addToken 26 = .ok (.invokestatic 119, 3) := by decide +kernel
theorem dX10_addToken_29 : decode cX10_addToken 29 = .ok (.ifCond .eq 9, 3) := by decide +kernel
theorem hV_X10_nameOf : yX10_nameOf.cls = RX10 ∧ yX10_nameOf.cls ≠ "java/lang/invoke/MethodHandle" ∧ yX10_nameOf.cls ≠ "java/lang/invoke/VarHandle" ∧ (parseMethodDescriptor yX10_nameOf.desc).map (fun d => d.parameters.length) = some 2 := by decide +kernel
theorem hV_X10_addNumber : yX10_addNumber.cls = RX10 ∧ yX10_addNumber.cls ≠ "java/lang/invoke/MethodHandle" ∧ yX10_addNumber.cls ≠ "java/lang/invoke/VarHandle" ∧ (parseMethodDescriptor yX10_addNumber.desc).map (fun d => d.parameters.length) = some 2 := by decide +kernel
theorem hV_X10_addSign : yX10_addSign.cls = RX10 ∧ yX10_addSign.cls ≠ "java/lang/invoke/MethodHandle" ∧ yX10_addSign.cls ≠ "java/lang/invoke/VarHandle" ∧ (parseMethodDescriptor yX10_addSign.desc).map (fun d => d.parameters.length) = some 1 := by decide +kernel
theorem hS_X10_isLetter : yX10_isLetter.cls ≠ "java/lang/invoke/MethodHandle" ∧ yX10_isLetter.cls ≠ "java/lang/invoke/VarHandle" ∧ (parseMethodDescriptor yX10_isLetter.desc).map (fun d => d.parameters.length) = some 1 := by decide +kernel
set_option maxHeartbeats 6000000 in
set_option maxRecDepth 100000 in
theorem K_addToken (l : Launch) (G : pT) (h0 : Nat) (a : Nat → Nat) (F : Nat → Int32) (R : Nat → Value) (Z : Int64) (B : Nat → Nat → Int32) (J : Nat → Nat → Int64) (T : Nat → Nat) (Pi : Nat → va_E → Prop) (w : va_W) (at9 : Nat) (ln : Nat) (sz : Nat) (nm : Nat) (ns : Nat → Int32) (nl : Nat → Int32) (nn : Nat → Int32) (bk : Nat → Int32) (hln : ln ≤ 5000) (hsz : sz ≤ 5000) (hat : at9 < ln) (hnm : NmR nm ns nl nn bk) (hO : OKW G h0 a (upd (upd (upd F 1 (nI ln)) 2 (nI sz)) 3 (nI nm)) R Z (updA (updA (updA (updA B 12 ns) 13 nl) 14 nn) 15 bk) J T Pi w) : PM l G pX0 yX10_addToken cX10_addToken 4 (some .int) ({ frames := 7, cells := 0, slots := 0, locals := 169 }) [.ref (a 1), .int (nI at9)] w (fun (v : Option Value) (u : va_W × (Nat × (Nat → Int32) × (Nat → Int32) × (Nat → Int32) × (Nat → Int32) × (Nat → Int32) × Nat × (Nat → Int32) × (Nat → Int32) × (Nat → Int32) × (Nat → Int32) × Int32)) => v = some (.int u.2.2.2.2.2.2.2.2.2.2.2.2) ∧ (u.2.1 ≤ 5000) ∧ (u.2.1 ≤ sz + 1) ∧ (NmR u.2.2.2.2.2.2.2.1 u.2.2.2.2.2.2.2.2.1 u.2.2.2.2.2.2.2.2.2.1 u.2.2.2.2.2.2.2.2.2.2.1 u.2.2.2.2.2.2.2.2.2.2.2.1) ∧ (OKW G h0 a (upd (upd (upd F 1 (nI ln)) 2 (nI u.2.1)) 3 (nI u.2.2.2.2.2.2.2.1)) R Z (updA (updA (updA (updA (updA (updA (updA (updA (updA B 7 u.2.2.1) 8 u.2.2.2.1) 9 u.2.2.2.2.1) 10 u.2.2.2.2.2.1) 11 u.2.2.2.2.2.2.1) 12 u.2.2.2.2.2.2.2.2.1) 13 u.2.2.2.2.2.2.2.2.2.1) 14 u.2.2.2.2.2.2.2.2.2.2.1) 15 u.2.2.2.2.2.2.2.2.2.2.2.1) J T Pi u.1)) (fun u => u.1) := by
  intro sz
  refine Met.ofW (cc := cX10_addToken) (maxL := 4) (ret := (some .int)) (by decide) rfl ?_
  intro p e s m args below meth c s₁ B9 hml hv
  obtain ⟨rfl, hsz, hP, hD0, hE, hX⟩ := hv
  have hx := B9.exec
  have hb := B9.bytes
  have hr := B9.returns
  have hts := atoms_spec (ws := Cond.code yX10_addToken cX10_addToken 4 (some .int) :: pw) B9.pre
  have hq : ∀ w ∈ pw, w.before _ s = true := fun w h => hts w (List.mem_cons_of_mem _ h)
  have hown : s.vm.findClass RX10 = some m.cls := findClass_of_methodNamed B9.named
  have hlocks := B9.notSynchronized
  subst hsz
  have hD := hD0.self (sz := s.heap.size)
  have hA : ∀ q : Nat, s.heap.size ≤ q → va_A w s.heap.size q := fun q h => Or.inr h
  generalize va_A w s.heap.size = A at hD hE hA ⊢
  have hS : va_S A s.heap s.heap [] := va_S.rf
  have hl := lv_entry ([.ref (a 1), .int (nI at9)]) (n := 4) (Nat.le_of_ble_eq_true rfl)
  rw [lg_entry_eq]
  generalize (lg_sl ([.ref (a 1), .int (nI at9)]) ++ List.replicate (4 - (lg_sl ([.ref (a 1), .int (nI at9)])).length) Slot.unset).toArray = ls at hl ⊢
  have hl : lv_has ls 4 [(0, .ref (a 1)), (1, .int (nI at9))] := hl
  refine lv_iload_n hx hb dX10_addToken_0 rfl (lv_at hl 1 rfl) ?_
  refine lv_istore_n (lv' := [(2, .int (nI at9)), (0, .ref (a 1)), (1, .int (nI at9))]) hx hb dX10_addToken_1 rfl hl (by decide) rfl (fun ls hl => ?_)
  have loop_e : ∀ (n_e : Nat) (e2 : Nat) (H : Heap) (locs : List Loc) (ls : Array Slot) (w : va_W), e2 ≤ ln → ln + 1 ≤ e2 + n_e → (at9 ≤ e2) → va_P G.1 pCl w H → va_D A w → va_S A s.heap H locs → OKW G h0 a (upd (upd (upd F 1 (nI ln)) 2 (nI sz)) 3 (nI nm)) R Z (updA (updA (updA (updA B 12 ns) 13 nl) 14 nn) 15 bk) J T Pi w → lv_has ls 4 [(2, .int (nI e2)), (1, .int (nI at9)), (0, .ref (a 1))] → W p l e (headSpec (Cond.code yX10_addToken cX10_addToken 4 (some .int) :: pw) ({ frames := 7, cells := 0, slots := 0, locals := 169 } : Room)).room s m ([.ref (a 1), .int (nI at9)] : List Value).toArray below meth c H locs 0 0 (MQ below (pQ G A (fun (v : Option Value) (u : va_W × (Nat × (Nat → Int32) × (Nat → Int32) × (Nat → Int32) × (Nat → Int32) × (Nat → Int32) × Nat × (Nat → Int32) × (Nat → Int32) × (Nat → Int32) × (Nat → Int32) × Int32)) => v = some (.int u.2.2.2.2.2.2.2.2.2.2.2.2) ∧ (u.2.1 ≤ 5000) ∧ (u.2.1 ≤ sz + 1) ∧ (NmR u.2.2.2.2.2.2.2.1 u.2.2.2.2.2.2.2.2.1 u.2.2.2.2.2.2.2.2.2.1 u.2.2.2.2.2.2.2.2.2.2.1 u.2.2.2.2.2.2.2.2.2.2.2.1) ∧ (OKW G h0 a (upd (upd (upd F 1 (nI ln)) 2 (nI u.2.1)) 3 (nI u.2.2.2.2.2.2.2.1)) R Z (updA (updA (updA (updA (updA (updA (updA (updA (updA B 7 u.2.2.1) 8 u.2.2.2.1) 9 u.2.2.2.2.1) 10 u.2.2.2.2.2.1) 11 u.2.2.2.2.2.2.1) 12 u.2.2.2.2.2.2.2.2.1) 13 u.2.2.2.2.2.2.2.2.2.1) 14 u.2.2.2.2.2.2.2.2.2.2.1) 15 u.2.2.2.2.2.2.2.2.2.2.2.1) J T Pi u.1)) (fun u => u.1)) ([.ref (a 1), .int (nI at9)] : List Value).toArray s ({ frames := 7, cells := 0, slots := 0, locals := 169 } : Room).cells ({ frames := 7, cells := 0, slots := 0, locals := 169 } : Room).slots A) (F0 m 2 ls []) := by
    intro n_e
    induction n_e with
    | zero => intro e2 H locs ls w hk_e hn_e; omega
    | succ n_e ih_e =>
      intro e2 H locs ls w hk_e hn_e he2 hP hD hS hO hl
      refine lv_iload_n hx hb dX10_addToken_2 rfl (lv_at hl 0 rfl) ?_
      refine lv_aload_n hx hb dX10_addToken_3 rfl (lv_at hl 2 rfl) ?_
      refine c_get (v := .int (nI ln)) (C := RX10) (Tc := TX10) (N := 15) (ci := 7) hx hb hq pin_wsX100 hown hE hP hO 2 (sg_2 G h0 a _ _ _ _ _) rfl 2 (by decide) (hq _ pw_47) (fun _ h9 => h9) rfl dX10_addToken_4 ?_
      refine lv_icmp_ge (tgt := 38) hx hb dX10_addToken_7 (by decide) (fun c1 => ?_) (fun c1 => ?_)
      · have n2 : ln ≤ e2 := (nI_leI (a := ln) (b := e2) (by omega) (by omega)).mp c1
        refine lv_iload_n hx hb dX10_addToken_38 rfl (lv_at hl 0 rfl) ?_
        refine lv_iload_n hx hb dX10_addToken_39 rfl (lv_at hl 1 rfl) ?_
        refine lv_icmp_ne (tgt := 49) hx hb dX10_addToken_40 (by decide) (fun c3 => ?_) (fun c3 => ?_)
        · have n4 : ¬ (e2 = at9) := fun h9 => c3 ((nI_eq (a := e2) (b := at9) (by omega) (by omega)).mpr h9)
          refine lv_aload_n hx hb dX10_addToken_49 rfl (lv_at hl 2 rfl) ?_
          refine lv_iload_n hx hb dX10_addToken_50 rfl (lv_at hl 1 rfl) ?_
          have hO : OKW G h0 a (upd (upd (upd (upd F 1 (nI ln)) 2 (nI sz)) 3 (nI nm)) 1 (nI ln)) R Z (updA (updA (updA (updA B 12 ns) 13 nl) 14 nn) 15 bk) J T Pi w := hO.to rfl
          obtain ⟨_, qr8, hqr9⟩ := hO.2.1 2 _ (sg_2 G h0 a _ _ _ _ _)
          refine pc_V0 (G := G) (As := [.int (nI at9)]) (rest := []) hx hb hml hown hq hE hX pX0_al hP hD hS hA hl.1 (K_byteAt l G h0 a (upd (upd (upd F 1 (nI ln)) 2 (nI sz)) 3 (nI nm)) R Z (updA (updA (updA (updA B 12 ns) 13 nl) 14 nn) 15 bk) J T Pi w (nI at9) ln (by omega) hO) (gV pw_1266 pw_1267 pw_1268 pw_59 pw_1264) hV_X10_byteAt qr8 7 hqr9 rfl rfl rfl (Nat.le_of_ble_eq_true rfl) dX10_addToken_51 ⟨Nat.le_of_ble_eq_true rfl, Nat.le_of_ble_eq_true rfl⟩ ⟨Nat.le_of_ble_eq_true rfl, Nat.le_of_ble_eq_true rfl⟩ (fun v7 u5 H locs hw6 hP hD hS => ?_)
          obtain ⟨w, r10⟩ := u5
          obtain ⟨hw6, hO⟩ := hw6
          obtain rfl : v7 = some (.int r10) := hw6
          have hO : OKW G h0 a (upd (upd (upd F 1 (nI ln)) 2 (nI sz)) 3 (nI nm)) R Z (updA (updA (updA (updA B 12 ns) 13 nl) 14 nn) 15 bk) J T Pi w := hO.to rfl
          refine W.widen (k := 0) (n := 0) (Nat.le_of_ble_eq_true rfl) (Nat.le_of_ble_eq_true rfl) ?_
          refine W.eq (g2 := F0 m 54 ls [.int r10]) rfl ?_
          refine pc_SN (G := G) (As := [.int r10]) (rest := []) hx hb hml hown hq hE hX pX0_al hP hS hA hl.1 (s_dig l G r10) (gS pw_1280 pw_1281 pw_59 pw_1269) hS_X10_isDigit rfl (Nat.le_of_ble_eq_true rfl) dX10_addToken_54 ⟨Nat.le_of_ble_eq_true rfl, Nat.le_of_ble_eq_true rfl⟩ ⟨Nat.le_of_ble_eq_true rfl, Nat.le_of_ble_eq_true rfl⟩ (fun v13 u11 H locs hw12 hP hS => ?_)
          obtain ⟨rfl, h15⟩ := hw12
          refine W.widen (k := 0) (n := 0) (Nat.le_of_ble_eq_true rfl) (Nat.le_of_ble_eq_true rfl) ?_
          refine W.eq (g2 := F0 m 57 ls [.int (nI u11)]) rfl ?_
          refine lv_if_eq (tgt := 67) hx hb dX10_addToken_57 (by decide) (fun c16 => ?_) (fun c16 => ?_)
          · have n17 : u11 = 0 := (nI_eq (a := u11) (b := 0) (by omega) (by omega)).mp c16
            refine lv_iload_n hx hb dX10_addToken_67 rfl (lv_at hl 0 rfl) ?_
            refine lv_iload_n hx hb dX10_addToken_68 rfl (lv_at hl 1 rfl) ?_
            refine lv_isub hx hb dX10_addToken_69 ?_
            refine lv_topi (fun x18 e19 => ?_)
            obtain rfl : x18 = nI (e2 - at9) := e19.trans (nI_subN (a := at9) (b := e2) (by omega))
            refine lv_bipush (v := 16) hx hb dX10_addToken_70 (by decide) ?_
            refine lv_icmp_le (tgt := 85) hx hb dX10_addToken_72 (by decide) (fun c20 => ?_) (fun c20 => ?_)
            · have n21 : (e2 - at9) ≤ 16 := (nI_leI (a := (e2 - at9)) (b := 16) (by omega) (by omega)).mp c20
              refine lv_aload_n hx hb dX10_addToken_85 rfl (lv_at hl 2 rfl) ?_
              refine lv_aload_n hx hb dX10_addToken_86 rfl (lv_at hl 2 rfl) ?_
              refine c_get (v := .int 220) (C := RX10) (Tc := TX10) (N := 15) (ci := 7) hx hb hq pin_wsX100 hown hE hP hO 2 (sg_2 G h0 a _ _ _ _ _) rfl 1 (by decide) (hq _ pw_1243) (fun _ h9 => h9) rfl dX10_addToken_87 ?_
              refine lv_iload_n hx hb dX10_addToken_90 rfl (lv_at hl 1 rfl) ?_
              refine lv_iadd hx hb dX10_addToken_91 ?_
              refine lv_topi (fun x22 e23 => ?_)
              obtain rfl : x22 = nI (220 + at9) := e23.trans (nI_add (220) (at9))
              refine lv_iload_n hx hb dX10_addToken_92 rfl (lv_at hl 0 rfl) ?_
              refine lv_iload_n hx hb dX10_addToken_93 rfl (lv_at hl 1 rfl) ?_
              refine lv_isub hx hb dX10_addToken_94 ?_
              refine lv_topi (fun x24 e25 => ?_)
              obtain rfl : x24 = nI (e2 - at9) := e25.trans (nI_subN (a := at9) (b := e2) (by omega))
              have hO : OKW G h0 a (upd (upd (upd (upd F 1 (nI ln)) 2 (nI sz)) 3 (nI nm)) 3 (nI nm)) R Z (updA (updA (updA (updA (updA (updA (updA (updA B 12 ns) 13 nl) 14 nn) 15 bk) 12 ns) 13 nl) 14 nn) 15 bk) J T Pi w := hO.to rfl
              obtain ⟨_, qr29, hqr30⟩ := hO.2.1 2 _ (sg_2 G h0 a _ _ _ _ _)
              refine pc_V0 (G := G) (As := [.int (nI (220 + at9)), .int (nI (e2 - at9))]) (rest := []) hx hb hml hown hq hE hX pX0_al hP hD hS hA hl.1 (K_nameOf l G h0 a (upd (upd (upd F 1 (nI ln)) 2 (nI sz)) 3 (nI nm)) R Z (updA (updA (updA (updA B 12 ns) 13 nl) 14 nn) 15 bk) J T Pi w (220 + at9) (e2 - at9) nm ns nl nn bk (by omega) hnm hO) (gV pw_1261 pw_1262 pw_1263 pw_59 pw_1254) hV_X10_nameOf qr29 7 hqr30 rfl rfl rfl (Nat.le_of_ble_eq_true rfl) dX10_addToken_95 ⟨Nat.le_of_ble_eq_true rfl, Nat.le_of_ble_eq_true rfl⟩ ⟨Nat.le_of_ble_eq_true rfl, Nat.le_of_ble_eq_true rfl⟩ (fun v28 u26 H locs hw27 hP hD hS => ?_)
              obtain ⟨w, nm31, ns32, nl33, nn34, bk35, r36⟩ := u26
              obtain ⟨hw27, h37, hO⟩ := hw27
              have h37 : NmR nm31 ns32 nl33 nn34 bk35 := h37
              obtain rfl : v28 = some (.int r36) := hw27
              have hO : OKW G h0 a (upd (upd (upd F 1 (nI ln)) 2 (nI sz)) 3 (nI nm31)) R Z (updA (updA (updA (updA B 12 ns32) 13 nl33) 14 nn34) 15 bk35) J T Pi w := hO.to rfl
              refine W.widen (k := 0) (n := 0) (Nat.le_of_ble_eq_true rfl) (Nat.le_of_ble_eq_true rfl) ?_
              refine W.eq (g2 := F0 m 98 ls [.int r36]) rfl ?_
              refine lv_istore_n (lv' := [(3, .int r36), (2, .int (nI e2)), (1, .int (nI at9)), (0, .ref (a 1))]) hx hb dX10_addToken_98 rfl hl (by decide) rfl (fun ls hl => ?_)
              refine lv_aload_n hx hb dX10_addToken_99 rfl (lv_at hl 3 rfl) ?_
              refine lv_iload_n hx hb dX10_addToken_100 rfl (lv_at hl 0 rfl) ?_
              refine lv_bipush (v := 29) hx hb dX10_addToken_101 (by decide) ?_
              refine lv_icmp_ge (tgt := 110) hx hb dX10_addToken_103 (by decide) (fun c38 => ?_) (fun c38 => ?_)
              · refine lv_bipush (v := 65) hx hb dX10_addToken_110 (by decide) ?_
                refine lv_iload_n hx hb dX10_addToken_112 rfl (lv_at hl 2 rfl) ?_
                refine lv_iload_n hx hb dX10_addToken_113 rfl (lv_at hl 0 rfl) ?_
                refine lv_iload_n hx hb dX10_addToken_114 rfl (lv_at hl 1 rfl) ?_
                have hO : OKW G h0 a (upd (upd (upd (upd F 1 (nI ln)) 2 (nI sz)) 3 (nI nm31)) 2 (nI sz)) R Z (updA (updA (updA (updA B 12 ns32) 13 nl33) 14 nn34) 15 bk35) J T Pi w := hO.to rfl
                obtain ⟨_, qr42, hqr43⟩ := hO.2.1 2 _ (sg_2 G h0 a _ _ _ _ _)
                refine pc_V0 (G := G) (As := [.int 65, .int (nI at9), .int r36, .int (nI e2)]) (rest := []) hx hb hml hown hq hE hX pX0_al hP hD hS hA hl.1 (K_add l G h0 a (upd (upd (upd F 1 (nI ln)) 2 (nI sz)) 3 (nI nm31)) R Z (updA (updA (updA (updA B 12 ns32) 13 nl33) 14 nn34) 15 bk35) J T Pi w 65 (nI at9) r36 (nI e2) sz (by omega) hO) (gV pw_1272 pw_1273 pw_1274 pw_59 pw_1271) hV_X10_add qr42 7 hqr43 rfl rfl rfl (Nat.le_of_ble_eq_true rfl) dX10_addToken_115 ⟨Nat.le_of_ble_eq_true rfl, Nat.le_of_ble_eq_true rfl⟩ ⟨Nat.le_of_ble_eq_true rfl, Nat.le_of_ble_eq_true rfl⟩ (fun v41 u39 H locs hw40 hP hD hS => ?_)
                obtain ⟨w, sz44, f45, f46, f47, f48, f49⟩ := u39
                obtain ⟨hw40, h50, h51, hO⟩ := hw40
                have h50 : sz44 ≤ 5000 := h50
                have h51 : sz44 ≤ sz + 1 := h51
                obtain rfl : v41 = some (.int (nI e2)) := hw40
                have hO : OKW G h0 a (upd (upd (upd F 1 (nI ln)) 2 (nI sz44)) 3 (nI nm31)) R Z (updA (updA (updA (updA (updA (updA (updA (updA (updA B 7 f45) 8 f46) 9 f47) 10 f48) 11 f49) 12 ns32) 13 nl33) 14 nn34) 15 bk35) J T Pi w := hO.to rfl
                refine W.widen (k := 0) (n := 0) (Nat.le_of_ble_eq_true rfl) (Nat.le_of_ble_eq_true rfl) ?_
                refine W.eq (g2 := F0 m 118 ls [.int (nI e2)]) rfl ?_
                have hz52 : sz44 ≤ 5000 := (by omega)
                have hz53 : sz44 ≤ sz + 1 := (by omega)
                have hz54 : NmR nm31 ns32 nl33 nn34 bk35 := h37
                have hO : OKW G h0 a (upd (upd (upd F 1 (nI ln)) 2 (nI sz44)) 3 (nI nm31)) R Z (updA (updA (updA (updA (updA (updA (updA (updA (updA B 7 f45) 8 f46) 9 f47) 10 f48) 11 f49) 12 ns32) 13 nl33) 14 nn34) 15 bk35) J T Pi w := hO.to rfl
                exact W.iret (v := (nI e2)) hx hb hr (fun t99 ht99 hW99 => ⟨⟨_, (w, (sz44, f45, f46, f47, f48, f49, nm31, ns32, nl33, nn34, bk35, (nI e2))), rfl, ⟨rfl, hz52, hz53, hz54, hO⟩, by rw [ht99]; exact hP, hD⟩, hS.F ht99⟩) hS.2.2 dX10_addToken_118
              · refine lv_iload_n hx hb dX10_addToken_106 rfl (lv_at hl 0 rfl) ?_
                refine lv_goto (tgt := 112) hx hb dX10_addToken_107 (by decide) ?_
                refine lv_iload_n hx hb dX10_addToken_112 rfl (lv_at hl 2 rfl) ?_
                refine lv_iload_n hx hb dX10_addToken_113 rfl (lv_at hl 0 rfl) ?_
                refine lv_iload_n hx hb dX10_addToken_114 rfl (lv_at hl 1 rfl) ?_
                have hO : OKW G h0 a (upd (upd (upd (upd F 1 (nI ln)) 2 (nI sz)) 3 (nI nm31)) 2 (nI sz)) R Z (updA (updA (updA (updA B 12 ns32) 13 nl33) 14 nn34) 15 bk35) J T Pi w := hO.to rfl
                obtain ⟨_, qr58, hqr59⟩ := hO.2.1 2 _ (sg_2 G h0 a _ _ _ _ _)
                refine pc_V0 (G := G) (As := [.int r36, .int (nI at9), .int r36, .int (nI e2)]) (rest := []) hx hb hml hown hq hE hX pX0_al hP hD hS hA hl.1 (K_add l G h0 a (upd (upd (upd F 1 (nI ln)) 2 (nI sz)) 3 (nI nm31)) R Z (updA (updA (updA (updA B 12 ns32) 13 nl33) 14 nn34) 15 bk35) J T Pi w r36 (nI at9) r36 (nI e2) sz (by omega) hO) (gV pw_1272 pw_1273 pw_1274 pw_59 pw_1271) hV_X10_add qr58 7 hqr59 rfl rfl rfl (Nat.le_of_ble_eq_true rfl) dX10_addToken_115 ⟨Nat.le_of_ble_eq_true rfl, Nat.le_of_ble_eq_true rfl⟩ ⟨Nat.le_of_ble_eq_true rfl, Nat.le_of_ble_eq_true rfl⟩ (fun v57 u55 H locs hw56 hP hD hS => ?_)
                obtain ⟨w, sz60, f61, f62, f63, f64, f65⟩ := u55
                obtain ⟨hw56, h66, h67, hO⟩ := hw56
                have h66 : sz60 ≤ 5000 := h66
                have h67 : sz60 ≤ sz + 1 := h67
                obtain rfl : v57 = some (.int (nI e2)) := hw56
                have hO : OKW G h0 a (upd (upd (upd F 1 (nI ln)) 2 (nI sz60)) 3 (nI nm31)) R Z (updA (updA (updA (updA (updA (updA (updA (updA (updA B 7 f61) 8 f62) 9 f63) 10 f64) 11 f65) 12 ns32) 13 nl33) 14 nn34) 15 bk35) J T Pi w := hO.to rfl
                refine W.widen (k := 0) (n := 0) (Nat.le_of_ble_eq_true rfl) (Nat.le_of_ble_eq_true rfl) ?_
                refine W.eq (g2 := F0 m 118 ls [.int (nI e2)]) rfl ?_
                have hz68 : sz60 ≤ 5000 := (by omega)
                have hz69 : sz60 ≤ sz + 1 := (by omega)
                have hz70 : NmR nm31 ns32 nl33 nn34 bk35 := h37
                have hO : OKW G h0 a (upd (upd (upd F 1 (nI ln)) 2 (nI sz60)) 3 (nI nm31)) R Z (updA (updA (updA (updA (updA (updA (updA (updA (updA B 7 f61) 8 f62) 9 f63) 10 f64) 11 f65) 12 ns32) 13 nl33) 14 nn34) 15 bk35) J T Pi w := hO.to rfl
                exact W.iret (v := (nI e2)) hx hb hr (fun t99 ht99 hW99 => ⟨⟨_, (w, (sz60, f61, f62, f63, f64, f65, nm31, ns32, nl33, nn34, bk35, (nI e2))), rfl, ⟨rfl, hz68, hz69, hz70, hO⟩, by rw [ht99]; exact hP, hD⟩, hS.F ht99⟩) hS.2.2 dX10_addToken_118
            · have n71 : ¬ ((e2 - at9) ≤ 16) := fun h9 => c20 ((nI_leI (a := (e2 - at9)) (b := 16) (by omega) (by omega)).mpr h9)
              refine lv_aload_n hx hb dX10_addToken_75 rfl (lv_at hl 2 rfl) ?_
              refine lv_bipush (v := 68) hx hb dX10_addToken_76 (by decide) ?_
              refine lv_iload_n hx hb dX10_addToken_78 rfl (lv_at hl 1 rfl) ?_
              refine lv_iconst (v := 0) hx hb dX10_addToken_79 (by decide) ?_
              refine lv_iload_n hx hb dX10_addToken_80 rfl (lv_at hl 1 rfl) ?_
              have hO : OKW G h0 a (upd (upd (upd (upd F 1 (nI ln)) 2 (nI sz)) 3 (nI nm)) 2 (nI sz)) R Z (updA (updA (updA (updA B 12 ns) 13 nl) 14 nn) 15 bk) J T Pi w := hO.to rfl
              obtain ⟨_, qr75, hqr76⟩ := hO.2.1 2 _ (sg_2 G h0 a _ _ _ _ _)
              refine pc_V0 (G := G) (As := [.int 68, .int (nI at9), .int 0, .int (nI at9)]) (rest := []) hx hb hml hown hq hE hX pX0_al hP hD hS hA hl.1 (K_add l G h0 a (upd (upd (upd F 1 (nI ln)) 2 (nI sz)) 3 (nI nm)) R Z (updA (updA (updA (updA B 12 ns) 13 nl) 14 nn) 15 bk) J T Pi w 68 (nI at9) 0 (nI at9) sz (by omega) hO) (gV pw_1272 pw_1273 pw_1274 pw_59 pw_1271) hV_X10_add qr75 7 hqr76 rfl rfl rfl (Nat.le_of_ble_eq_true rfl) dX10_addToken_81 ⟨Nat.le_of_ble_eq_true rfl, Nat.le_of_ble_eq_true rfl⟩ ⟨Nat.le_of_ble_eq_true rfl, Nat.le_of_ble_eq_true rfl⟩ (fun v74 u72 H locs hw73 hP hD hS => ?_)
              obtain ⟨w, sz77, f78, f79, f80, f81, f82⟩ := u72
              obtain ⟨hw73, h83, h84, hO⟩ := hw73
              have h83 : sz77 ≤ 5000 := h83
              have h84 : sz77 ≤ sz + 1 := h84
              obtain rfl : v74 = some (.int (nI at9)) := hw73
              have hO : OKW G h0 a (upd (upd (upd F 1 (nI ln)) 2 (nI sz77)) 3 (nI nm)) R Z (updA (updA (updA (updA (updA (updA (updA (updA (updA B 7 f78) 8 f79) 9 f80) 10 f81) 11 f82) 12 ns) 13 nl) 14 nn) 15 bk) J T Pi w := hO.to rfl
              refine W.widen (k := 0) (n := 0) (Nat.le_of_ble_eq_true rfl) (Nat.le_of_ble_eq_true rfl) ?_
              refine W.eq (g2 := F0 m 84 ls [.int (nI at9)]) rfl ?_
              have hz85 : sz77 ≤ 5000 := (by omega)
              have hz86 : sz77 ≤ sz + 1 := (by omega)
              have hz87 : NmR nm ns nl nn bk := hnm
              have hO : OKW G h0 a (upd (upd (upd F 1 (nI ln)) 2 (nI sz77)) 3 (nI nm)) R Z (updA (updA (updA (updA (updA (updA (updA (updA (updA B 7 f78) 8 f79) 9 f80) 10 f81) 11 f82) 12 ns) 13 nl) 14 nn) 15 bk) J T Pi w := hO.to rfl
              exact W.iret (v := (nI at9)) hx hb hr (fun t99 ht99 hW99 => ⟨⟨_, (w, (sz77, f78, f79, f80, f81, f82, nm, ns, nl, nn, bk, (nI at9))), rfl, ⟨rfl, hz85, hz86, hz87, hO⟩, by rw [ht99]; exact hP, hD⟩, hS.F ht99⟩) hS.2.2 dX10_addToken_84
          · have n88 : ¬ (u11 = 0) := fun h9 => c16 ((nI_eq (a := u11) (b := 0) (by omega) (by omega)).mpr h9)
            refine lv_aload_n hx hb dX10_addToken_60 rfl (lv_at hl 2 rfl) ?_
            refine lv_iload_n hx hb dX10_addToken_61 rfl (lv_at hl 1 rfl) ?_
            refine lv_iload_n hx hb dX10_addToken_62 rfl (lv_at hl 0 rfl) ?_
            have hO : OKW G h0 a (upd (upd (upd (upd (upd F 1 (nI ln)) 2 (nI sz)) 3 (nI nm)) 1 (nI ln)) 2 (nI sz)) R Z (updA (updA (updA (updA B 12 ns) 13 nl) 14 nn) 15 bk) J T Pi w := hO.to rfl
            obtain ⟨_, qr92, hqr93⟩ := hO.2.1 2 _ (sg_2 G h0 a _ _ _ _ _)
            refine pc_V0 (G := G) (As := [.int (nI at9), .int (nI e2)]) (rest := []) hx hb hml hown hq hE hX pX0_al hP hD hS hA hl.1 (K_addNumber l G h0 a (upd (upd (upd F 1 (nI ln)) 2 (nI sz)) 3 (nI nm)) R Z (updA (updA (updA (updA B 12 ns) 13 nl) 14 nn) 15 bk) J T Pi w at9 e2 ln sz (by omega) (by omega) (by omega) hO) (gV pw_1287 pw_1288 pw_1289 pw_59 pw_1276) hV_X10_addNumber qr92 7 hqr93 rfl rfl rfl (Nat.le_of_ble_eq_true rfl) dX10_addToken_63 ⟨Nat.le_of_ble_eq_true rfl, Nat.le_of_ble_eq_true rfl⟩ ⟨Nat.le_of_ble_eq_true rfl, Nat.le_of_ble_eq_true rfl⟩ (fun v91 u89 H locs hw90 hP hD hS => ?_)
            obtain ⟨w, sz94, f95, f96, f97, f98, f99, r100⟩ := u89
            obtain ⟨hw90, h101, h102, hO⟩ := hw90
            have h101 : sz94 ≤ 5000 := h101
            have h102 : sz94 ≤ sz + 1 := h102
            obtain rfl : v91 = some (.int r100) := hw90
            have hO : OKW G h0 a (upd (upd (upd F 1 (nI ln)) 2 (nI sz94)) 3 (nI nm)) R Z (updA (updA (updA (updA (updA (updA (updA (updA (updA B 7 f95) 8 f96) 9 f97) 10 f98) 11 f99) 12 ns) 13 nl) 14 nn) 15 bk) J T Pi w := hO.to rfl
            refine W.widen (k := 0) (n := 0) (Nat.le_of_ble_eq_true rfl) (Nat.le_of_ble_eq_true rfl) ?_
            refine W.eq (g2 := F0 m 66 ls [.int r100]) rfl ?_
            have hz103 : sz94 ≤ 5000 := (by omega)
            have hz104 : sz94 ≤ sz + 1 := (by omega)
            have hz105 : NmR nm ns nl nn bk := hnm
            have hO : OKW G h0 a (upd (upd (upd F 1 (nI ln)) 2 (nI sz94)) 3 (nI nm)) R Z (updA (updA (updA (updA (updA (updA (updA (updA (updA B 7 f95) 8 f96) 9 f97) 10 f98) 11 f99) 12 ns) 13 nl) 14 nn) 15 bk) J T Pi w := hO.to rfl
            exact W.iret (v := r100) hx hb hr (fun t99 ht99 hW99 => ⟨⟨_, (w, (sz94, f95, f96, f97, f98, f99, nm, ns, nl, nn, bk, r100)), rfl, ⟨rfl, hz103, hz104, hz105, hO⟩, by rw [ht99]; exact hP, hD⟩, hS.F ht99⟩) hS.2.2 dX10_addToken_66
        · have n106 : e2 = at9 := (nI_eq (a := e2) (b := at9) (by omega) (by omega)).mp c3
          refine lv_aload_n hx hb dX10_addToken_43 rfl (lv_at hl 2 rfl) ?_
          refine lv_iload_n hx hb dX10_addToken_44 rfl (lv_at hl 1 rfl) ?_
          have hO : OKW G h0 a (upd (upd (upd (upd (upd F 1 (nI ln)) 2 (nI sz)) 3 (nI nm)) 1 (nI ln)) 2 (nI sz)) R Z (updA (updA (updA (updA B 12 ns) 13 nl) 14 nn) 15 bk) J T Pi w := hO.to rfl
          obtain ⟨_, qr110, hqr111⟩ := hO.2.1 2 _ (sg_2 G h0 a _ _ _ _ _)
          refine pc_V0 (G := G) (As := [.int (nI at9)]) (rest := []) hx hb hml hown hq hE hX pX0_al hP hD hS hA hl.1 (K_addSign l G h0 a (upd (upd (upd F 1 (nI ln)) 2 (nI sz)) 3 (nI nm)) R Z (updA (updA (updA (updA B 12 ns) 13 nl) 14 nn) 15 bk) J T Pi w at9 ln sz (by omega) (by omega) (by omega) hO) (gV pw_1284 pw_1285 pw_1286 pw_59 pw_1275) hV_X10_addSign qr110 7 hqr111 rfl rfl rfl (Nat.le_of_ble_eq_true rfl) dX10_addToken_45 ⟨Nat.le_of_ble_eq_true rfl, Nat.le_of_ble_eq_true rfl⟩ ⟨Nat.le_of_ble_eq_true rfl, Nat.le_of_ble_eq_true rfl⟩ (fun v109 u107 H locs hw108 hP hD hS => ?_)
          obtain ⟨w, sz112, f113, f114, f115, f116, f117, r118⟩ := u107
          obtain ⟨hw108, h119, h120, hO⟩ := hw108
          have h119 : sz112 ≤ 5000 := h119
          have h120 : sz112 ≤ sz + 1 := h120
          obtain rfl : v109 = some (.int r118) := hw108
          have hO : OKW G h0 a (upd (upd (upd F 1 (nI ln)) 2 (nI sz112)) 3 (nI nm)) R Z (updA (updA (updA (updA (updA (updA (updA (updA (updA B 7 f113) 8 f114) 9 f115) 10 f116) 11 f117) 12 ns) 13 nl) 14 nn) 15 bk) J T Pi w := hO.to rfl
          refine W.widen (k := 0) (n := 0) (Nat.le_of_ble_eq_true rfl) (Nat.le_of_ble_eq_true rfl) ?_
          refine W.eq (g2 := F0 m 48 ls [.int r118]) rfl ?_
          have hz121 : sz112 ≤ 5000 := (by omega)
          have hz122 : sz112 ≤ sz + 1 := (by omega)
          have hz123 : NmR nm ns nl nn bk := hnm
          have hO : OKW G h0 a (upd (upd (upd F 1 (nI ln)) 2 (nI sz112)) 3 (nI nm)) R Z (updA (updA (updA (updA (updA (updA (updA (updA (updA B 7 f113) 8 f114) 9 f115) 10 f116) 11 f117) 12 ns) 13 nl) 14 nn) 15 bk) J T Pi w := hO.to rfl
          exact W.iret (v := r118) hx hb hr (fun t99 ht99 hW99 => ⟨⟨_, (w, (sz112, f113, f114, f115, f116, f117, nm, ns, nl, nn, bk, r118)), rfl, ⟨rfl, hz121, hz122, hz123, hO⟩, by rw [ht99]; exact hP, hD⟩, hS.F ht99⟩) hS.2.2 dX10_addToken_48
      · have n124 : ¬ (ln ≤ e2) := fun h9 => c1 ((nI_leI (a := ln) (b := e2) (by omega) (by omega)).mpr h9)
        refine lv_aload_n hx hb dX10_addToken_10 rfl (lv_at hl 2 rfl) ?_
        refine lv_iload_n hx hb dX10_addToken_11 rfl (lv_at hl 0 rfl) ?_
        have hO : OKW G h0 a (upd (upd (upd (upd F 1 (nI ln)) 2 (nI sz)) 3 (nI nm)) 1 (nI ln)) R Z (updA (updA (updA (updA B 12 ns) 13 nl) 14 nn) 15 bk) J T Pi w := hO.to rfl
        obtain ⟨_, qr128, hqr129⟩ := hO.2.1 2 _ (sg_2 G h0 a _ _ _ _ _)
        refine pc_V0 (G := G) (As := [.int (nI e2)]) (rest := []) hx hb hml hown hq hE hX pX0_al hP hD hS hA hl.1 (K_byteAt l G h0 a (upd (upd (upd F 1 (nI ln)) 2 (nI sz)) 3 (nI nm)) R Z (updA (updA (updA (updA B 12 ns) 13 nl) 14 nn) 15 bk) J T Pi w (nI e2) ln (by omega) hO) (gV pw_1266 pw_1267 pw_1268 pw_59 pw_1264) hV_X10_byteAt qr128 7 hqr129 rfl rfl rfl (Nat.le_of_ble_eq_true rfl) dX10_addToken_12 ⟨Nat.le_of_ble_eq_true rfl, Nat.le_of_ble_eq_true rfl⟩ ⟨Nat.le_of_ble_eq_true rfl, Nat.le_of_ble_eq_true rfl⟩ (fun v127 u125 H locs hw126 hP hD hS => ?_)
        obtain ⟨w, r130⟩ := u125
        obtain ⟨hw126, hO⟩ := hw126
        obtain rfl : v127 = some (.int r130) := hw126
        have hO : OKW G h0 a (upd (upd (upd F 1 (nI ln)) 2 (nI sz)) 3 (nI nm)) R Z (updA (updA (updA (updA B 12 ns) 13 nl) 14 nn) 15 bk) J T Pi w := hO.to rfl
        refine W.widen (k := 0) (n := 0) (Nat.le_of_ble_eq_true rfl) (Nat.le_of_ble_eq_true rfl) ?_
        refine W.eq (g2 := F0 m 15 ls [.int r130]) rfl ?_
        refine pc_SN (G := G) (As := [.int r130]) (rest := []) hx hb hml hown hq hE hX pX0_al hP hS hA hl.1 (s_dig l G r130) (gS pw_1280 pw_1281 pw_59 pw_1269) hS_X10_isDigit rfl (Nat.le_of_ble_eq_true rfl) dX10_addToken_15 ⟨Nat.le_of_ble_eq_true rfl, Nat.le_of_ble_eq_true rfl⟩ ⟨Nat.le_of_ble_eq_true rfl, Nat.le_of_ble_eq_true rfl⟩ (fun v133 u131 H locs hw132 hP hS => ?_)
        obtain ⟨rfl, h135⟩ := hw132
        refine W.widen (k := 0) (n := 0) (Nat.le_of_ble_eq_true rfl) (Nat.le_of_ble_eq_true rfl) ?_
        refine W.eq (g2 := F0 m 18 ls [.int (nI u131)]) rfl ?_
        refine lv_if_ne (tgt := 32) hx hb dX10_addToken_18 (by decide) (fun c136 => ?_) (fun c136 => ?_)
        · have n137 : ¬ (u131 = 0) := fun h9 => c136 ((nI_eq (a := u131) (b := 0) (by omega) (by omega)).mpr h9)
          refine lv_iinc (v := (nI (e2 + 1))) (lv' := [(2, .int (nI (e2 + 1))), (1, .int (nI at9)), (0, .ref (a 1))]) hx hb dX10_addToken_32 hl (k := 0) rfl (nI_1 e2) (by decide) rfl (fun ls hl => ?_)
          refine lv_goto (tgt := 2) hx hb dX10_addToken_35 (by decide) ?_
          have hO : OKW G h0 a (upd (upd (upd F 1 (nI ln)) 2 (nI sz)) 3 (nI nm)) R Z (updA (updA (updA (updA B 12 ns) 13 nl) 14 nn) 15 bk) J T Pi w := hO.to rfl
          exact ih_e (e2 + 1) _ _ _ _ (by omega) (by omega) (by omega) hP hD hS hO (lv_sub hl [0, 1, 2] rfl)
        · have n138 : u131 = 0 := (nI_eq (a := u131) (b := 0) (by omega) (by omega)).mp c136
          refine lv_aload_n hx hb dX10_addToken_21 rfl (lv_at hl 2 rfl) ?_
          refine lv_iload_n hx hb dX10_addToken_22 rfl (lv_at hl 0 rfl) ?_
          have hO : OKW G h0 a (upd (upd (upd (upd F 1 (nI ln)) 2 (nI sz)) 3 (nI nm)) 1 (nI ln)) R Z (updA (updA (updA (updA B 12 ns) 13 nl) 14 nn) 15 bk) J T Pi w := hO.to rfl
          obtain ⟨_, qr142, hqr143⟩ := hO.2.1 2 _ (sg_2 G h0 a _ _ _ _ _)
          refine pc_V0 (G := G) (As := [.int (nI e2)]) (rest := []) hx hb hml hown hq hE hX pX0_al hP hD hS hA hl.1 (K_byteAt l G h0 a (upd (upd (upd F 1 (nI ln)) 2 (nI sz)) 3 (nI nm)) R Z (updA (updA (updA (updA B 12 ns) 13 nl) 14 nn) 15 bk) J T Pi w (nI e2) ln (by omega) hO) (gV pw_1266 pw_1267 pw_1268 pw_59 pw_1264) hV_X10_byteAt qr142 7 hqr143 rfl rfl rfl (Nat.le_of_ble_eq_true rfl) dX10_addToken_23 ⟨Nat.le_of_ble_eq_true rfl, Nat.le_of_ble_eq_true rfl⟩ ⟨Nat.le_of_ble_eq_true rfl, Nat.le_of_ble_eq_true rfl⟩ (fun v141 u139 H locs hw140 hP hD hS => ?_)
          obtain ⟨w, r144⟩ := u139
          obtain ⟨hw140, hO⟩ := hw140
          obtain rfl : v141 = some (.int r144) := hw140
          have hO : OKW G h0 a (upd (upd (upd F 1 (nI ln)) 2 (nI sz)) 3 (nI nm)) R Z (updA (updA (updA (updA B 12 ns) 13 nl) 14 nn) 15 bk) J T Pi w := hO.to rfl
          refine W.widen (k := 0) (n := 0) (Nat.le_of_ble_eq_true rfl) (Nat.le_of_ble_eq_true rfl) ?_
          refine W.eq (g2 := F0 m 26 ls [.int r144]) rfl ?_
          refine pc_SN (G := G) (As := [.int r144]) (rest := []) hx hb hml hown hq hE hX pX0_al hP hS hA hl.1 (s_let l G r144) (gS pw_1282 pw_1283 pw_59 pw_1270) hS_X10_isLetter rfl (Nat.le_of_ble_eq_true rfl) dX10_addToken_26 ⟨Nat.le_of_ble_eq_true rfl, Nat.le_of_ble_eq_true rfl⟩ ⟨Nat.le_of_ble_eq_true rfl, Nat.le_of_ble_eq_true rfl⟩ (fun v147 u145 H locs hw146 hP hS => ?_)
          obtain ⟨rfl, h149⟩ := hw146
          refine W.widen (k := 0) (n := 0) (Nat.le_of_ble_eq_true rfl) (Nat.le_of_ble_eq_true rfl) ?_
          refine W.eq (g2 := F0 m 29 ls [.int (nI u145)]) rfl ?_
          refine lv_if_eq (tgt := 38) hx hb dX10_addToken_29 (by decide) (fun c150 => ?_) (fun c150 => ?_)
          · have n151 : u145 = 0 := (nI_eq (a := u145) (b := 0) (by omega) (by omega)).mp c150
            refine lv_iload_n hx hb dX10_addToken_38 rfl (lv_at hl 0 rfl) ?_
            refine lv_iload_n hx hb dX10_addToken_39 rfl (lv_at hl 1 rfl) ?_
            refine lv_icmp_ne (tgt := 49) hx hb dX10_addToken_40 (by decide) (fun c152 => ?_) (fun c152 => ?_)
            · have n153 : ¬ (e2 = at9) := fun h9 => c152 ((nI_eq (a := e2) (b := at9) (by omega) (by omega)).mpr h9)
              refine lv_aload_n hx hb dX10_addToken_49 rfl (lv_at hl 2 rfl) ?_
              refine lv_iload_n hx hb dX10_addToken_50 rfl (lv_at hl 1 rfl) ?_
              have hO : OKW G h0 a (upd (upd (upd (upd F 1 (nI ln)) 2 (nI sz)) 3 (nI nm)) 1 (nI ln)) R Z (updA (updA (updA (updA B 12 ns) 13 nl) 14 nn) 15 bk) J T Pi w := hO.to rfl
              obtain ⟨_, qr157, hqr158⟩ := hO.2.1 2 _ (sg_2 G h0 a _ _ _ _ _)
              refine pc_V0 (G := G) (As := [.int (nI at9)]) (rest := []) hx hb hml hown hq hE hX pX0_al hP hD hS hA hl.1 (K_byteAt l G h0 a (upd (upd (upd F 1 (nI ln)) 2 (nI sz)) 3 (nI nm)) R Z (updA (updA (updA (updA B 12 ns) 13 nl) 14 nn) 15 bk) J T Pi w (nI at9) ln (by omega) hO) (gV pw_1266 pw_1267 pw_1268 pw_59 pw_1264) hV_X10_byteAt qr157 7 hqr158 rfl rfl rfl (Nat.le_of_ble_eq_true rfl) dX10_addToken_51 ⟨Nat.le_of_ble_eq_true rfl, Nat.le_of_ble_eq_true rfl⟩ ⟨Nat.le_of_ble_eq_true rfl, Nat.le_of_ble_eq_true rfl⟩ (fun v156 u154 H locs hw155 hP hD hS => ?_)
              obtain ⟨w, r159⟩ := u154
              obtain ⟨hw155, hO⟩ := hw155
              obtain rfl : v156 = some (.int r159) := hw155
              have hO : OKW G h0 a (upd (upd (upd F 1 (nI ln)) 2 (nI sz)) 3 (nI nm)) R Z (updA (updA (updA (updA B 12 ns) 13 nl) 14 nn) 15 bk) J T Pi w := hO.to rfl
              refine W.widen (k := 0) (n := 0) (Nat.le_of_ble_eq_true rfl) (Nat.le_of_ble_eq_true rfl) ?_
              refine W.eq (g2 := F0 m 54 ls [.int r159]) rfl ?_
              refine pc_SN (G := G) (As := [.int r159]) (rest := []) hx hb hml hown hq hE hX pX0_al hP hS hA hl.1 (s_dig l G r159) (gS pw_1280 pw_1281 pw_59 pw_1269) hS_X10_isDigit rfl (Nat.le_of_ble_eq_true rfl) dX10_addToken_54 ⟨Nat.le_of_ble_eq_true rfl, Nat.le_of_ble_eq_true rfl⟩ ⟨Nat.le_of_ble_eq_true rfl, Nat.le_of_ble_eq_true rfl⟩ (fun v162 u160 H locs hw161 hP hS => ?_)
              obtain ⟨rfl, h164⟩ := hw161
              refine W.widen (k := 0) (n := 0) (Nat.le_of_ble_eq_true rfl) (Nat.le_of_ble_eq_true rfl) ?_
              refine W.eq (g2 := F0 m 57 ls [.int (nI u160)]) rfl ?_
              refine lv_if_eq (tgt := 67) hx hb dX10_addToken_57 (by decide) (fun c165 => ?_) (fun c165 => ?_)
              · have n166 : u160 = 0 := (nI_eq (a := u160) (b := 0) (by omega) (by omega)).mp c165
                refine lv_iload_n hx hb dX10_addToken_67 rfl (lv_at hl 0 rfl) ?_
                refine lv_iload_n hx hb dX10_addToken_68 rfl (lv_at hl 1 rfl) ?_
                refine lv_isub hx hb dX10_addToken_69 ?_
                refine lv_topi (fun x167 e168 => ?_)
                obtain rfl : x167 = nI (e2 - at9) := e168.trans (nI_subN (a := at9) (b := e2) (by omega))
                refine lv_bipush (v := 16) hx hb dX10_addToken_70 (by decide) ?_
                refine lv_icmp_le (tgt := 85) hx hb dX10_addToken_72 (by decide) (fun c169 => ?_) (fun c169 => ?_)
                · have n170 : (e2 - at9) ≤ 16 := (nI_leI (a := (e2 - at9)) (b := 16) (by omega) (by omega)).mp c169
                  refine lv_aload_n hx hb dX10_addToken_85 rfl (lv_at hl 2 rfl) ?_
                  refine lv_aload_n hx hb dX10_addToken_86 rfl (lv_at hl 2 rfl) ?_
                  refine c_get (v := .int 220) (C := RX10) (Tc := TX10) (N := 15) (ci := 7) hx hb hq pin_wsX100 hown hE hP hO 2 (sg_2 G h0 a _ _ _ _ _) rfl 1 (by decide) (hq _ pw_1243) (fun _ h9 => h9) rfl dX10_addToken_87 ?_
                  refine lv_iload_n hx hb dX10_addToken_90 rfl (lv_at hl 1 rfl) ?_
                  refine lv_iadd hx hb dX10_addToken_91 ?_
                  refine lv_topi (fun x171 e172 => ?_)
                  obtain rfl : x171 = nI (220 + at9) := e172.trans (nI_add (220) (at9))
                  refine lv_iload_n hx hb dX10_addToken_92 rfl (lv_at hl 0 rfl) ?_
                  refine lv_iload_n hx hb dX10_addToken_93 rfl (lv_at hl 1 rfl) ?_
                  refine lv_isub hx hb dX10_addToken_94 ?_
                  refine lv_topi (fun x173 e174 => ?_)
                  obtain rfl : x173 = nI (e2 - at9) := e174.trans (nI_subN (a := at9) (b := e2) (by omega))
                  have hO : OKW G h0 a (upd (upd (upd (upd F 1 (nI ln)) 2 (nI sz)) 3 (nI nm)) 3 (nI nm)) R Z (updA (updA (updA (updA (updA (updA (updA (updA B 12 ns) 13 nl) 14 nn) 15 bk) 12 ns) 13 nl) 14 nn) 15 bk) J T Pi w := hO.to rfl
                  obtain ⟨_, qr178, hqr179⟩ := hO.2.1 2 _ (sg_2 G h0 a _ _ _ _ _)
                  refine pc_V0 (G := G) (As := [.int (nI (220 + at9)), .int (nI (e2 - at9))]) (rest := []) hx hb hml hown hq hE hX pX0_al hP hD hS hA hl.1 (K_nameOf l G h0 a (upd (upd (upd F 1 (nI ln)) 2 (nI sz)) 3 (nI nm)) R Z (updA (updA (updA (updA B 12 ns) 13 nl) 14 nn) 15 bk) J T Pi w (220 + at9) (e2 - at9) nm ns nl nn bk (by omega) hnm hO) (gV pw_1261 pw_1262 pw_1263 pw_59 pw_1254) hV_X10_nameOf qr178 7 hqr179 rfl rfl rfl (Nat.le_of_ble_eq_true rfl) dX10_addToken_95 ⟨Nat.le_of_ble_eq_true rfl, Nat.le_of_ble_eq_true rfl⟩ ⟨Nat.le_of_ble_eq_true rfl, Nat.le_of_ble_eq_true rfl⟩ (fun v177 u175 H locs hw176 hP hD hS => ?_)
                  obtain ⟨w, nm180, ns181, nl182, nn183, bk184, r185⟩ := u175
                  obtain ⟨hw176, h186, hO⟩ := hw176
                  have h186 : NmR nm180 ns181 nl182 nn183 bk184 := h186
                  obtain rfl : v177 = some (.int r185) := hw176
                  have hO : OKW G h0 a (upd (upd (upd F 1 (nI ln)) 2 (nI sz)) 3 (nI nm180)) R Z (updA (updA (updA (updA B 12 ns181) 13 nl182) 14 nn183) 15 bk184) J T Pi w := hO.to rfl
                  refine W.widen (k := 0) (n := 0) (Nat.le_of_ble_eq_true rfl) (Nat.le_of_ble_eq_true rfl) ?_
                  refine W.eq (g2 := F0 m 98 ls [.int r185]) rfl ?_
                  refine lv_istore_n (lv' := [(3, .int r185), (2, .int (nI e2)), (1, .int (nI at9)), (0, .ref (a 1))]) hx hb dX10_addToken_98 rfl hl (by decide) rfl (fun ls hl => ?_)
                  refine lv_aload_n hx hb dX10_addToken_99 rfl (lv_at hl 3 rfl) ?_
                  refine lv_iload_n hx hb dX10_addToken_100 rfl (lv_at hl 0 rfl) ?_
                  refine lv_bipush (v := 29) hx hb dX10_addToken_101 (by decide) ?_
                  refine lv_icmp_ge (tgt := 110) hx hb dX10_addToken_103 (by decide) (fun c187 => ?_) (fun c187 => ?_)
                  · refine lv_bipush (v := 65) hx hb dX10_addToken_110 (by decide) ?_
                    refine lv_iload_n hx hb dX10_addToken_112 rfl (lv_at hl 2 rfl) ?_
                    refine lv_iload_n hx hb dX10_addToken_113 rfl (lv_at hl 0 rfl) ?_
                    refine lv_iload_n hx hb dX10_addToken_114 rfl (lv_at hl 1 rfl) ?_
                    have hO : OKW G h0 a (upd (upd (upd (upd F 1 (nI ln)) 2 (nI sz)) 3 (nI nm180)) 2 (nI sz)) R Z (updA (updA (updA (updA B 12 ns181) 13 nl182) 14 nn183) 15 bk184) J T Pi w := hO.to rfl
                    obtain ⟨_, qr191, hqr192⟩ := hO.2.1 2 _ (sg_2 G h0 a _ _ _ _ _)
                    refine pc_V0 (G := G) (As := [.int 65, .int (nI at9), .int r185, .int (nI e2)]) (rest := []) hx hb hml hown hq hE hX pX0_al hP hD hS hA hl.1 (K_add l G h0 a (upd (upd (upd F 1 (nI ln)) 2 (nI sz)) 3 (nI nm180)) R Z (updA (updA (updA (updA B 12 ns181) 13 nl182) 14 nn183) 15 bk184) J T Pi w 65 (nI at9) r185 (nI e2) sz (by omega) hO) (gV pw_1272 pw_1273 pw_1274 pw_59 pw_1271) hV_X10_add qr191 7 hqr192 rfl rfl rfl (Nat.le_of_ble_eq_true rfl) dX10_addToken_115 ⟨Nat.le_of_ble_eq_true rfl, Nat.le_of_ble_eq_true rfl⟩ ⟨Nat.le_of_ble_eq_true rfl, Nat.le_of_ble_eq_true rfl⟩ (fun v190 u188 H locs hw189 hP hD hS => ?_)
                    obtain ⟨w, sz193, f194, f195, f196, f197, f198⟩ := u188
                    obtain ⟨hw189, h199, h200, hO⟩ := hw189
                    have h199 : sz193 ≤ 5000 := h199
                    have h200 : sz193 ≤ sz + 1 := h200
                    obtain rfl : v190 = some (.int (nI e2)) := hw189
                    have hO : OKW G h0 a (upd (upd (upd F 1 (nI ln)) 2 (nI sz193)) 3 (nI nm180)) R Z (updA (updA (updA (updA (updA (updA (updA (updA (updA B 7 f194) 8 f195) 9 f196) 10 f197) 11 f198) 12 ns181) 13 nl182) 14 nn183) 15 bk184) J T Pi w := hO.to rfl
                    refine W.widen (k := 0) (n := 0) (Nat.le_of_ble_eq_true rfl) (Nat.le_of_ble_eq_true rfl) ?_
                    refine W.eq (g2 := F0 m 118 ls [.int (nI e2)]) rfl ?_
                    have hz201 : sz193 ≤ 5000 := (by omega)
                    have hz202 : sz193 ≤ sz + 1 := (by omega)
                    have hz203 : NmR nm180 ns181 nl182 nn183 bk184 := h186
                    have hO : OKW G h0 a (upd (upd (upd F 1 (nI ln)) 2 (nI sz193)) 3 (nI nm180)) R Z (updA (updA (updA (updA (updA (updA (updA (updA (updA B 7 f194) 8 f195) 9 f196) 10 f197) 11 f198) 12 ns181) 13 nl182) 14 nn183) 15 bk184) J T Pi w := hO.to rfl
                    exact W.iret (v := (nI e2)) hx hb hr (fun t99 ht99 hW99 => ⟨⟨_, (w, (sz193, f194, f195, f196, f197, f198, nm180, ns181, nl182, nn183, bk184, (nI e2))), rfl, ⟨rfl, hz201, hz202, hz203, hO⟩, by rw [ht99]; exact hP, hD⟩, hS.F ht99⟩) hS.2.2 dX10_addToken_118
                  · refine lv_iload_n hx hb dX10_addToken_106 rfl (lv_at hl 0 rfl) ?_
                    refine lv_goto (tgt := 112) hx hb dX10_addToken_107 (by decide) ?_
                    refine lv_iload_n hx hb dX10_addToken_112 rfl (lv_at hl 2 rfl) ?_
                    refine lv_iload_n hx hb dX10_addToken_113 rfl (lv_at hl 0 rfl) ?_
                    refine lv_iload_n hx hb dX10_addToken_114 rfl (lv_at hl 1 rfl) ?_
                    have hO : OKW G h0 a (upd (upd (upd (upd F 1 (nI ln)) 2 (nI sz)) 3 (nI nm180)) 2 (nI sz)) R Z (updA (updA (updA (updA B 12 ns181) 13 nl182) 14 nn183) 15 bk184) J T Pi w := hO.to rfl
                    obtain ⟨_, qr207, hqr208⟩ := hO.2.1 2 _ (sg_2 G h0 a _ _ _ _ _)
                    refine pc_V0 (G := G) (As := [.int r185, .int (nI at9), .int r185, .int (nI e2)]) (rest := []) hx hb hml hown hq hE hX pX0_al hP hD hS hA hl.1 (K_add l G h0 a (upd (upd (upd F 1 (nI ln)) 2 (nI sz)) 3 (nI nm180)) R Z (updA (updA (updA (updA B 12 ns181) 13 nl182) 14 nn183) 15 bk184) J T Pi w r185 (nI at9) r185 (nI e2) sz (by omega) hO) (gV pw_1272 pw_1273 pw_1274 pw_59 pw_1271) hV_X10_add qr207 7 hqr208 rfl rfl rfl (Nat.le_of_ble_eq_true rfl) dX10_addToken_115 ⟨Nat.le_of_ble_eq_true rfl, Nat.le_of_ble_eq_true rfl⟩ ⟨Nat.le_of_ble_eq_true rfl, Nat.le_of_ble_eq_true rfl⟩ (fun v206 u204 H locs hw205 hP hD hS => ?_)
                    obtain ⟨w, sz209, f210, f211, f212, f213, f214⟩ := u204
                    obtain ⟨hw205, h215, h216, hO⟩ := hw205
                    have h215 : sz209 ≤ 5000 := h215
                    have h216 : sz209 ≤ sz + 1 := h216
                    obtain rfl : v206 = some (.int (nI e2)) := hw205
                    have hO : OKW G h0 a (upd (upd (upd F 1 (nI ln)) 2 (nI sz209)) 3 (nI nm180)) R Z (updA (updA (updA (updA (updA (updA (updA (updA (updA B 7 f210) 8 f211) 9 f212) 10 f213) 11 f214) 12 ns181) 13 nl182) 14 nn183) 15 bk184) J T Pi w := hO.to rfl
                    refine W.widen (k := 0) (n := 0) (Nat.le_of_ble_eq_true rfl) (Nat.le_of_ble_eq_true rfl) ?_
                    refine W.eq (g2 := F0 m 118 ls [.int (nI e2)]) rfl ?_
                    have hz217 : sz209 ≤ 5000 := (by omega)
                    have hz218 : sz209 ≤ sz + 1 := (by omega)
                    have hz219 : NmR nm180 ns181 nl182 nn183 bk184 := h186
                    have hO : OKW G h0 a (upd (upd (upd F 1 (nI ln)) 2 (nI sz209)) 3 (nI nm180)) R Z (updA (updA (updA (updA (updA (updA (updA (updA (updA B 7 f210) 8 f211) 9 f212) 10 f213) 11 f214) 12 ns181) 13 nl182) 14 nn183) 15 bk184) J T Pi w := hO.to rfl
                    exact W.iret (v := (nI e2)) hx hb hr (fun t99 ht99 hW99 => ⟨⟨_, (w, (sz209, f210, f211, f212, f213, f214, nm180, ns181, nl182, nn183, bk184, (nI e2))), rfl, ⟨rfl, hz217, hz218, hz219, hO⟩, by rw [ht99]; exact hP, hD⟩, hS.F ht99⟩) hS.2.2 dX10_addToken_118
                · have n220 : ¬ ((e2 - at9) ≤ 16) := fun h9 => c169 ((nI_leI (a := (e2 - at9)) (b := 16) (by omega) (by omega)).mpr h9)
                  refine lv_aload_n hx hb dX10_addToken_75 rfl (lv_at hl 2 rfl) ?_
                  refine lv_bipush (v := 68) hx hb dX10_addToken_76 (by decide) ?_
                  refine lv_iload_n hx hb dX10_addToken_78 rfl (lv_at hl 1 rfl) ?_
                  refine lv_iconst (v := 0) hx hb dX10_addToken_79 (by decide) ?_
                  refine lv_iload_n hx hb dX10_addToken_80 rfl (lv_at hl 1 rfl) ?_
                  have hO : OKW G h0 a (upd (upd (upd (upd F 1 (nI ln)) 2 (nI sz)) 3 (nI nm)) 2 (nI sz)) R Z (updA (updA (updA (updA B 12 ns) 13 nl) 14 nn) 15 bk) J T Pi w := hO.to rfl
                  obtain ⟨_, qr224, hqr225⟩ := hO.2.1 2 _ (sg_2 G h0 a _ _ _ _ _)
                  refine pc_V0 (G := G) (As := [.int 68, .int (nI at9), .int 0, .int (nI at9)]) (rest := []) hx hb hml hown hq hE hX pX0_al hP hD hS hA hl.1 (K_add l G h0 a (upd (upd (upd F 1 (nI ln)) 2 (nI sz)) 3 (nI nm)) R Z (updA (updA (updA (updA B 12 ns) 13 nl) 14 nn) 15 bk) J T Pi w 68 (nI at9) 0 (nI at9) sz (by omega) hO) (gV pw_1272 pw_1273 pw_1274 pw_59 pw_1271) hV_X10_add qr224 7 hqr225 rfl rfl rfl (Nat.le_of_ble_eq_true rfl) dX10_addToken_81 ⟨Nat.le_of_ble_eq_true rfl, Nat.le_of_ble_eq_true rfl⟩ ⟨Nat.le_of_ble_eq_true rfl, Nat.le_of_ble_eq_true rfl⟩ (fun v223 u221 H locs hw222 hP hD hS => ?_)
                  obtain ⟨w, sz226, f227, f228, f229, f230, f231⟩ := u221
                  obtain ⟨hw222, h232, h233, hO⟩ := hw222
                  have h232 : sz226 ≤ 5000 := h232
                  have h233 : sz226 ≤ sz + 1 := h233
                  obtain rfl : v223 = some (.int (nI at9)) := hw222
                  have hO : OKW G h0 a (upd (upd (upd F 1 (nI ln)) 2 (nI sz226)) 3 (nI nm)) R Z (updA (updA (updA (updA (updA (updA (updA (updA (updA B 7 f227) 8 f228) 9 f229) 10 f230) 11 f231) 12 ns) 13 nl) 14 nn) 15 bk) J T Pi w := hO.to rfl
                  refine W.widen (k := 0) (n := 0) (Nat.le_of_ble_eq_true rfl) (Nat.le_of_ble_eq_true rfl) ?_
                  refine W.eq (g2 := F0 m 84 ls [.int (nI at9)]) rfl ?_
                  have hz234 : sz226 ≤ 5000 := (by omega)
                  have hz235 : sz226 ≤ sz + 1 := (by omega)
                  have hz236 : NmR nm ns nl nn bk := hnm
                  have hO : OKW G h0 a (upd (upd (upd F 1 (nI ln)) 2 (nI sz226)) 3 (nI nm)) R Z (updA (updA (updA (updA (updA (updA (updA (updA (updA B 7 f227) 8 f228) 9 f229) 10 f230) 11 f231) 12 ns) 13 nl) 14 nn) 15 bk) J T Pi w := hO.to rfl
                  exact W.iret (v := (nI at9)) hx hb hr (fun t99 ht99 hW99 => ⟨⟨_, (w, (sz226, f227, f228, f229, f230, f231, nm, ns, nl, nn, bk, (nI at9))), rfl, ⟨rfl, hz234, hz235, hz236, hO⟩, by rw [ht99]; exact hP, hD⟩, hS.F ht99⟩) hS.2.2 dX10_addToken_84
              · have n237 : ¬ (u160 = 0) := fun h9 => c165 ((nI_eq (a := u160) (b := 0) (by omega) (by omega)).mpr h9)
                refine lv_aload_n hx hb dX10_addToken_60 rfl (lv_at hl 2 rfl) ?_
                refine lv_iload_n hx hb dX10_addToken_61 rfl (lv_at hl 1 rfl) ?_
                refine lv_iload_n hx hb dX10_addToken_62 rfl (lv_at hl 0 rfl) ?_
                have hO : OKW G h0 a (upd (upd (upd (upd (upd F 1 (nI ln)) 2 (nI sz)) 3 (nI nm)) 1 (nI ln)) 2 (nI sz)) R Z (updA (updA (updA (updA B 12 ns) 13 nl) 14 nn) 15 bk) J T Pi w := hO.to rfl
                obtain ⟨_, qr241, hqr242⟩ := hO.2.1 2 _ (sg_2 G h0 a _ _ _ _ _)
                refine pc_V0 (G := G) (As := [.int (nI at9), .int (nI e2)]) (rest := []) hx hb hml hown hq hE hX pX0_al hP hD hS hA hl.1 (K_addNumber l G h0 a (upd (upd (upd F 1 (nI ln)) 2 (nI sz)) 3 (nI nm)) R Z (updA (updA (updA (updA B 12 ns) 13 nl) 14 nn) 15 bk) J T Pi w at9 e2 ln sz (by omega) (by omega) (by omega) hO) (gV pw_1287 pw_1288 pw_1289 pw_59 pw_1276) hV_X10_addNumber qr241 7 hqr242 rfl rfl rfl (Nat.le_of_ble_eq_true rfl) dX10_addToken_63 ⟨Nat.le_of_ble_eq_true rfl, Nat.le_of_ble_eq_true rfl⟩ ⟨Nat.le_of_ble_eq_true rfl, Nat.le_of_ble_eq_true rfl⟩ (fun v240 u238 H locs hw239 hP hD hS => ?_)
                obtain ⟨w, sz243, f244, f245, f246, f247, f248, r249⟩ := u238
                obtain ⟨hw239, h250, h251, hO⟩ := hw239
                have h250 : sz243 ≤ 5000 := h250
                have h251 : sz243 ≤ sz + 1 := h251
                obtain rfl : v240 = some (.int r249) := hw239
                have hO : OKW G h0 a (upd (upd (upd F 1 (nI ln)) 2 (nI sz243)) 3 (nI nm)) R Z (updA (updA (updA (updA (updA (updA (updA (updA (updA B 7 f244) 8 f245) 9 f246) 10 f247) 11 f248) 12 ns) 13 nl) 14 nn) 15 bk) J T Pi w := hO.to rfl
                refine W.widen (k := 0) (n := 0) (Nat.le_of_ble_eq_true rfl) (Nat.le_of_ble_eq_true rfl) ?_
                refine W.eq (g2 := F0 m 66 ls [.int r249]) rfl ?_
                have hz252 : sz243 ≤ 5000 := (by omega)
                have hz253 : sz243 ≤ sz + 1 := (by omega)
                have hz254 : NmR nm ns nl nn bk := hnm
                have hO : OKW G h0 a (upd (upd (upd F 1 (nI ln)) 2 (nI sz243)) 3 (nI nm)) R Z (updA (updA (updA (updA (updA (updA (updA (updA (updA B 7 f244) 8 f245) 9 f246) 10 f247) 11 f248) 12 ns) 13 nl) 14 nn) 15 bk) J T Pi w := hO.to rfl
                exact W.iret (v := r249) hx hb hr (fun t99 ht99 hW99 => ⟨⟨_, (w, (sz243, f244, f245, f246, f247, f248, nm, ns, nl, nn, bk, r249)), rfl, ⟨rfl, hz252, hz253, hz254, hO⟩, by rw [ht99]; exact hP, hD⟩, hS.F ht99⟩) hS.2.2 dX10_addToken_66
            · have n255 : e2 = at9 := (nI_eq (a := e2) (b := at9) (by omega) (by omega)).mp c152
              refine lv_aload_n hx hb dX10_addToken_43 rfl (lv_at hl 2 rfl) ?_
              refine lv_iload_n hx hb dX10_addToken_44 rfl (lv_at hl 1 rfl) ?_
              have hO : OKW G h0 a (upd (upd (upd (upd (upd F 1 (nI ln)) 2 (nI sz)) 3 (nI nm)) 1 (nI ln)) 2 (nI sz)) R Z (updA (updA (updA (updA B 12 ns) 13 nl) 14 nn) 15 bk) J T Pi w := hO.to rfl
              obtain ⟨_, qr259, hqr260⟩ := hO.2.1 2 _ (sg_2 G h0 a _ _ _ _ _)
              refine pc_V0 (G := G) (As := [.int (nI at9)]) (rest := []) hx hb hml hown hq hE hX pX0_al hP hD hS hA hl.1 (K_addSign l G h0 a (upd (upd (upd F 1 (nI ln)) 2 (nI sz)) 3 (nI nm)) R Z (updA (updA (updA (updA B 12 ns) 13 nl) 14 nn) 15 bk) J T Pi w at9 ln sz (by omega) (by omega) (by omega) hO) (gV pw_1284 pw_1285 pw_1286 pw_59 pw_1275) hV_X10_addSign qr259 7 hqr260 rfl rfl rfl (Nat.le_of_ble_eq_true rfl) dX10_addToken_45 ⟨Nat.le_of_ble_eq_true rfl, Nat.le_of_ble_eq_true rfl⟩ ⟨Nat.le_of_ble_eq_true rfl, Nat.le_of_ble_eq_true rfl⟩ (fun v258 u256 H locs hw257 hP hD hS => ?_)
              obtain ⟨w, sz261, f262, f263, f264, f265, f266, r267⟩ := u256
              obtain ⟨hw257, h268, h269, hO⟩ := hw257
              have h268 : sz261 ≤ 5000 := h268
              have h269 : sz261 ≤ sz + 1 := h269
              obtain rfl : v258 = some (.int r267) := hw257
              have hO : OKW G h0 a (upd (upd (upd F 1 (nI ln)) 2 (nI sz261)) 3 (nI nm)) R Z (updA (updA (updA (updA (updA (updA (updA (updA (updA B 7 f262) 8 f263) 9 f264) 10 f265) 11 f266) 12 ns) 13 nl) 14 nn) 15 bk) J T Pi w := hO.to rfl
              refine W.widen (k := 0) (n := 0) (Nat.le_of_ble_eq_true rfl) (Nat.le_of_ble_eq_true rfl) ?_
              refine W.eq (g2 := F0 m 48 ls [.int r267]) rfl ?_
              have hz270 : sz261 ≤ 5000 := (by omega)
              have hz271 : sz261 ≤ sz + 1 := (by omega)
              have hz272 : NmR nm ns nl nn bk := hnm
              have hO : OKW G h0 a (upd (upd (upd F 1 (nI ln)) 2 (nI sz261)) 3 (nI nm)) R Z (updA (updA (updA (updA (updA (updA (updA (updA (updA B 7 f262) 8 f263) 9 f264) 10 f265) 11 f266) 12 ns) 13 nl) 14 nn) 15 bk) J T Pi w := hO.to rfl
              exact W.iret (v := r267) hx hb hr (fun t99 ht99 hW99 => ⟨⟨_, (w, (sz261, f262, f263, f264, f265, f266, nm, ns, nl, nn, bk, r267)), rfl, ⟨rfl, hz270, hz271, hz272, hO⟩, by rw [ht99]; exact hP, hD⟩, hS.F ht99⟩) hS.2.2 dX10_addToken_48
          · have n273 : ¬ (u145 = 0) := fun h9 => c150 ((nI_eq (a := u145) (b := 0) (by omega) (by omega)).mpr h9)
            refine lv_iinc (v := (nI (e2 + 1))) (lv' := [(2, .int (nI (e2 + 1))), (1, .int (nI at9)), (0, .ref (a 1))]) hx hb dX10_addToken_32 hl (k := 0) rfl (nI_1 e2) (by decide) rfl (fun ls hl => ?_)
            refine lv_goto (tgt := 2) hx hb dX10_addToken_35 (by decide) ?_
            have hO : OKW G h0 a (upd (upd (upd F 1 (nI ln)) 2 (nI sz)) 3 (nI nm)) R Z (updA (updA (updA (updA B 12 ns) 13 nl) 14 nn) 15 bk) J T Pi w := hO.to rfl
            exact ih_e (e2 + 1) _ _ _ _ (by omega) (by omega) (by omega) hP hD hS hO (lv_sub hl [0, 1, 2] rfl)
  have hO : OKW G h0 a (upd (upd (upd F 1 (nI ln)) 2 (nI sz)) 3 (nI nm)) R Z (updA (updA (updA (updA B 12 ns) 13 nl) 14 nn) 15 bk) J T Pi w := hO.to rfl
  exact loop_e (ln + 1) at9 _ _ _ _ (by omega) (by omega) (by omega) hP hD hS hO (lv_sub hl [0, 2, 1] rfl)
