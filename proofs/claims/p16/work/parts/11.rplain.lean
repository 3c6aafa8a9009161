/-- 'low <= x <= high' as the reference asks it -/
def isin (x lo hi : Int32) : Int32 := if x < lo ∨ hi < x then 0 else 1
theorem isin_nar (x lo hi : Int32) : narrow .boolean (.int (isin x lo hi)) = .int (isin x lo hi) := by
  unfold isin
  split <;> rfl
theorem isin_0 {x lo hi : Int32} (h : ¬ isin x lo hi = 0) : ¬ x < lo := fun q => h (if_pos (Or.inl q))
theorem lt48 {x : Int32} (h : ¬ x < 48) : ¬ x < 48 := h
theorem lt65 {x : Int32} (h : ¬ x < 65) : ¬ x < 48 := fun e => h (Int32.lt_trans e (by decide))
theorem lt97 {x : Int32} (h : ¬ x < 97) : ¬ x < 48 := fun e => h (Int32.lt_trans e (by decide))
theorem no32 {x : Int32} (h : ¬ x < 48) : ¬ x = 32 := fun e => h (by rw [e]; decide)
theorem noM1 {x : Int32} (h : ¬ x < 48) : ¬ x = (-1) := fun e => h (by rw [e]; decide)
theorem and255 (x : Int32) : ∃ j : Nat, j < 256 ∧ x &&& 255 = nI j := by
  refine ⟨(x &&& 255).toBitVec.toNat, ?_, ?_⟩
  · rw [Int32.toBitVec_and, BitVec.toNat_and]
    exact Nat.lt_of_le_of_lt Nat.and_le_right (by decide)
  · apply Int32.toBitVec_inj.mp
    show _ = BitVec.ofNat 32 _
    rw [BitVec.ofNat_toNat, BitVec.setWidth_eq]
/-- a byte as the tape holds it -/
def tOk (x : Int32) : Prop := ∃ k : Nat, k < 256 ∧ x = nI k
theorem tOk_upd {g : Nat → Int32} {n : Nat} {x : Int32} (h : ∀ j : Nat, j < n → tOk (g j)) (hx : tOk x) : ∀ j : Nat, j < n + 1 → tOk (upd g n x j) := fun j hj => by
  unfold upd
  by_cases e : j = n
  · rw [if_pos e]; exact hx
  · rw [if_neg e]; exact h j (by omega)
def bkR (x : Int32) (t : Nat) : Int32 := if x < 0 ∨ nI t < x then -1 else nI t - x
def bkT (x : Int32) (t : Nat) : Int32 := if x < 0 ∨ nI t < x then nI t else nI t - x
theorem bk_le {x : Int32} {t : Nat} (ht : t ≤ 5000) (h0 : ¬ x < 0) (h1 : x ≤ nI t) : ∃ j : Nat, j ≤ t ∧ x = nI j := nI_of2 (M := nI t) (n := t) (nI_toInt (by omega)) h0 h1
def fdR (t : Nat) : Int32 := if t ≤ 4980 then nI (t + 20) else -1
def fdT (t : Nat) : Int32 := if t ≤ 4980 then nI (t + 20) else nI t
theorem dX12_in_0 : decode cX12_in 0 = .ok (.iload_n 0, 1) := by decide +kernel
theorem dX12_in_1 : decode cX12_in 1 = .ok (.iload_n 1, 1) := by decide +kernel
theorem dX12_in_2 : decode cX12_in 2 = .ok (.if_icmp .lt 12, 3) := by decide +kernel
theorem dX12_in_14 : decode cX12_in 14 = .ok (.iconst 0, 1) := by decide +kernel
theorem dX12_in_15 : decode cX12_in 15 = .ok (.ireturn, 1) := by decide +kernel
theorem dX12_in_5 : decode cX12_in 5 = .ok (.iload_n 0, 1) := by decide +kernel
theorem dX12_in_6 : decode cX12_in 6 = .ok (.iload_n 2, 1) := by decide +kernel
theorem dX12_in_7 : decode cX12_in 7 = .ok (.if_icmp .gt 7, 3) := by decide +kernel
theorem dX12_in_10 : decode cX12_in 10 = .ok (.iconst 1, 1) := by decide +kernel
theorem dX12_in_11 : decode cX12_in 11 = .ok (.goto 4, 3) := by decide +kernel
set_option maxHeartbeats 1000000 in
set_option maxRecDepth 100000 in
/-- in(x, low, high) -/
theorem s_in (l : Launch) (G : pT) (x : Int32) (lo : Int32) (hi : Int32) : PM l G pX0 yX12_in cX12_in 3 (some .boolean) ({ frames := 2, cells := 0, slots := 0, locals := 60 }) [.int x, .int lo, .int hi] [] (fun (v : Option Value) (u : Unit) => v = some (.int (isin x lo hi))) (fun u => []) := by
  intro sz
  refine Met.ofW (cc := cX12_in) (maxL := 3) (ret := (some .boolean)) (by decide) rfl ?_
  intro p e s m args below meth c s₁ B hml hv
  obtain ⟨rfl, hsz, hP, hD0, hE, hX⟩ := hv
  have hx := B.exec
  have hb := B.bytes
  have hr := B.returns
  have hts := atoms_spec (ws := Cond.code yX12_in cX12_in 3 (some .boolean) :: pw) B.pre
  have hq : ∀ w ∈ pw, w.before _ s = true := fun w h => hts w (List.mem_cons_of_mem _ h)
  have hown : s.vm.findClass RX12 = some m.cls := findClass_of_methodNamed B.named
  have hlocks := B.notSynchronized
  subst hsz
  have hD := hD0.self (sz := s.heap.size)
  have hA : ∀ q : Nat, s.heap.size ≤ q → va_A [] s.heap.size q := fun q h => Or.inr h
  have hP : va_P G.1 pCl [] s.heap := hP
  generalize va_A [] s.heap.size = A at hD hE hA ⊢
  have hS : va_S A s.heap s.heap [] := va_S.rf
  have hl := lv_entry ([.int x, .int lo, .int hi]) (n := 3) (Nat.le_of_ble_eq_true rfl)
  rw [lg_entry_eq]
  generalize (lg_sl ([.int x, .int lo, .int hi]) ++ List.replicate (3 - (lg_sl ([.int x, .int lo, .int hi])).length) Slot.unset).toArray = ls at hl ⊢
  have hl : lv_has ls 3 [(0, .int x), (1, .int lo), (2, .int hi)] := hl
  refine lv_iload_n hx hb dX12_in_0 rfl (lv_at hl 0 rfl) ?_
  refine lv_iload_n hx hb dX12_in_1 rfl (lv_at hl 1 rfl) ?_
  refine lv_icmp_lt (tgt := 14) hx hb dX12_in_2 (by decide) (fun c1 => ?_) (fun c1 => ?_)
  · refine lv_iconst (v := 0) hx hb dX12_in_14 (by decide) ?_
    refine W.widen (k := 0) (n := 0) (Nat.le_of_ble_eq_true rfl) (Nat.le_of_ble_eq_true rfl) ?_
    exact W.zret (v := 0) hx hb hr rfl (fun t ht hW => ⟨⟨_, (), rfl, (by unfold isin; rw [if_pos (Or.inl c1)]), by rw [ht]; exact hP.sub [] rfl, hD.sub [] (by decide) rfl⟩, hS.F ht⟩) hS.2.2 dX12_in_15
  · refine lv_iload_n hx hb dX12_in_5 rfl (lv_at hl 0 rfl) ?_
    refine lv_iload_n hx hb dX12_in_6 rfl (lv_at hl 2 rfl) ?_
    refine lv_icmp_gt (tgt := 14) hx hb dX12_in_7 (by decide) (fun c2 => ?_) (fun c2 => ?_)
    · refine lv_iconst (v := 0) hx hb dX12_in_14 (by decide) ?_
      refine W.widen (k := 0) (n := 0) (Nat.le_of_ble_eq_true rfl) (Nat.le_of_ble_eq_true rfl) ?_
      exact W.zret (v := 0) hx hb hr rfl (fun t ht hW => ⟨⟨_, (), rfl, (by unfold isin; rw [if_pos (Or.inr c2)]), by rw [ht]; exact hP.sub [] rfl, hD.sub [] (by decide) rfl⟩, hS.F ht⟩) hS.2.2 dX12_in_15
    · refine lv_iconst (v := 1) hx hb dX12_in_10 (by decide) ?_
      refine lv_goto (tgt := 15) hx hb dX12_in_11 (by decide) ?_
      refine W.widen (k := 0) (n := 0) (Nat.le_of_ble_eq_true rfl) (Nat.le_of_ble_eq_true rfl) ?_
      exact W.zret (v := 1) hx hb hr rfl (fun t ht hW => ⟨⟨_, (), rfl, (by unfold isin; rw [if_neg (fun q => q.elim c1 c2)]), by rw [ht]; exact hP.sub [] rfl, hD.sub [] (by decide) rfl⟩, hS.F ht⟩) hS.2.2 dX12_in_15
theorem dX12_isLetter_0 : decode cX12_isLetter 0 = .ok (.iload_n 0, 1) := by decide +kernel
theorem dX12_isLetter_1 : decode cX12_isLetter 1 = .ok (.bipush 65, 2) := by decide +kernel
theorem dX12_isLetter_3 : decode cX12_isLetter 3 = .ok (.bipush 90, 2) := by decide +kernel
theorem dX12_isLetter_5 : decode cX12_isLetter 5 = .ok (.invokestatic 261, 3) := by decide +kernel
theorem dX12_isLetter_8 : decode cX12_isLetter 8 = .ok (.ifCond .ne 14, 3) := by decide +kernel
theorem dX12_isLetter_22 : decode cX12_isLetter 22 = .ok (.iconst 1, 1) := by decide +kernel
theorem dX12_isLetter_23 : decode cX12_isLetter 23 = .ok (.goto 4, 3) := by decide +kernel
theorem dX12_isLetter_27 : decode cX12_isLetter 27 = .ok (.ireturn, 1) := by decide +kernel
theorem dX12_isLetter_11 : decode cX12_isLetter 11 = .ok (.iload_n 0, 1) := by decide +kernel
theorem dX12_isLetter_12 : decode cX12_isLetter 12 = .ok (.bipush 97, 2) := by decide +kernel
theorem dX12_isLetter_14 : decode cX12_isLetter 14 = .ok (.bipush 122, 2) := by decide +kernel
theorem dX12_isLetter_16 : decode cX12_isLetter 16 = .ok (.invokestatic 261, 3) := by decide +kernel
theorem dX12_isLetter_19 : decode cX12_isLetter 19 = .ok (.ifCond .eq 7, 3) := by decide +kernel
theorem dX12_isLetter_26 : decode cX12_isLetter 26 = .ok (.iconst 0, 1) := by decide +kernel
theorem hS_X12_in : yX12_in.cls ≠ "java/lang/invoke/MethodHandle" ∧ yX12_in.cls ≠ "java/lang/invoke/VarHandle" ∧ (parseMethodDescriptor yX12_in.desc).map (fun d => d.parameters.length) = some 3 := by decide +kernel
set_option maxHeartbeats 1000000 in
set_option maxRecDepth 100000 in
/-- isLetter(c): no blank -/
theorem s_isLetter (l : Launch) (G : pT) (x : Int32) : PM l G pX0 yX12_isLetter cX12_isLetter 1 (some .boolean) ({ frames := 3, cells := 0, slots := 0, locals := 82 }) [.int x] [] (fun (v : Option Value) (u : Unit) => ∃ r : Int32, v = some (.int r) ∧ (r = 0 ∨ ¬ x < 48) ∧ narrow .boolean (.int r) = .int r) (fun u => []) := by
  intro sz
  refine Met.ofW (cc := cX12_isLetter) (maxL := 1) (ret := (some .boolean)) (by decide) rfl ?_
  intro p e s m args below meth c s₁ B hml hv
  obtain ⟨rfl, hsz, hP, hD0, hE, hX⟩ := hv
  have hx := B.exec
  have hb := B.bytes
  have hr := B.returns
  have hts := atoms_spec (ws := Cond.code yX12_isLetter cX12_isLetter 1 (some .boolean) :: pw) B.pre
  have hq : ∀ w ∈ pw, w.before _ s = true := fun w h => hts w (List.mem_cons_of_mem _ h)
  have hown : s.vm.findClass RX12 = some m.cls := findClass_of_methodNamed B.named
  have hlocks := B.notSynchronized
  subst hsz
  have hD := hD0.self (sz := s.heap.size)
  have hA : ∀ q : Nat, s.heap.size ≤ q → va_A [] s.heap.size q := fun q h => Or.inr h
  have hP : va_P G.1 pCl [] s.heap := hP
  generalize va_A [] s.heap.size = A at hD hE hA ⊢
  have hS : va_S A s.heap s.heap [] := va_S.rf
  have hl := lv_entry ([.int x]) (n := 1) (Nat.le_of_ble_eq_true rfl)
  rw [lg_entry_eq]
  generalize (lg_sl ([.int x]) ++ List.replicate (1 - (lg_sl ([.int x])).length) Slot.unset).toArray = ls at hl ⊢
  have hl : lv_has ls 1 [(0, .int x)] := hl
  refine lv_iload_n hx hb dX12_isLetter_0 rfl (lv_at hl 0 rfl) ?_
  refine lv_bipush (v := 65) hx hb dX12_isLetter_1 (by decide) ?_
  refine lv_bipush (v := 90) hx hb dX12_isLetter_3 (by decide) ?_
  refine pc_S (G := G) (As := [.int x, .int 65, .int 90]) (rest := []) (wr := []) hx hb hml hown hq hE hX pX0_al hP hD hS hA hl.1 (s_in l G x 65 90) (gS pw_1521 pw_1522 pw_1523 pw_1513) hS_X12_in [] [] rfl rfl (by decide) (by decide) (by decide) rfl (Nat.le_of_ble_eq_true rfl) dX12_isLetter_5 ⟨Nat.le_of_ble_eq_true rfl, Nat.le_of_ble_eq_true rfl⟩ ⟨Nat.le_of_ble_eq_true rfl, Nat.le_of_ble_eq_true rfl⟩ (fun v3 u1 H locs hw2 hP hD hS => ?_)
  obtain rfl : v3 = some (.int (isin x 65 90)) := hw2
  have hP : va_P G.1 pCl [] H := hP
  have hD : va_D A [] := hD
  refine W.widen (k := 0) (n := 0) (Nat.le_of_ble_eq_true rfl) (Nat.le_of_ble_eq_true rfl) ?_
  refine W.eq (g2 := F0 m 8 ls [.int (isin x 65 90)]) rfl ?_
  refine lv_if_ne (tgt := 22) hx hb dX12_isLetter_8 (by decide) (fun c4 => ?_) (fun c4 => ?_)
  · refine lv_iconst (v := 1) hx hb dX12_isLetter_22 (by decide) ?_
    refine lv_goto (tgt := 27) hx hb dX12_isLetter_23 (by decide) ?_
    refine W.widen (k := 0) (n := 0) (Nat.le_of_ble_eq_true rfl) (Nat.le_of_ble_eq_true rfl) ?_
    exact W.zret (v := 1) hx hb hr rfl (fun t ht hW => ⟨⟨_, (), rfl, ⟨_, rfl, Or.inr (lt65 (isin_0 c4)), rfl⟩, by rw [ht]; exact hP.sub [] rfl, hD.sub [] (by decide) rfl⟩, hS.F ht⟩) hS.2.2 dX12_isLetter_27
  · refine lv_iload_n hx hb dX12_isLetter_11 rfl (lv_at hl 0 rfl) ?_
    refine lv_bipush (v := 97) hx hb dX12_isLetter_12 (by decide) ?_
    refine lv_bipush (v := 122) hx hb dX12_isLetter_14 (by decide) ?_
    refine pc_S (G := G) (As := [.int x, .int 97, .int 122]) (rest := []) (wr := []) hx hb hml hown hq hE hX pX0_al hP hD hS hA hl.1 (s_in l G x 97 122) (gS pw_1521 pw_1522 pw_1523 pw_1513) hS_X12_in [] [] rfl rfl (by decide) (by decide) (by decide) rfl (Nat.le_of_ble_eq_true rfl) dX12_isLetter_16 ⟨Nat.le_of_ble_eq_true rfl, Nat.le_of_ble_eq_true rfl⟩ ⟨Nat.le_of_ble_eq_true rfl, Nat.le_of_ble_eq_true rfl⟩ (fun v7 u5 H locs hw6 hP hD hS => ?_)
    obtain rfl : v7 = some (.int (isin x 97 122)) := hw6
    have hP : va_P G.1 pCl [] H := hP
    have hD : va_D A [] := hD
    refine W.widen (k := 0) (n := 0) (Nat.le_of_ble_eq_true rfl) (Nat.le_of_ble_eq_true rfl) ?_
    refine W.eq (g2 := F0 m 19 ls [.int (isin x 97 122)]) rfl ?_
    refine lv_if_eq (tgt := 26) hx hb dX12_isLetter_19 (by decide) (fun c8 => ?_) (fun c8 => ?_)
    · refine lv_iconst (v := 0) hx hb dX12_isLetter_26 (by decide) ?_
      refine W.widen (k := 0) (n := 0) (Nat.le_of_ble_eq_true rfl) (Nat.le_of_ble_eq_true rfl) ?_
      exact W.zret (v := 0) hx hb hr rfl (fun t ht hW => ⟨⟨_, (), rfl, ⟨_, rfl, Or.inl rfl, rfl⟩, by rw [ht]; exact hP.sub [] rfl, hD.sub [] (by decide) rfl⟩, hS.F ht⟩) hS.2.2 dX12_isLetter_27
    · refine lv_iconst (v := 1) hx hb dX12_isLetter_22 (by decide) ?_
      refine lv_goto (tgt := 27) hx hb dX12_isLetter_23 (by decide) ?_
      refine W.widen (k := 0) (n := 0) (Nat.le_of_ble_eq_true rfl) (Nat.le_of_ble_eq_true rfl) ?_
      exact W.zret (v := 1) hx hb hr rfl (fun t ht hW => ⟨⟨_, (), rfl, ⟨_, rfl, Or.inr (lt97 (isin_0 c8)), rfl⟩, by rw [ht]; exact hP.sub [] rfl, hD.sub [] (by decide) rfl⟩, hS.F ht⟩) hS.2.2 dX12_isLetter_27
theorem dX12_isDigit_0 : decode cX12_isDigit 0 = .ok (.iload_n 0, 1) := by decide +kernel
theorem dX12_isDigit_1 : decode cX12_isDigit 1 = .ok (.bipush 48, 2) := by decide +kernel
theorem dX12_isDigit_3 : decode cX12_isDigit 3 = .ok (.bipush 57, 2) := by decide +kernel
theorem dX12_isDigit_5 : decode cX12_isDigit 5 = .ok (.invokestatic 261, 3) := by decide +kernel
theorem dX12_isDigit_8 : decode cX12_isDigit 8 = .ok (.ireturn, 1) := by decide +kernel
set_option maxHeartbeats 1000000 in
set_option maxRecDepth 100000 in
/-- isDigit(c): no blank -/
theorem s_isDigit (l : Launch) (G : pT) (x : Int32) : PM l G pX0 yX12_isDigit cX12_isDigit 1 (some .boolean) ({ frames := 3, cells := 0, slots := 0, locals := 82 }) [.int x] [] (fun (v : Option Value) (u : Unit) => ∃ r : Int32, v = some (.int r) ∧ (r = 0 ∨ ¬ x < 48) ∧ narrow .boolean (.int r) = .int r) (fun u => []) := by
  intro sz
  refine Met.ofW (cc := cX12_isDigit) (maxL := 1) (ret := (some .boolean)) (by decide) rfl ?_
  intro p e s m args below meth c s₁ B hml hv
  obtain ⟨rfl, hsz, hP, hD0, hE, hX⟩ := hv
  have hx := B.exec
  have hb := B.bytes
  have hr := B.returns
  have hts := atoms_spec (ws := Cond.code yX12_isDigit cX12_isDigit 1 (some .boolean) :: pw) B.pre
  have hq : ∀ w ∈ pw, w.before _ s = true := fun w h => hts w (List.mem_cons_of_mem _ h)
  have hown : s.vm.findClass RX12 = some m.cls := findClass_of_methodNamed B.named
  have hlocks := B.notSynchronized
  subst hsz
  have hD := hD0.self (sz := s.heap.size)
  have hA : ∀ q : Nat, s.heap.size ≤ q → va_A [] s.heap.size q := fun q h => Or.inr h
  have hP : va_P G.1 pCl [] s.heap := hP
  generalize va_A [] s.heap.size = A at hD hE hA ⊢
  have hS : va_S A s.heap s.heap [] := va_S.rf
  have hl := lv_entry ([.int x]) (n := 1) (Nat.le_of_ble_eq_true rfl)
  rw [lg_entry_eq]
  generalize (lg_sl ([.int x]) ++ List.replicate (1 - (lg_sl ([.int x])).length) Slot.unset).toArray = ls at hl ⊢
  have hl : lv_has ls 1 [(0, .int x)] := hl
  refine lv_iload_n hx hb dX12_isDigit_0 rfl (lv_at hl 0 rfl) ?_
  refine lv_bipush (v := 48) hx hb dX12_isDigit_1 (by decide) ?_
  refine lv_bipush (v := 57) hx hb dX12_isDigit_3 (by decide) ?_
  refine pc_S (G := G) (As := [.int x, .int 48, .int 57]) (rest := []) (wr := []) hx hb hml hown hq hE hX pX0_al hP hD hS hA hl.1 (s_in l G x 48 57) (gS pw_1521 pw_1522 pw_1523 pw_1513) hS_X12_in [] [] rfl rfl (by decide) (by decide) (by decide) rfl (Nat.le_of_ble_eq_true rfl) dX12_isDigit_5 ⟨Nat.le_of_ble_eq_true rfl, Nat.le_of_ble_eq_true rfl⟩ ⟨Nat.le_of_ble_eq_true rfl, Nat.le_of_ble_eq_true rfl⟩ (fun v3 u1 H locs hw2 hP hD hS => ?_)
  obtain rfl : v3 = some (.int (isin x 48 57)) := hw2
  have hP : va_P G.1 pCl [] H := hP
  have hD : va_D A [] := hD
  refine W.widen (k := 0) (n := 0) (Nat.le_of_ble_eq_true rfl) (Nat.le_of_ble_eq_true rfl) ?_
  refine W.eq (g2 := F0 m 8 ls [.int (isin x 48 57)]) rfl ?_
  refine W.widen (k := 0) (n := 0) (Nat.le_of_ble_eq_true rfl) (Nat.le_of_ble_eq_true rfl) ?_
  exact W.zret (v := (isin x 48 57)) hx hb hr (isin_nar _ _ _) (fun t ht hW => ⟨⟨_, (), rfl, ⟨_, rfl, (Classical.em (isin x 48 57 = 0)).imp id (fun h => lt48 (isin_0 h)), isin_nar _ _ _⟩, by rw [ht]; exact hP.sub [] rfl, hD.sub [] (by decide) rfl⟩, hS.F ht⟩) hS.2.2 dX12_isDigit_8
theorem dX12_back_0 : decode cX12_back 0 = .ok (.aload_n 0, 1) := by decide +kernel
theorem dX12_back_1 : decode cX12_back 1 = .ok (.iconst 0, 1) := by decide +kernel
theorem dX12_back_2 : decode cX12_back 2 = .ok (.putfield 252, 3) := by decide +kernel
theorem dX12_back_5 : decode cX12_back 5 = .ok (.iload_n 1, 1) := by decide +kernel
theorem dX12_back_6 : decode cX12_back 6 = .ok (.ifCond .lt 11, 3) := by decide +kernel
theorem dX12_back_17 : decode cX12_back 17 = .ok (.iconst (-1), 1) := by decide +kernel
theorem dX12_back_18 : decode cX12_back 18 = .ok (.ireturn, 1) := by decide +kernel
theorem dX12_back_9 : decode cX12_back 9 = .ok (.iload_n 1, 1) := by decide +kernel
theorem dX12_back_10 : decode cX12_back 10 = .ok (.aload_n 0, 1) := by decide +kernel
theorem dX12_back_11 : decode cX12_back 11 = .ok (.getfield 255, 3) := by decide +kernel
theorem dX12_back_14 : decode cX12_back 14 = .ok (.if_icmp .le 5, 3) := by decide +kernel
theorem dX12_back_19 : decode cX12_back 19 = .ok (.aload_n 0, 1) := by decide +kernel
theorem dX12_back_20 : decode cX12_back 20 = .ok (.dup, 1) := by decide +kernel
theorem dX12_back_21 : decode cX12_back 21 = .ok (.getfield 255, 3) := by decide +kernel
theorem dX12_back_24 : decode cX12_back 24 = .ok (.iload_n 1, 1) := by decide +kernel
theorem dX12_back_25 : decode cX12_back 25 = .ok (.isub, 1) := by decide +kernel
theorem dX12_back_26 : decode cX12_back 26 = .ok (.putfield 255, 3) := by decide +kernel
theorem dX12_back_29 : decode cX12_back 29 = .ok (.aload_n 0, 1) := by decide +kernel
theorem dX12_back_30 : decode cX12_back 30 = .ok (.getfield 255, 3) := by decide +kernel
theorem dX12_back_33 : decode cX12_back 33 = .ok (.ireturn, 1) := by decide +kernel
set_option maxHeartbeats 2000000 in
set_option maxRecDepth 100000 in
/-- back(n) -/
theorem R_back (l : Launch) (G : pT) (h0 : Nat) (a : Nat → Nat) (F : Nat → Int32) (B : Nat → Nat → Int32) (x : Int32) (t : Nat) (ht : t ≤ 5000) : PM l G pX0 yX12_back cX12_back 2 (some .int) ({ frames := 2, cells := 0, slots := 0, locals := 60 }) [.ref h0, .int x] (mW G h0 a (upd F 2 (nI t)) B) (fun (v : Option Value) (u : Nat) => v = some (.int (bkR x t)) ∧ (u ≤ 5000) ∧ (nI u = bkT x t)) (fun u => (mW G h0 a (upd (upd F 0 0) 2 (nI u)) B)) := by
  intro sz
  refine Met.ofW (cc := cX12_back) (maxL := 2) (ret := (some .int)) (by decide) rfl ?_
  intro p e s m args below meth c s₁ B9 hml hv
  obtain ⟨rfl, hsz, hP, hD0, hE, hX⟩ := hv
  have hx := B9.exec
  have hb := B9.bytes
  have hr := B9.returns
  have hts := atoms_spec (ws := Cond.code yX12_back cX12_back 2 (some .int) :: pw) B9.pre
  have hq : ∀ w ∈ pw, w.before _ s = true := fun w h => hts w (List.mem_cons_of_mem _ h)
  have hown : s.vm.findClass RX12 = some m.cls := findClass_of_methodNamed B9.named
  have hlocks := B9.notSynchronized
  subst hsz
  have hD := hD0.self (sz := s.heap.size)
  have hA : ∀ q : Nat, s.heap.size ≤ q → va_A (mW G h0 a (upd F 2 (nI t)) B) s.heap.size q := fun q h => Or.inr h
  have hP : va_P G.1 pCl (mW G h0 a (upd F 2 (nI t)) B) s.heap := hP
  generalize va_A (mW G h0 a (upd F 2 (nI t)) B) s.heap.size = A at hD hE hA ⊢
  have hS : va_S A s.heap s.heap [] := va_S.rf
  have hl := lv_entry ([.ref h0, .int x]) (n := 2) (Nat.le_of_ble_eq_true rfl)
  rw [lg_entry_eq]
  generalize (lg_sl ([.ref h0, .int x]) ++ List.replicate (2 - (lg_sl ([.ref h0, .int x])).length) Slot.unset).toArray = ls at hl ⊢
  have hl : lv_has ls 2 [(0, .ref h0), (1, .int x)] := hl
  refine lv_aload_n hx hb dX12_back_0 rfl (lv_at hl 0 rfl) ?_
  refine lv_iconst (v := 0) hx hb dX12_back_1 (by decide) ?_
  refine r_put (v := 0) (ty := .int) hx hb hown hq hE hP hD hS 0 252 tFX12_0 (by decide) pw_1515 (by decide) rfl rfl (ms_0 a _ _) dX12_back_2 (fun H locs hP hD hS => ?_)
  refine lv_iload_n hx hb dX12_back_5 rfl (lv_at hl 1 rfl) ?_
  refine lv_if_lt (tgt := 17) hx hb dX12_back_6 (by decide) (fun c1 => ?_) (fun c1 => ?_)
  · refine lv_iconst (v := (-1)) hx hb dX12_back_17 (by decide) ?_
    have hz2 : t ≤ 5000 := ht
    have hz3 : nI t = bkT x t := (by unfold bkT; rw [if_pos (Or.inl c1)])
    have hP : va_P G.1 pCl (mW G h0 a (upd (upd F 0 0) 2 (nI t)) B) _ := mW_to (F := F) (l1 := [(2, (nI t)), (0, 0)]) (l2 := [(0, 0), (2, (nI t))]) (V := [(nI t), 0, 0, (nI t)]) rfl rfl rfl hP
    have hD : va_D A (mW G h0 a (upd (upd F 0 0) 2 (nI t)) B) := mW_D hD
    exact W.iret (v := (-1)) hx hb hr (fun t9 ht9 hW9 => ⟨⟨_, t, rfl, ⟨(by unfold bkR; rw [if_pos (Or.inl c1)]), hz2, hz3⟩, by rw [ht9]; exact hP, hD⟩, hS.F ht9⟩) hS.2.2 dX12_back_18
  · refine lv_iload_n hx hb dX12_back_9 rfl (lv_at hl 1 rfl) ?_
    refine lv_aload_n hx hb dX12_back_10 rfl (lv_at hl 0 rfl) ?_
    refine r_get (v := .int (nI t)) hx hb hown hq hE hP 2 255 tFX12_2 (by decide) pw_1516 rfl dX12_back_11 ?_
    refine lv_icmp_le (tgt := 19) hx hb dX12_back_14 (by decide) (fun c4 => ?_) (fun c4 => ?_)
    · obtain ⟨j5, hj6, exj5⟩ := bk_le ht c1 c4
      refine lv_aload_n hx hb dX12_back_19 rfl (lv_at hl 0 rfl) ?_
      refine lv_dup hx hb dX12_back_20 rfl ?_
      refine r_get (v := .int (nI t)) hx hb hown hq hE hP 2 255 tFX12_2 (by decide) pw_1516 rfl dX12_back_21 ?_
      refine lv_iload_n hx hb dX12_back_24 rfl (lv_at hl 1 rfl) ?_
      refine lv_isub hx hb dX12_back_25 ?_
      refine lv_topi (fun x7 e8 => ?_)
      obtain rfl : x7 = nI (t - j5) := e8.trans (by rw [exj5, nI_subN hj6])
      refine r_put (v := (nI (t - j5))) (ty := .int) hx hb hown hq hE hP hD hS 2 255 tFX12_2 (by decide) pw_1516 (by decide) rfl rfl (ms_2 a _ _) dX12_back_26 (fun H locs hP hD hS => ?_)
      refine lv_aload_n hx hb dX12_back_29 rfl (lv_at hl 0 rfl) ?_
      refine r_get (v := .int (nI (t - j5))) hx hb hown hq hE hP 2 255 tFX12_2 (by decide) pw_1516 rfl dX12_back_30 ?_
      have hz9 : (t - j5) ≤ 5000 := (by omega)
      have hz10 : nI (t - j5) = bkT x t := (by unfold bkT; rw [if_neg (fun q => q.elim c1 (Int32.not_lt.mpr c4)), exj5, nI_subN hj6])
      have hP : va_P G.1 pCl (mW G h0 a (upd (upd F 0 0) 2 (nI (t - j5))) B) _ := mW_to (F := F) (l1 := [(2, (nI t)), (0, 0), (2, (nI (t - j5)))]) (l2 := [(0, 0), (2, (nI (t - j5)))]) (V := [(nI (t - j5)), 0, (nI (t - j5)), 0, (nI (t - j5))]) rfl rfl rfl hP
      have hD : va_D A (mW G h0 a (upd (upd F 0 0) 2 (nI (t - j5))) B) := mW_D hD
      exact W.iret (v := (nI (t - j5))) hx hb hr (fun t9 ht9 hW9 => ⟨⟨_, (t - j5), rfl, ⟨(by unfold bkR; rw [if_neg (fun q => q.elim c1 (Int32.not_lt.mpr c4)), exj5, nI_subN hj6]), hz9, hz10⟩, by rw [ht9]; exact hP, hD⟩, hS.F ht9⟩) hS.2.2 dX12_back_33
    · refine lv_iconst (v := (-1)) hx hb dX12_back_17 (by decide) ?_
      have hz11 : t ≤ 5000 := ht
      have hz12 : nI t = bkT x t := (by unfold bkT; rw [if_pos (Or.inr (Int32.not_le.mp c4))])
      have hP : va_P G.1 pCl (mW G h0 a (upd (upd F 0 0) 2 (nI t)) B) _ := mW_to (F := F) (l1 := [(2, (nI t)), (0, 0)]) (l2 := [(0, 0), (2, (nI t))]) (V := [(nI t), 0, 0, (nI t)]) rfl rfl rfl hP
      have hD : va_D A (mW G h0 a (upd (upd F 0 0) 2 (nI t)) B) := mW_D hD
      exact W.iret (v := (-1)) hx hb hr (fun t9 ht9 hW9 => ⟨⟨_, t, rfl, ⟨(by unfold bkR; rw [if_pos (Or.inr (Int32.not_le.mp c4))]), hz11, hz12⟩, by rw [ht9]; exact hP, hD⟩, hS.F ht9⟩) hS.2.2 dX12_back_18
theorem dX12_ch_0 : decode cX12_ch 0 = .ok (.iload_n 1, 1) := by decide +kernel
theorem dX12_ch_1 : decode cX12_ch 1 = .ok (.aload_n 0, 1) := by decide +kernel
theorem dX12_ch_2 : decode cX12_ch 2 = .ok (.getfield 258, 3) := by decide +kernel
theorem dX12_ch_5 : decode cX12_ch 5 = .ok (.if_icmp .ge 12, 3) := by decide +kernel
theorem dX12_ch_17 : decode cX12_ch 17 = .ok (.iconst (-1), 1) := by decide +kernel
theorem dX12_ch_18 : decode cX12_ch 18 = .ok (.ireturn, 1) := by decide +kernel
theorem dX12_ch_8 : decode cX12_ch 8 = .ok (.aload_n 0, 1) := by decide +kernel
theorem dX12_ch_9 : decode cX12_ch 9 = .ok (.getfield 13, 3) := by decide +kernel
theorem dX12_ch_12 : decode cX12_ch 12 = .ok (.iload_n 1, 1) := by decide +kernel
theorem dX12_ch_13 : decode cX12_ch 13 = .ok (.iaload, 1) := by decide +kernel
theorem dX12_ch_14 : decode cX12_ch 14 = .ok (.goto 4, 3) := by decide +kernel
set_option maxHeartbeats 2000000 in
set_option maxRecDepth 100000 in
/-- ch(i) -/
theorem R_ch (l : Launch) (G : pT) (h0 : Nat) (a : Nat → Nat) (F : Nat → Int32) (B : Nat → Nat → Int32) (j : Nat) (sz : Nat) (hsz : sz ≤ 5000) (hj : j ≤ 6000) : PM l G pX0 yX12_ch cX12_ch 2 (some .int) ({ frames := 2, cells := 0, slots := 0, locals := 60 }) [.ref h0, .int (nI j)] (mW G h0 a (upd F 4 (nI sz)) B) (fun (v : Option Value) (u : Int32) => v = some (.int u) ∧ (u = (-1) ∨ j < sz ∧ u = B 1 j)) (fun u => (mW G h0 a (upd F 4 (nI sz)) B)) := by
  intro sz
  refine Met.ofW (cc := cX12_ch) (maxL := 2) (ret := (some .int)) (by decide) rfl ?_
  intro p e s m args below meth c s₁ B9 hml hv
  obtain ⟨rfl, hsz, hP, hD0, hE, hX⟩ := hv
  have hx := B9.exec
  have hb := B9.bytes
  have hr := B9.returns
  have hts := atoms_spec (ws := Cond.code yX12_ch cX12_ch 2 (some .int) :: pw) B9.pre
  have hq : ∀ w ∈ pw, w.before _ s = true := fun w h => hts w (List.mem_cons_of_mem _ h)
  have hown : s.vm.findClass RX12 = some m.cls := findClass_of_methodNamed B9.named
  have hlocks := B9.notSynchronized
  subst hsz
  have hD := hD0.self (sz := s.heap.size)
  have hA : ∀ q : Nat, s.heap.size ≤ q → va_A (mW G h0 a (upd F 4 (nI sz)) B) s.heap.size q := fun q h => Or.inr h
  have hP : va_P G.1 pCl (mW G h0 a (upd F 4 (nI sz)) B) s.heap := hP
  generalize va_A (mW G h0 a (upd F 4 (nI sz)) B) s.heap.size = A at hD hE hA ⊢
  have hS : va_S A s.heap s.heap [] := va_S.rf
  have hl := lv_entry ([.ref h0, .int (nI j)]) (n := 2) (Nat.le_of_ble_eq_true rfl)
  rw [lg_entry_eq]
  generalize (lg_sl ([.ref h0, .int (nI j)]) ++ List.replicate (2 - (lg_sl ([.ref h0, .int (nI j)])).length) Slot.unset).toArray = ls at hl ⊢
  have hl : lv_has ls 2 [(0, .ref h0), (1, .int (nI j))] := hl
  refine lv_iload_n hx hb dX12_ch_0 rfl (lv_at hl 1 rfl) ?_
  refine lv_aload_n hx hb dX12_ch_1 rfl (lv_at hl 0 rfl) ?_
  refine r_get (v := .int (nI sz)) hx hb hown hq hE hP 4 258 tFX12_4 (by decide) pw_1519 rfl dX12_ch_2 ?_
  refine lv_icmp_ge (tgt := 17) hx hb dX12_ch_5 (by decide) (fun c1 => ?_) (fun c1 => ?_)
  · have n2 : sz ≤ j := (nI_leI (a := sz) (b := j) (by omega) (by omega)).mp c1
    refine lv_iconst (v := (-1)) hx hb dX12_ch_17 (by decide) ?_
    have hz3 : ((-1) : Int32) = (-1) ∨ j < sz ∧ ((-1) : Int32) = B 1 j := (Or.inl rfl)
    have hP : va_P G.1 pCl (mW G h0 a (upd F 4 (nI sz)) B) _ := hP
    have hD : va_D A (mW G h0 a (upd F 4 (nI sz)) B) := mW_D hD
    exact W.iret (v := (-1)) hx hb hr (fun t9 ht9 hW9 => ⟨⟨_, ((-1) : Int32), rfl, ⟨rfl, hz3⟩, by rw [ht9]; exact hP, hD⟩, hS.F ht9⟩) hS.2.2 dX12_ch_18
  · have n4 : ¬ (sz ≤ j) := fun h9 => c1 ((nI_leI (a := sz) (b := j) (by omega) (by omega)).mpr h9)
    refine lv_aload_n hx hb dX12_ch_8 rfl (lv_at hl 0 rfl) ?_
    refine r_get (v := .ref (a 1)) hx hb hown hq hE hP 3 13 tFX12_3 (by decide) pw_1431 rfl dX12_ch_9 ?_
    refine lv_iload_n hx hb dX12_ch_12 rfl (lv_at hl 1 rfl) ?_
    refine r_ldi (f := (B 1)) (j := j) hx hb hE hP 1 (ma_1 G a _) rfl (by omega) (by decide) dX12_ch_13 ?_
    refine lv_topi (fun x5 e6 => ?_)
    refine lv_goto (tgt := 18) hx hb dX12_ch_14 (by decide) ?_
    have hz7 : x5 = (-1) ∨ j < sz ∧ x5 = B 1 j := (Or.inr ⟨by omega, e6⟩)
    have hP : va_P G.1 pCl (mW G h0 a (upd F 4 (nI sz)) B) _ := hP
    have hD : va_D A (mW G h0 a (upd F 4 (nI sz)) B) := mW_D hD
    exact W.iret (v := x5) hx hb hr (fun t9 ht9 hW9 => ⟨⟨_, x5, rfl, ⟨rfl, hz7⟩, by rw [ht9]; exact hP, hD⟩, hS.F ht9⟩) hS.2.2 dX12_ch_18
theorem dX12_feed_0 : decode cX12_feed 0 = .ok (.aload_n 0, 1) := by decide +kernel
theorem dX12_feed_1 : decode cX12_feed 1 = .ok (.iconst 0, 1) := by decide +kernel
theorem dX12_feed_2 : decode cX12_feed 2 = .ok (.putfield 252, 3) := by decide +kernel
theorem dX12_feed_5 : decode cX12_feed 5 = .ok (.aload_n 0, 1) := by decide +kernel
theorem dX12_feed_6 : decode cX12_feed 6 = .ok (.getfield 255, 3) := by decide +kernel
theorem dX12_feed_9 : decode cX12_feed 9 = .ok (.bipush 20, 2) := by decide +kernel
theorem dX12_feed_11 : decode cX12_feed 11 = .ok (.iadd, 1) := by decide +kernel
theorem dX12_feed_12 : decode cX12_feed 12 = .ok (.sipush 5000, 3) := by decide +kernel
theorem dX12_feed_15 : decode cX12_feed 15 = .ok (.if_icmp .le 5, 3) := by decide +kernel
theorem dX12_feed_20 : decode cX12_feed 20 = .ok (.iconst 0, 1) := by decide +kernel
theorem dX12_feed_21 : decode cX12_feed 21 = .ok (.istore 6, 2) := by decide +kernel
theorem dX12_feed_23 : decode cX12_feed 23 = .ok (.iload 6, 2) := by decide +kernel
theorem dX12_feed_25 : decode cX12_feed 25 = .ok (.bipush 20, 2) := by decide +kernel
theorem dX12_feed_27 : decode cX12_feed 27 = .ok (.if_icmp .ge 93, 3) := by decide +kernel
theorem dX12_feed_120 : decode cX12_feed 120 = .ok (.aload_n 0, 1) := by decide +kernel
theorem dX12_feed_121 : decode cX12_feed 121 = .ok (.getfield 255, 3) := by decide +kernel
theorem dX12_feed_124 : decode cX12_feed 124 = .ok (.ireturn, 1) := by decide +kernel
theorem dX12_feed_30 : decode cX12_feed 30 = .ok (.iload 6, 2) := by decide +kernel
theorem dX12_feed_32 : decode cX12_feed 32 = .ok (.iconst 4, 1) := by decide +kernel
theorem dX12_feed_33 : decode cX12_feed 33 = .ok (.if_icmp .ge 7, 3) := by decide +kernel
theorem dX12_feed_40 : decode cX12_feed 40 = .ok (.iload 6, 2) := by decide +kernel
theorem dX12_feed_42 : decode cX12_feed 42 = .ok (.bipush 8, 2) := by decide +kernel
theorem dX12_feed_44 : decode cX12_feed 44 = .ok (.if_icmp .ge 7, 3) := by decide +kernel
theorem dX12_feed_51 : decode cX12_feed 51 = .ok (.iload 6, 2) := by decide +kernel
theorem dX12_feed_53 : decode cX12_feed 53 = .ok (.bipush 12, 2) := by decide +kernel
theorem dX12_feed_55 : decode cX12_feed 55 = .ok (.if_icmp .ge 7, 3) := by decide +kernel
theorem dX12_feed_62 : decode cX12_feed 62 = .ok (.iload 6, 2) := by decide +kernel
theorem dX12_feed_64 : decode cX12_feed 64 = .ok (.bipush 16, 2) := by decide +kernel
theorem dX12_feed_66 : decode cX12_feed 66 = .ok (.if_icmp .ge 8, 3) := by decide +kernel
theorem dX12_feed_74 : decode cX12_feed 74 = .ok (.iload 5, 2) := by decide +kernel
theorem dX12_feed_76 : decode cX12_feed 76 = .ok (.istore 7, 2) := by decide +kernel
theorem dX12_feed_78 : decode cX12_feed 78 = .ok (.aload_n 0, 1) := by decide +kernel
theorem dX12_feed_79 : decode cX12_feed 79 = .ok (.getfield 7, 3) := by decide +kernel
theorem dX12_feed_82 : decode cX12_feed 82 = .ok (.aload_n 0, 1) := by decide +kernel
theorem dX12_feed_83 : decode cX12_feed 83 = .ok (.getfield 255, 3) := by decide +kernel
theorem dX12_feed_86 : decode cX12_feed 86 = .ok (.iload 7, 2) := by decide +kernel
theorem dX12_feed_88 : decode cX12_feed 88 = .ok (.bipush 24, 2) := by decide +kernel
theorem dX12_feed_90 : decode cX12_feed 90 = .ok (.bipush 8, 2) := by decide +kernel
theorem dX12_feed_92 : decode cX12_feed 92 = .ok (.iload 6, 2) := by decide +kernel
theorem dX12_feed_94 : decode cX12_feed 94 = .ok (.iconst 4, 1) := by decide +kernel
theorem dX12_feed_95 : decode cX12_feed 95 = .ok (.irem, 1) := by decide +kernel
theorem dX12_feed_96 : decode cX12_feed 96 = .ok (.imul, 1) := by decide +kernel
theorem dX12_feed_97 : decode cX12_feed 97 = .ok (.isub, 1) := by decide +kernel
theorem dX12_feed_98 : decode cX12_feed 98 = .ok (.ishr, 1) := by decide +kernel
theorem dX12_feed_99 : decode cX12_feed 99 = .ok (.sipush 255, 3) := by decide +kernel
theorem dX12_feed_102 : decode cX12_feed 102 = .ok (.iand, 1) := by decide +kernel
theorem dX12_feed_103 : decode cX12_feed 103 = .ok (.iastore, 1) := by decide +kernel
theorem dX12_feed_104 : decode cX12_feed 104 = .ok (.aload_n 0, 1) := by decide +kernel
theorem dX12_feed_105 : decode cX12_feed 105 = .ok (.dup, 1) := by decide +kernel
theorem dX12_feed_106 : decode cX12_feed 106 = .ok (.getfield 255, 3) := by decide +kernel
theorem dX12_feed_109 : decode cX12_feed 109 = .ok (.iconst 1, 1) := by decide +kernel
theorem dX12_feed_110 : decode cX12_feed 110 = .ok (.iadd, 1) := by decide +kernel
theorem dX12_feed_111 : decode cX12_feed 111 = .ok (.putfield 255, 3) := by decide +kernel
theorem dX12_feed_114 : decode cX12_feed 114 = .ok (.iinc 6 1, 3) := by decide +kernel
theorem dX12_feed_117 : decode cX12_feed 117 = .ok (.goto (-94), 3) := by decide +kernel
theorem dX12_feed_69 : decode cX12_feed 69 = .ok (.iload 4, 2) := by decide +kernel
theorem dX12_feed_71 : decode cX12_feed 71 = .ok (.goto 5, 3) := by decide +kernel
theorem dX12_feed_58 : decode cX12_feed 58 = .ok (.iload_n 3, 1) := by decide +kernel
theorem dX12_feed_59 : decode cX12_feed 59 = .ok (.goto 17, 3) := by decide +kernel
theorem dX12_feed_47 : decode cX12_feed 47 = .ok (.iload_n 2, 1) := by decide +kernel
theorem dX12_feed_48 : decode cX12_feed 48 = .ok (.goto 28, 3) := by decide +kernel
theorem dX12_feed_36 : decode cX12_feed 36 = .ok (.iload_n 1, 1) := by decide +kernel
theorem dX12_feed_37 : decode cX12_feed 37 = .ok (.goto 39, 3) := by decide +kernel
theorem dX12_feed_18 : decode cX12_feed 18 = .ok (.iconst (-1), 1) := by decide +kernel
theorem dX12_feed_19 : decode cX12_feed 19 = .ok (.ireturn, 1) := by decide +kernel
set_option maxHeartbeats 2000000 in
set_option maxRecDepth 100000 in
/-- feed -/
theorem R_feed (l : Launch) (G : pT) (h0 : Nat) (a : Nat → Nat) (F : Nat → Int32) (B : Nat → Nat → Int32) (x1 : Int32) (x2 : Int32) (x3 : Int32) (x4 : Int32) (x5 : Int32) (t : Nat) (ht : t ≤ 5000) (hT : ∀ j : Nat, j < t → tOk (B 0 j)) : PM l G pX0 yX12_feed cX12_feed 8 (some .int) ({ frames := 2, cells := 0, slots := 0, locals := 60 }) [.ref h0, .int x1, .int x2, .int x3, .int x4, .int x5] (mW G h0 a (upd F 2 (nI t)) B) (fun (v : Option Value) (u : Nat × (Nat → Int32)) => v = some (.int (fdR t)) ∧ (u.1 ≤ 5000) ∧ (nI u.1 = fdT t) ∧ (∀ j : Nat, j < u.1 → tOk (u.2 j))) (fun u => (mW G h0 a (upd (upd F 0 0) 2 (nI u.1)) (updA B 0 u.2))) := by
  intro sz
  refine Met.ofW (cc := cX12_feed) (maxL := 8) (ret := (some .int)) (by decide) rfl ?_
  intro p e s m args below meth c s₁ B9 hml hv
  obtain ⟨rfl, hsz, hP, hD0, hE, hX⟩ := hv
  have hx := B9.exec
  have hb := B9.bytes
  have hr := B9.returns
  have hts := atoms_spec (ws := Cond.code yX12_feed cX12_feed 8 (some .int) :: pw) B9.pre
  have hq : ∀ w ∈ pw, w.before _ s = true := fun w h => hts w (List.mem_cons_of_mem _ h)
  have hown : s.vm.findClass RX12 = some m.cls := findClass_of_methodNamed B9.named
  have hlocks := B9.notSynchronized
  subst hsz
  have hD := hD0.self (sz := s.heap.size)
  have hA : ∀ q : Nat, s.heap.size ≤ q → va_A (mW G h0 a (upd F 2 (nI t)) B) s.heap.size q := fun q h => Or.inr h
  have hP : va_P G.1 pCl (mW G h0 a (upd F 2 (nI t)) B) s.heap := hP
  generalize va_A (mW G h0 a (upd F 2 (nI t)) B) s.heap.size = A at hD hE hA ⊢
  have hS : va_S A s.heap s.heap [] := va_S.rf
  have hl := lv_entry ([.ref h0, .int x1, .int x2, .int x3, .int x4, .int x5]) (n := 8) (Nat.le_of_ble_eq_true rfl)
  rw [lg_entry_eq]
  generalize (lg_sl ([.ref h0, .int x1, .int x2, .int x3, .int x4, .int x5]) ++ List.replicate (8 - (lg_sl ([.ref h0, .int x1, .int x2, .int x3, .int x4, .int x5])).length) Slot.unset).toArray = ls at hl ⊢
  have hl : lv_has ls 8 [(0, .ref h0), (1, .int x1), (2, .int x2), (3, .int x3), (4, .int x4), (5, .int x5)] := hl
  refine lv_aload_n hx hb dX12_feed_0 rfl (lv_at hl 0 rfl) ?_
  refine lv_iconst (v := 0) hx hb dX12_feed_1 (by decide) ?_
  refine r_put (v := 0) (ty := .int) hx hb hown hq hE hP hD hS 0 252 tFX12_0 (by decide) pw_1515 (by decide) rfl rfl (ms_0 a _ _) dX12_feed_2 (fun H locs hP hD hS => ?_)
  refine lv_aload_n hx hb dX12_feed_5 rfl (lv_at hl 0 rfl) ?_
  refine r_get (v := .int (nI t)) hx hb hown hq hE hP 2 255 tFX12_2 (by decide) pw_1516 rfl dX12_feed_6 ?_
  refine lv_bipush (v := 20) hx hb dX12_feed_9 (by decide) ?_
  refine lv_iadd hx hb dX12_feed_11 ?_
  refine lv_topi (fun x6 e7 => ?_)
  obtain rfl : x6 = nI (t + 20) := e7.trans (nI_add (t) (20))
  refine lv_sipush (v := 5000) hx hb dX12_feed_12 (by decide) ?_
  refine lv_icmp_le (tgt := 20) hx hb dX12_feed_15 (by decide) (fun c8 => ?_) (fun c8 => ?_)
  · have n9 : (t + 20) ≤ 5000 := (nI_leI (a := (t + 20)) (b := 5000) (by omega) (by omega)).mp c8
    refine lv_iconst (v := 0) hx hb dX12_feed_20 (by decide) ?_
    refine lv_istore (lv' := [(6, .int 0), (0, .ref h0), (1, .int x1), (2, .int x2), (3, .int x3), (4, .int x4), (5, .int x5)]) hx hb dX12_feed_21 hl (by decide) rfl (fun ls hl => ?_)
    have loop_f : ∀ (n_f : Nat) (k : Nat) (g0 : Nat → Int32) (H : Heap) (locs : List Loc) (ls : Array Slot), k ≤ 20 → 20 + 1 ≤ k + n_f → (∀ j : Nat, j < t + k → tOk (g0 j)) → va_P G.1 pCl (mW G h0 a (upd (upd F 0 0) 2 (nI (t + k))) (updA B 0 g0)) H → va_D A (mW G h0 a (upd (upd F 0 0) 2 (nI (t + k))) (updA B 0 g0)) → va_S A s.heap H locs → lv_has ls 8 [(6, .int (nI k)), (0, .ref h0), (1, .int x1), (2, .int x2), (3, .int x3), (4, .int x4), (5, .int x5)] → W p l e (headSpec (Cond.code yX12_feed cX12_feed 8 (some .int) :: pw) ({ frames := 2, cells := 0, slots := 0, locals := 60 } : Room)).room s m ([.ref h0, .int x1, .int x2, .int x3, .int x4, .int x5] : List Value).toArray below meth c H locs 0 0 (MQ below (pQ G A (fun (v : Option Value) (u : Nat × (Nat → Int32)) => v = some (.int (fdR t)) ∧ (u.1 ≤ 5000) ∧ (nI u.1 = fdT t) ∧ (∀ j : Nat, j < u.1 → tOk (u.2 j))) (fun u => (mW G h0 a (upd (upd F 0 0) 2 (nI u.1)) (updA B 0 u.2)))) ([.ref h0, .int x1, .int x2, .int x3, .int x4, .int x5] : List Value).toArray s ({ frames := 2, cells := 0, slots := 0, locals := 60 } : Room).cells ({ frames := 2, cells := 0, slots := 0, locals := 60 } : Room).slots A) (F0 m 23 ls []) := by
      intro n_f
      induction n_f with
      | zero => intro k g0 H locs ls hk_f hn_f; omega
      | succ n_f ih_f =>
        intro k g0 H locs ls hk_f hn_f hg hP hD hS hl
        refine lv_iload hx hb dX12_feed_23 (lv_at hl 0 rfl) ?_
        refine lv_bipush (v := 20) hx hb dX12_feed_25 (by decide) ?_
        refine lv_icmp_ge (tgt := 120) hx hb dX12_feed_27 (by decide) (fun c10 => ?_) (fun c10 => ?_)
        · have n11 : 20 ≤ k := (nI_leI (a := 20) (b := k) (by omega) (by omega)).mp c10
          refine lv_aload_n hx hb dX12_feed_120 rfl (lv_at hl 1 rfl) ?_
          refine r_get (v := .int (nI (t + k))) hx hb hown hq hE hP 2 255 tFX12_2 (by decide) pw_1516 rfl dX12_feed_121 ?_
          obtain rfl : k = 20 := by omega
          have hz12 : (t + 20) ≤ 5000 := (by omega)
          have hz13 : nI (t + 20) = fdT t := (by unfold fdT; rw [if_pos (by omega)])
          have hz14 : ∀ j : Nat, j < (t + 20) → tOk (g0 j) := hg
          have hP : va_P G.1 pCl (mW G h0 a (upd (upd F 0 0) 2 (nI (t + 20))) (updA B 0 g0)) _ := hP
          have hD : va_D A (mW G h0 a (upd (upd F 0 0) 2 (nI (t + 20))) (updA B 0 g0)) := mW_D hD
          exact W.iret (v := (nI (t + 20))) hx hb hr (fun t9 ht9 hW9 => ⟨⟨_, ((t + 20), g0), rfl, ⟨(by unfold fdR; rw [if_pos (by omega)]), hz12, hz13, hz14⟩, by rw [ht9]; exact hP, hD⟩, hS.F ht9⟩) hS.2.2 dX12_feed_124
        · have n15 : ¬ (20 ≤ k) := fun h9 => c10 ((nI_leI (a := 20) (b := k) (by omega) (by omega)).mpr h9)
          refine lv_iload hx hb dX12_feed_30 (lv_at hl 0 rfl) ?_
          refine lv_iconst (v := 4) hx hb dX12_feed_32 (by decide) ?_
          refine lv_icmp_ge (tgt := 40) hx hb dX12_feed_33 (by decide) (fun c16 => ?_) (fun c16 => ?_)
          · have n17 : 4 ≤ k := (nI_leI (a := 4) (b := k) (by omega) (by omega)).mp c16
            refine lv_iload hx hb dX12_feed_40 (lv_at hl 0 rfl) ?_
            refine lv_bipush (v := 8) hx hb dX12_feed_42 (by decide) ?_
            refine lv_icmp_ge (tgt := 51) hx hb dX12_feed_44 (by decide) (fun c18 => ?_) (fun c18 => ?_)
            · have n19 : 8 ≤ k := (nI_leI (a := 8) (b := k) (by omega) (by omega)).mp c18
              refine lv_iload hx hb dX12_feed_51 (lv_at hl 0 rfl) ?_
              refine lv_bipush (v := 12) hx hb dX12_feed_53 (by decide) ?_
              refine lv_icmp_ge (tgt := 62) hx hb dX12_feed_55 (by decide) (fun c20 => ?_) (fun c20 => ?_)
              · have n21 : 12 ≤ k := (nI_leI (a := 12) (b := k) (by omega) (by omega)).mp c20
                refine lv_iload hx hb dX12_feed_62 (lv_at hl 0 rfl) ?_
                refine lv_bipush (v := 16) hx hb dX12_feed_64 (by decide) ?_
                refine lv_icmp_ge (tgt := 74) hx hb dX12_feed_66 (by decide) (fun c22 => ?_) (fun c22 => ?_)
                · have n23 : 16 ≤ k := (nI_leI (a := 16) (b := k) (by omega) (by omega)).mp c22
                  refine lv_iload hx hb dX12_feed_74 (lv_at hl 6 rfl) ?_
                  refine lv_istore (lv' := [(7, .int x5), (6, .int (nI k)), (0, .ref h0), (1, .int x1), (2, .int x2), (3, .int x3), (4, .int x4), (5, .int x5)]) hx hb dX12_feed_76 hl (by decide) rfl (fun ls hl => ?_)
                  refine lv_aload_n hx hb dX12_feed_78 rfl (lv_at hl 2 rfl) ?_
                  refine r_get (v := .ref (a 0)) hx hb hown hq hE hP 1 7 tFX12_1 (by decide) pw_1430 rfl dX12_feed_79 ?_
                  refine lv_aload_n hx hb dX12_feed_82 rfl (lv_at hl 2 rfl) ?_
                  refine r_get (v := .int (nI (t + k))) hx hb hown hq hE hP 2 255 tFX12_2 (by decide) pw_1516 rfl dX12_feed_83 ?_
                  refine lv_iload hx hb dX12_feed_86 (lv_at hl 0 rfl) ?_
                  refine lv_bipush (v := 24) hx hb dX12_feed_88 (by decide) ?_
                  refine lv_bipush (v := 8) hx hb dX12_feed_90 (by decide) ?_
                  refine lv_iload hx hb dX12_feed_92 (lv_at hl 1 rfl) ?_
                  refine lv_iconst (v := 4) hx hb dX12_feed_94 (by decide) ?_
                  refine lv_irem hx hb dX12_feed_95 (by decide) ?_
                  refine lv_topi (fun x24 e25 => ?_)
                  refine lv_imul hx hb dX12_feed_96 ?_
                  refine lv_topi (fun x26 e27 => ?_)
                  refine lv_isub hx hb dX12_feed_97 ?_
                  refine lv_topi (fun x28 e29 => ?_)
                  refine lv_ishr hx hb dX12_feed_98 ?_
                  refine lv_topi (fun x30 e31 => ?_)
                  refine lv_sipush (v := 255) hx hb dX12_feed_99 (by decide) ?_
                  refine lv_iand hx hb dX12_feed_102 ?_
                  refine lv_topi (fun x32 e33 => ?_)
                  have hb103 : tOk x32 := by rw [e33]; exact and255 _
                  refine r_sti (f := g0) (j := (t + k)) hx hb hE hP hD hS 0 (ma_0 G a _) rfl (mas_0 G a _) (by omega) (by decide) dX12_feed_103 (fun H locs hP hD hS => ?_)
                  refine lv_aload_n hx hb dX12_feed_104 rfl (lv_at hl 2 rfl) ?_
                  refine lv_dup hx hb dX12_feed_105 rfl ?_
                  refine r_get (v := .int (nI (t + k))) hx hb hown hq hE hP 2 255 tFX12_2 (by decide) pw_1516 rfl dX12_feed_106 ?_
                  refine lv_iconst (v := 1) hx hb dX12_feed_109 (by decide) ?_
                  refine lv_iadd hx hb dX12_feed_110 ?_
                  refine lv_topi (fun x34 e35 => ?_)
                  obtain rfl : x34 = nI ((t + k) + 1) := e35.trans (nI_add ((t + k)) (1))
                  refine r_put (v := (nI ((t + k) + 1))) (ty := .int) hx hb hown hq hE hP hD hS 2 255 tFX12_2 (by decide) pw_1516 (by decide) rfl rfl (ms_2 a _ _) dX12_feed_111 (fun H locs hP hD hS => ?_)
                  refine lv_iinc (v := (nI (k + 1))) (lv' := [(6, .int (nI (k + 1))), (7, .int x5), (0, .ref h0), (1, .int x1), (2, .int x2), (3, .int x3), (4, .int x4), (5, .int x5)]) hx hb dX12_feed_114 hl (k := 1) rfl (nI_1 k) (by decide) rfl (fun ls hl => ?_)
                  refine lv_goto (tgt := 23) hx hb dX12_feed_117 (by decide) ?_
                  have hP : va_P G.1 pCl (mW G h0 a (upd (upd F 0 0) 2 (nI (t + (k + 1)))) (updA B 0 (upd g0 (t + k) x32))) _ := mW_to (F := F) (l1 := [(0, 0), (2, (nI (t + k))), (2, (nI ((t + k) + 1)))]) (l2 := [(0, 0), (2, (nI (t + (k + 1))))]) (V := [0, (nI (t + (k + 1))), (nI (t + (k + 1))), 0, (nI (t + (k + 1)))]) rfl rfl (show (updA (updA B 0 g0) 0 (upd g0 (t + k) x32)) = (updA B 0 (upd g0 (t + k) x32)) from updsA_eq2 (F := B) (l1 := [(0, g0), (0, (upd g0 (t + k) x32))]) (l2 := [(0, (upd g0 (t + k) x32))]) (V := [(upd g0 (t + k) x32), (upd g0 (t + k) x32), (upd g0 (t + k) x32)]) rfl rfl) hP
                  have hD : va_D A (mW G h0 a (upd (upd F 0 0) 2 (nI (t + (k + 1)))) (updA B 0 (upd g0 (t + k) x32))) := mW_D hD
                  exact ih_f (k + 1) (upd g0 (t + k) x32) _ _ _ (by omega) (by omega) (tOk_upd hg hb103) hP hD hS (lv_sub hl [0, 2, 3, 4, 5, 6, 7] rfl)
                · have n36 : ¬ (16 ≤ k) := fun h9 => c22 ((nI_leI (a := 16) (b := k) (by omega) (by omega)).mpr h9)
                  refine lv_iload hx hb dX12_feed_69 (lv_at hl 5 rfl) ?_
                  refine lv_goto (tgt := 76) hx hb dX12_feed_71 (by decide) ?_
                  refine lv_istore (lv' := [(7, .int x4), (6, .int (nI k)), (0, .ref h0), (1, .int x1), (2, .int x2), (3, .int x3), (4, .int x4), (5, .int x5)]) hx hb dX12_feed_76 hl (by decide) rfl (fun ls hl => ?_)
                  refine lv_aload_n hx hb dX12_feed_78 rfl (lv_at hl 2 rfl) ?_
                  refine r_get (v := .ref (a 0)) hx hb hown hq hE hP 1 7 tFX12_1 (by decide) pw_1430 rfl dX12_feed_79 ?_
                  refine lv_aload_n hx hb dX12_feed_82 rfl (lv_at hl 2 rfl) ?_
                  refine r_get (v := .int (nI (t + k))) hx hb hown hq hE hP 2 255 tFX12_2 (by decide) pw_1516 rfl dX12_feed_83 ?_
                  refine lv_iload hx hb dX12_feed_86 (lv_at hl 0 rfl) ?_
                  refine lv_bipush (v := 24) hx hb dX12_feed_88 (by decide) ?_
                  refine lv_bipush (v := 8) hx hb dX12_feed_90 (by decide) ?_
                  refine lv_iload hx hb dX12_feed_92 (lv_at hl 1 rfl) ?_
                  refine lv_iconst (v := 4) hx hb dX12_feed_94 (by decide) ?_
                  refine lv_irem hx hb dX12_feed_95 (by decide) ?_
                  refine lv_topi (fun x37 e38 => ?_)
                  refine lv_imul hx hb dX12_feed_96 ?_
                  refine lv_topi (fun x39 e40 => ?_)
                  refine lv_isub hx hb dX12_feed_97 ?_
                  refine lv_topi (fun x41 e42 => ?_)
                  refine lv_ishr hx hb dX12_feed_98 ?_
                  refine lv_topi (fun x43 e44 => ?_)
                  refine lv_sipush (v := 255) hx hb dX12_feed_99 (by decide) ?_
                  refine lv_iand hx hb dX12_feed_102 ?_
                  refine lv_topi (fun x45 e46 => ?_)
                  have hb103 : tOk x45 := by rw [e46]; exact and255 _
                  refine r_sti (f := g0) (j := (t + k)) hx hb hE hP hD hS 0 (ma_0 G a _) rfl (mas_0 G a _) (by omega) (by decide) dX12_feed_103 (fun H locs hP hD hS => ?_)
                  refine lv_aload_n hx hb dX12_feed_104 rfl (lv_at hl 2 rfl) ?_
                  refine lv_dup hx hb dX12_feed_105 rfl ?_
                  refine r_get (v := .int (nI (t + k))) hx hb hown hq hE hP 2 255 tFX12_2 (by decide) pw_1516 rfl dX12_feed_106 ?_
                  refine lv_iconst (v := 1) hx hb dX12_feed_109 (by decide) ?_
                  refine lv_iadd hx hb dX12_feed_110 ?_
                  refine lv_topi (fun x47 e48 => ?_)
                  obtain rfl : x47 = nI ((t + k) + 1) := e48.trans (nI_add ((t + k)) (1))
                  refine r_put (v := (nI ((t + k) + 1))) (ty := .int) hx hb hown hq hE hP hD hS 2 255 tFX12_2 (by decide) pw_1516 (by decide) rfl rfl (ms_2 a _ _) dX12_feed_111 (fun H locs hP hD hS => ?_)
                  refine lv_iinc (v := (nI (k + 1))) (lv' := [(6, .int (nI (k + 1))), (7, .int x4), (0, .ref h0), (1, .int x1), (2, .int x2), (3, .int x3), (4, .int x4), (5, .int x5)]) hx hb dX12_feed_114 hl (k := 1) rfl (nI_1 k) (by decide) rfl (fun ls hl => ?_)
                  refine lv_goto (tgt := 23) hx hb dX12_feed_117 (by decide) ?_
                  have hP : va_P G.1 pCl (mW G h0 a (upd (upd F 0 0) 2 (nI (t + (k + 1)))) (updA B 0 (upd g0 (t + k) x45))) _ := mW_to (F := F) (l1 := [(0, 0), (2, (nI (t + k))), (2, (nI ((t + k) + 1)))]) (l2 := [(0, 0), (2, (nI (t + (k + 1))))]) (V := [0, (nI (t + (k + 1))), (nI (t + (k + 1))), 0, (nI (t + (k + 1)))]) rfl rfl (show (updA (updA B 0 g0) 0 (upd g0 (t + k) x45)) = (updA B 0 (upd g0 (t + k) x45)) from updsA_eq2 (F := B) (l1 := [(0, g0), (0, (upd g0 (t + k) x45))]) (l2 := [(0, (upd g0 (t + k) x45))]) (V := [(upd g0 (t + k) x45), (upd g0 (t + k) x45), (upd g0 (t + k) x45)]) rfl rfl) hP
                  have hD : va_D A (mW G h0 a (upd (upd F 0 0) 2 (nI (t + (k + 1)))) (updA B 0 (upd g0 (t + k) x45))) := mW_D hD
                  exact ih_f (k + 1) (upd g0 (t + k) x45) _ _ _ (by omega) (by omega) (tOk_upd hg hb103) hP hD hS (lv_sub hl [0, 2, 3, 4, 5, 6, 7] rfl)
              · have n49 : ¬ (12 ≤ k) := fun h9 => c20 ((nI_leI (a := 12) (b := k) (by omega) (by omega)).mpr h9)
                refine lv_iload_n hx hb dX12_feed_58 rfl (lv_at hl 4 rfl) ?_
                refine lv_goto (tgt := 76) hx hb dX12_feed_59 (by decide) ?_
                refine lv_istore (lv' := [(7, .int x3), (6, .int (nI k)), (0, .ref h0), (1, .int x1), (2, .int x2), (3, .int x3), (4, .int x4), (5, .int x5)]) hx hb dX12_feed_76 hl (by decide) rfl (fun ls hl => ?_)
                refine lv_aload_n hx hb dX12_feed_78 rfl (lv_at hl 2 rfl) ?_
                refine r_get (v := .ref (a 0)) hx hb hown hq hE hP 1 7 tFX12_1 (by decide) pw_1430 rfl dX12_feed_79 ?_
                refine lv_aload_n hx hb dX12_feed_82 rfl (lv_at hl 2 rfl) ?_
                refine r_get (v := .int (nI (t + k))) hx hb hown hq hE hP 2 255 tFX12_2 (by decide) pw_1516 rfl dX12_feed_83 ?_
                refine lv_iload hx hb dX12_feed_86 (lv_at hl 0 rfl) ?_
                refine lv_bipush (v := 24) hx hb dX12_feed_88 (by decide) ?_
                refine lv_bipush (v := 8) hx hb dX12_feed_90 (by decide) ?_
                refine lv_iload hx hb dX12_feed_92 (lv_at hl 1 rfl) ?_
                refine lv_iconst (v := 4) hx hb dX12_feed_94 (by decide) ?_
                refine lv_irem hx hb dX12_feed_95 (by decide) ?_
                refine lv_topi (fun x50 e51 => ?_)
                refine lv_imul hx hb dX12_feed_96 ?_
                refine lv_topi (fun x52 e53 => ?_)
                refine lv_isub hx hb dX12_feed_97 ?_
                refine lv_topi (fun x54 e55 => ?_)
                refine lv_ishr hx hb dX12_feed_98 ?_
                refine lv_topi (fun x56 e57 => ?_)
                refine lv_sipush (v := 255) hx hb dX12_feed_99 (by decide) ?_
                refine lv_iand hx hb dX12_feed_102 ?_
                refine lv_topi (fun x58 e59 => ?_)
                have hb103 : tOk x58 := by rw [e59]; exact and255 _
                refine r_sti (f := g0) (j := (t + k)) hx hb hE hP hD hS 0 (ma_0 G a _) rfl (mas_0 G a _) (by omega) (by decide) dX12_feed_103 (fun H locs hP hD hS => ?_)
                refine lv_aload_n hx hb dX12_feed_104 rfl (lv_at hl 2 rfl) ?_
                refine lv_dup hx hb dX12_feed_105 rfl ?_
                refine r_get (v := .int (nI (t + k))) hx hb hown hq hE hP 2 255 tFX12_2 (by decide) pw_1516 rfl dX12_feed_106 ?_
                refine lv_iconst (v := 1) hx hb dX12_feed_109 (by decide) ?_
                refine lv_iadd hx hb dX12_feed_110 ?_
                refine lv_topi (fun x60 e61 => ?_)
                obtain rfl : x60 = nI ((t + k) + 1) := e61.trans (nI_add ((t + k)) (1))
                refine r_put (v := (nI ((t + k) + 1))) (ty := .int) hx hb hown hq hE hP hD hS 2 255 tFX12_2 (by decide) pw_1516 (by decide) rfl rfl (ms_2 a _ _) dX12_feed_111 (fun H locs hP hD hS => ?_)
                refine lv_iinc (v := (nI (k + 1))) (lv' := [(6, .int (nI (k + 1))), (7, .int x3), (0, .ref h0), (1, .int x1), (2, .int x2), (3, .int x3), (4, .int x4), (5, .int x5)]) hx hb dX12_feed_114 hl (k := 1) rfl (nI_1 k) (by decide) rfl (fun ls hl => ?_)
                refine lv_goto (tgt := 23) hx hb dX12_feed_117 (by decide) ?_
                have hP : va_P G.1 pCl (mW G h0 a (upd (upd F 0 0) 2 (nI (t + (k + 1)))) (updA B 0 (upd g0 (t + k) x58))) _ := mW_to (F := F) (l1 := [(0, 0), (2, (nI (t + k))), (2, (nI ((t + k) + 1)))]) (l2 := [(0, 0), (2, (nI (t + (k + 1))))]) (V := [0, (nI (t + (k + 1))), (nI (t + (k + 1))), 0, (nI (t + (k + 1)))]) rfl rfl (show (updA (updA B 0 g0) 0 (upd g0 (t + k) x58)) = (updA B 0 (upd g0 (t + k) x58)) from updsA_eq2 (F := B) (l1 := [(0, g0), (0, (upd g0 (t + k) x58))]) (l2 := [(0, (upd g0 (t + k) x58))]) (V := [(upd g0 (t + k) x58), (upd g0 (t + k) x58), (upd g0 (t + k) x58)]) rfl rfl) hP
                have hD : va_D A (mW G h0 a (upd (upd F 0 0) 2 (nI (t + (k + 1)))) (updA B 0 (upd g0 (t + k) x58))) := mW_D hD
                exact ih_f (k + 1) (upd g0 (t + k) x58) _ _ _ (by omega) (by omega) (tOk_upd hg hb103) hP hD hS (lv_sub hl [0, 2, 3, 4, 5, 6, 7] rfl)
            · have n62 : ¬ (8 ≤ k) := fun h9 => c18 ((nI_leI (a := 8) (b := k) (by omega) (by omega)).mpr h9)
              refine lv_iload_n hx hb dX12_feed_47 rfl (lv_at hl 3 rfl) ?_
              refine lv_goto (tgt := 76) hx hb dX12_feed_48 (by decide) ?_
              refine lv_istore (lv' := [(7, .int x2), (6, .int (nI k)), (0, .ref h0), (1, .int x1), (2, .int x2), (3, .int x3), (4, .int x4), (5, .int x5)]) hx hb dX12_feed_76 hl (by decide) rfl (fun ls hl => ?_)
              refine lv_aload_n hx hb dX12_feed_78 rfl (lv_at hl 2 rfl) ?_
              refine r_get (v := .ref (a 0)) hx hb hown hq hE hP 1 7 tFX12_1 (by decide) pw_1430 rfl dX12_feed_79 ?_
              refine lv_aload_n hx hb dX12_feed_82 rfl (lv_at hl 2 rfl) ?_
              refine r_get (v := .int (nI (t + k))) hx hb hown hq hE hP 2 255 tFX12_2 (by decide) pw_1516 rfl dX12_feed_83 ?_
              refine lv_iload hx hb dX12_feed_86 (lv_at hl 0 rfl) ?_
              refine lv_bipush (v := 24) hx hb dX12_feed_88 (by decide) ?_
              refine lv_bipush (v := 8) hx hb dX12_feed_90 (by decide) ?_
              refine lv_iload hx hb dX12_feed_92 (lv_at hl 1 rfl) ?_
              refine lv_iconst (v := 4) hx hb dX12_feed_94 (by decide) ?_
              refine lv_irem hx hb dX12_feed_95 (by decide) ?_
              refine lv_topi (fun x63 e64 => ?_)
              refine lv_imul hx hb dX12_feed_96 ?_
              refine lv_topi (fun x65 e66 => ?_)
              refine lv_isub hx hb dX12_feed_97 ?_
              refine lv_topi (fun x67 e68 => ?_)
              refine lv_ishr hx hb dX12_feed_98 ?_
              refine lv_topi (fun x69 e70 => ?_)
              refine lv_sipush (v := 255) hx hb dX12_feed_99 (by decide) ?_
              refine lv_iand hx hb dX12_feed_102 ?_
              refine lv_topi (fun x71 e72 => ?_)
              have hb103 : tOk x71 := by rw [e72]; exact and255 _
              refine r_sti (f := g0) (j := (t + k)) hx hb hE hP hD hS 0 (ma_0 G a _) rfl (mas_0 G a _) (by omega) (by decide) dX12_feed_103 (fun H locs hP hD hS => ?_)
              refine lv_aload_n hx hb dX12_feed_104 rfl (lv_at hl 2 rfl) ?_
              refine lv_dup hx hb dX12_feed_105 rfl ?_
              refine r_get (v := .int (nI (t + k))) hx hb hown hq hE hP 2 255 tFX12_2 (by decide) pw_1516 rfl dX12_feed_106 ?_
              refine lv_iconst (v := 1) hx hb dX12_feed_109 (by decide) ?_
              refine lv_iadd hx hb dX12_feed_110 ?_
              refine lv_topi (fun x73 e74 => ?_)
              obtain rfl : x73 = nI ((t + k) + 1) := e74.trans (nI_add ((t + k)) (1))
              refine r_put (v := (nI ((t + k) + 1))) (ty := .int) hx hb hown hq hE hP hD hS 2 255 tFX12_2 (by decide) pw_1516 (by decide) rfl rfl (ms_2 a _ _) dX12_feed_111 (fun H locs hP hD hS => ?_)
              refine lv_iinc (v := (nI (k + 1))) (lv' := [(6, .int (nI (k + 1))), (7, .int x2), (0, .ref h0), (1, .int x1), (2, .int x2), (3, .int x3), (4, .int x4), (5, .int x5)]) hx hb dX12_feed_114 hl (k := 1) rfl (nI_1 k) (by decide) rfl (fun ls hl => ?_)
              refine lv_goto (tgt := 23) hx hb dX12_feed_117 (by decide) ?_
              have hP : va_P G.1 pCl (mW G h0 a (upd (upd F 0 0) 2 (nI (t + (k + 1)))) (updA B 0 (upd g0 (t + k) x71))) _ := mW_to (F := F) (l1 := [(0, 0), (2, (nI (t + k))), (2, (nI ((t + k) + 1)))]) (l2 := [(0, 0), (2, (nI (t + (k + 1))))]) (V := [0, (nI (t + (k + 1))), (nI (t + (k + 1))), 0, (nI (t + (k + 1)))]) rfl rfl (show (updA (updA B 0 g0) 0 (upd g0 (t + k) x71)) = (updA B 0 (upd g0 (t + k) x71)) from updsA_eq2 (F := B) (l1 := [(0, g0), (0, (upd g0 (t + k) x71))]) (l2 := [(0, (upd g0 (t + k) x71))]) (V := [(upd g0 (t + k) x71), (upd g0 (t + k) x71), (upd g0 (t + k) x71)]) rfl rfl) hP
              have hD : va_D A (mW G h0 a (upd (upd F 0 0) 2 (nI (t + (k + 1)))) (updA B 0 (upd g0 (t + k) x71))) := mW_D hD
              exact ih_f (k + 1) (upd g0 (t + k) x71) _ _ _ (by omega) (by omega) (tOk_upd hg hb103) hP hD hS (lv_sub hl [0, 2, 3, 4, 5, 6, 7] rfl)
          · have n75 : ¬ (4 ≤ k) := fun h9 => c16 ((nI_leI (a := 4) (b := k) (by omega) (by omega)).mpr h9)
            refine lv_iload_n hx hb dX12_feed_36 rfl (lv_at hl 2 rfl) ?_
            refine lv_goto (tgt := 76) hx hb dX12_feed_37 (by decide) ?_
            refine lv_istore (lv' := [(7, .int x1), (6, .int (nI k)), (0, .ref h0), (1, .int x1), (2, .int x2), (3, .int x3), (4, .int x4), (5, .int x5)]) hx hb dX12_feed_76 hl (by decide) rfl (fun ls hl => ?_)
            refine lv_aload_n hx hb dX12_feed_78 rfl (lv_at hl 2 rfl) ?_
            refine r_get (v := .ref (a 0)) hx hb hown hq hE hP 1 7 tFX12_1 (by decide) pw_1430 rfl dX12_feed_79 ?_
            refine lv_aload_n hx hb dX12_feed_82 rfl (lv_at hl 2 rfl) ?_
            refine r_get (v := .int (nI (t + k))) hx hb hown hq hE hP 2 255 tFX12_2 (by decide) pw_1516 rfl dX12_feed_83 ?_
            refine lv_iload hx hb dX12_feed_86 (lv_at hl 0 rfl) ?_
            refine lv_bipush (v := 24) hx hb dX12_feed_88 (by decide) ?_
            refine lv_bipush (v := 8) hx hb dX12_feed_90 (by decide) ?_
            refine lv_iload hx hb dX12_feed_92 (lv_at hl 1 rfl) ?_
            refine lv_iconst (v := 4) hx hb dX12_feed_94 (by decide) ?_
            refine lv_irem hx hb dX12_feed_95 (by decide) ?_
            refine lv_topi (fun x76 e77 => ?_)
            refine lv_imul hx hb dX12_feed_96 ?_
            refine lv_topi (fun x78 e79 => ?_)
            refine lv_isub hx hb dX12_feed_97 ?_
            refine lv_topi (fun x80 e81 => ?_)
            refine lv_ishr hx hb dX12_feed_98 ?_
            refine lv_topi (fun x82 e83 => ?_)
            refine lv_sipush (v := 255) hx hb dX12_feed_99 (by decide) ?_
            refine lv_iand hx hb dX12_feed_102 ?_
            refine lv_topi (fun x84 e85 => ?_)
            have hb103 : tOk x84 := by rw [e85]; exact and255 _
            refine r_sti (f := g0) (j := (t + k)) hx hb hE hP hD hS 0 (ma_0 G a _) rfl (mas_0 G a _) (by omega) (by decide) dX12_feed_103 (fun H locs hP hD hS => ?_)
            refine lv_aload_n hx hb dX12_feed_104 rfl (lv_at hl 2 rfl) ?_
            refine lv_dup hx hb dX12_feed_105 rfl ?_
            refine r_get (v := .int (nI (t + k))) hx hb hown hq hE hP 2 255 tFX12_2 (by decide) pw_1516 rfl dX12_feed_106 ?_
            refine lv_iconst (v := 1) hx hb dX12_feed_109 (by decide) ?_
            refine lv_iadd hx hb dX12_feed_110 ?_
            refine lv_topi (fun x86 e87 => ?_)
            obtain rfl : x86 = nI ((t + k) + 1) := e87.trans (nI_add ((t + k)) (1))
            refine r_put (v := (nI ((t + k) + 1))) (ty := .int) hx hb hown hq hE hP hD hS 2 255 tFX12_2 (by decide) pw_1516 (by decide) rfl rfl (ms_2 a _ _) dX12_feed_111 (fun H locs hP hD hS => ?_)
            refine lv_iinc (v := (nI (k + 1))) (lv' := [(6, .int (nI (k + 1))), (7, .int x1), (0, .ref h0), (1, .int x1), (2, .int x2), (3, .int x3), (4, .int x4), (5, .int x5)]) hx hb dX12_feed_114 hl (k := 1) rfl (nI_1 k) (by decide) rfl (fun ls hl => ?_)
            refine lv_goto (tgt := 23) hx hb dX12_feed_117 (by decide) ?_
            have hP : va_P G.1 pCl (mW G h0 a (upd (upd F 0 0) 2 (nI (t + (k + 1)))) (updA B 0 (upd g0 (t + k) x84))) _ := mW_to (F := F) (l1 := [(0, 0), (2, (nI (t + k))), (2, (nI ((t + k) + 1)))]) (l2 := [(0, 0), (2, (nI (t + (k + 1))))]) (V := [0, (nI (t + (k + 1))), (nI (t + (k + 1))), 0, (nI (t + (k + 1)))]) rfl rfl (show (updA (updA B 0 g0) 0 (upd g0 (t + k) x84)) = (updA B 0 (upd g0 (t + k) x84)) from updsA_eq2 (F := B) (l1 := [(0, g0), (0, (upd g0 (t + k) x84))]) (l2 := [(0, (upd g0 (t + k) x84))]) (V := [(upd g0 (t + k) x84), (upd g0 (t + k) x84), (upd g0 (t + k) x84)]) rfl rfl) hP
            have hD : va_D A (mW G h0 a (upd (upd F 0 0) 2 (nI (t + (k + 1)))) (updA B 0 (upd g0 (t + k) x84))) := mW_D hD
            exact ih_f (k + 1) (upd g0 (t + k) x84) _ _ _ (by omega) (by omega) (tOk_upd hg hb103) hP hD hS (lv_sub hl [0, 2, 3, 4, 5, 6, 7] rfl)
    have hP : va_P G.1 pCl (mW G h0 a (upd (upd F 0 0) 2 (nI (t + 0))) (updA B 0 (B 0))) _ := mW_to (F := F) (l1 := [(2, (nI t)), (0, 0)]) (l2 := [(0, 0), (2, (nI (t + 0)))]) (V := [(nI (t + 0)), 0, 0, (nI (t + 0))]) rfl rfl (show B = (updA B 0 (B 0)) from updsA_eq2 (F := B) (l1 := []) (l2 := [(0, (B 0))]) (V := [(B 0)]) rfl rfl) hP
    have hD : va_D A (mW G h0 a (upd (upd F 0 0) 2 (nI (t + 0))) (updA B 0 (B 0))) := mW_D hD
    exact loop_f (20 + 1) 0 (B 0) _ _ _ (by omega) (by omega) hT hP hD hS (lv_sub hl [0, 1, 2, 3, 4, 5, 6] rfl)
  · have n88 : ¬ ((t + 20) ≤ 5000) := fun h9 => c8 ((nI_leI (a := (t + 20)) (b := 5000) (by omega) (by omega)).mpr h9)
    refine lv_iconst (v := (-1)) hx hb dX12_feed_18 (by decide) ?_
    have hz89 : t ≤ 5000 := ht
    have hz90 : nI t = fdT t := (by unfold fdT; rw [if_neg (by omega)])
    have hz91 : ∀ j : Nat, j < t → tOk ((B 0) j) := hT
    have hP : va_P G.1 pCl (mW G h0 a (upd (upd F 0 0) 2 (nI t)) (updA B 0 (B 0))) _ := mW_to (F := F) (l1 := [(2, (nI t)), (0, 0)]) (l2 := [(0, 0), (2, (nI t))]) (V := [(nI t), 0, 0, (nI t)]) rfl rfl (show B = (updA B 0 (B 0)) from updsA_eq2 (F := B) (l1 := []) (l2 := [(0, (B 0))]) (V := [(B 0)]) rfl rfl) hP
    have hD : va_D A (mW G h0 a (upd (upd F 0 0) 2 (nI t)) (updA B 0 (B 0))) := mW_D hD
    exact W.iret (v := (-1)) hx hb hr (fun t9 ht9 hW9 => ⟨⟨_, (t, (B 0)), rfl, ⟨(by unfold fdR; rw [if_neg (by omega)]), hz89, hz90, hz91⟩, by rw [ht9]; exact hP, hD⟩, hS.F ht9⟩) hS.2.2 dX12_feed_19
