/-- the table of chosen methods -/
def ChO (X : Nat → Nat → Int32) (co : Nat → Int32) (dc md nm : Nat) : Prop := ∀ q k : Nat, q < nm → k < dc → co (40 * q + k) = -2 ∨ co (40 * q + k) = mthF (X 36) (X 37) (X 29) md (nI q) 40 k
theorem ChO.up {X : Nat → Nat → Int32} {co : Nat → Int32} {dc md nm q k : Nat} (h : ChO X co dc md nm) (hd : dc ≤ 37) (hk : k < dc) : ChO X (upd co (40 * q + k) (mthF (X 36) (X 37) (X 29) md (nI q) 40 k)) dc md nm := fun q2 k2 h1 h2 => by
  unfold upd
  by_cases e : 40 * q2 + k2 = 40 * q + k
  · have e1 : q2 = q := by omega
    have e2 : k2 = k := by omega
    rw [if_pos e, e1, e2]; exact Or.inr rfl
  · rw [if_neg e]; exact h q2 k2 h1 h2
/-- how many are seen -/
def cntS (sn : Nat → Int32) : Nat → Nat
  | 0 => 0
  | n + 1 => cntS sn n + (if sn n = 0 then 0 else 1)
theorem cntS_le {sn : Nat → Int32} : ∀ n : Nat, cntS sn n ≤ n := by
  intro n
  induction n with
  | zero => exact Nat.le_refl _
  | succ n ih => show cntS sn n + _ ≤ _; split <;> omega
theorem cntS_lt {sn : Nat → Int32} {o : Nat} (e : sn o = 0) : ∀ n : Nat, o < n → cntS sn n < n := by
  intro n
  induction n with
  | zero => intro h; omega
  | succ n ih =>
    intro h
    have l := cntS_le (sn := sn) n
    show cntS sn n + _ < _
    by_cases q : o = n
    · subst q; rw [if_pos e]; omega
    · have := ih (by omega)
      split <;> omega
theorem cntS_upd {sn : Nat → Int32} {o : Nat} (e : sn o = 0) : ∀ n : Nat, cntS (upd sn o 1) n = cntS sn n + (if o < n then 1 else 0) := by
  intro n
  induction n with
  | zero => rfl
  | succ n ih =>
    show cntS (upd sn o 1) n + _ = cntS sn n + _ + _
    rw [ih]
    by_cases q : o = n
    · subst q
      have : upd sn o 1 o = 1 := if_pos rfl
      rw [this, e, if_neg (show ¬ o < o by omega), if_neg (show ¬ (1 : Int32) = 0 by decide), if_pos rfl, if_pos (show o < o + 1 by omega)]
    · have : upd sn o 1 n = sn n := if_neg (fun z => q z.symm)
      rw [this]
      by_cases w : o < n
      · rw [if_pos w, if_pos (show o < n + 1 by omega)]; omega
      · rw [if_neg w, if_neg (show ¬ o < n + 1 by omega)]; omega
theorem dX12_chosenOf_0 : decode cX12_chosenOf 0 = .ok (.aload_n 0, 1) := by decide +kernel
theorem dX12_chosenOf_1 : decode cX12_chosenOf 1 = .ok (.getfield 175, 3) := by decide +kernel
theorem dX12_chosenOf_4 : decode cX12_chosenOf 4 = .ok (.bipush 40, 2) := by decide +kernel
theorem dX12_chosenOf_6 : decode cX12_chosenOf 6 = .ok (.iload_n 2, 1) := by decide +kernel
theorem dX12_chosenOf_7 : decode cX12_chosenOf 7 = .ok (.imul, 1) := by decide +kernel
theorem dX12_chosenOf_8 : decode cX12_chosenOf 8 = .ok (.iload_n 1, 1) := by decide +kernel
theorem dX12_chosenOf_9 : decode cX12_chosenOf 9 = .ok (.iadd, 1) := by decide +kernel
theorem dX12_chosenOf_10 : decode cX12_chosenOf 10 = .ok (.iaload, 1) := by decide +kernel
theorem dX12_chosenOf_11 : decode cX12_chosenOf 11 = .ok (.bipush (-2), 2) := by decide +kernel
theorem dX12_chosenOf_13 : decode cX12_chosenOf 13 = .ok (.if_icmp .ne 20, 3) := by decide +kernel
theorem dX12_chosenOf_33 : decode cX12_chosenOf 33 = .ok (.aload_n 0, 1) := by decide +kernel
theorem dX12_chosenOf_34 : decode cX12_chosenOf 34 = .ok (.getfield 175, 3) := by decide +kernel
theorem dX12_chosenOf_37 : decode cX12_chosenOf 37 = .ok (.bipush 40, 2) := by decide +kernel
theorem dX12_chosenOf_39 : decode cX12_chosenOf 39 = .ok (.iload_n 2, 1) := by decide +kernel
theorem dX12_chosenOf_40 : decode cX12_chosenOf 40 = .ok (.imul, 1) := by decide +kernel
theorem dX12_chosenOf_41 : decode cX12_chosenOf 41 = .ok (.iload_n 1, 1) := by decide +kernel
theorem dX12_chosenOf_42 : decode cX12_chosenOf 42 = .ok (.iadd, 1) := by decide +kernel
theorem dX12_chosenOf_43 : decode cX12_chosenOf 43 = .ok (.iaload, 1) := by decide +kernel
theorem dX12_chosenOf_44 : decode cX12_chosenOf 44 = .ok (.ireturn, 1) := by decide +kernel
theorem dX12_chosenOf_16 : decode cX12_chosenOf 16 = .ok (.aload_n 0, 1) := by decide +kernel
theorem dX12_chosenOf_17 : decode cX12_chosenOf 17 = .ok (.getfield 175, 3) := by decide +kernel
theorem dX12_chosenOf_20 : decode cX12_chosenOf 20 = .ok (.bipush 40, 2) := by decide +kernel
theorem dX12_chosenOf_22 : decode cX12_chosenOf 22 = .ok (.iload_n 2, 1) := by decide +kernel
theorem dX12_chosenOf_23 : decode cX12_chosenOf 23 = .ok (.imul, 1) := by decide +kernel
theorem dX12_chosenOf_24 : decode cX12_chosenOf 24 = .ok (.iload_n 1, 1) := by decide +kernel
theorem dX12_chosenOf_25 : decode cX12_chosenOf 25 = .ok (.iadd, 1) := by decide +kernel
theorem dX12_chosenOf_26 : decode cX12_chosenOf 26 = .ok (.aload_n 0, 1) := by decide +kernel
theorem dX12_chosenOf_27 : decode cX12_chosenOf 27 = .ok (.iload_n 1, 1) := by decide +kernel
theorem dX12_chosenOf_28 : decode cX12_chosenOf 28 = .ok (.iload_n 2, 1) := by decide +kernel
theorem dX12_chosenOf_29 : decode cX12_chosenOf 29 = .ok (.invokevirtual 515, 3) := by decide +kernel
theorem dX12_chosenOf_32 : decode cX12_chosenOf 32 = .ok (.iastore, 1) := by decide +kernel
set_option maxHeartbeats 2000000 in
set_option maxRecDepth 100000 in
/-- chosenOf(k, name) -/
theorem R_chosenOf (l : Launch) (G : pT) (h0 : Nat) (a : Nat → Nat) (F : Nat → Int32) (B : Nat → Nat → Int32) (k9 : Nat) (nv : Nat) (dc : Nat) (md : Nat) (nm : Nat) (co : Nat → Int32) (hk9 : k9 < dc) (hdc : dc ≤ 37) (hnv : nv < nm ∧ nm ≤ 5100) (hmd : md ≤ 920) (hrk : Rk (B 29) dc) (hco : ChO B co dc md nm) : PM l G pX0 yX12_chosenOf cX12_chosenOf 3 (some .int) ({ frames := 3, cells := 0, slots := 0, locals := 84 }) [.ref h0, .int (nI k9), .int (nI nv)] (mW G h0 a (upd F 49 (nI md)) (updA B 54 co)) (fun (v : Option Value) (u : (Nat → Int32)) => v = some (.int (mthF (B 36) (B 37) (B 29) md (nI nv) 40 k9)) ∧ (ChO B u dc md nm)) (fun u => (mW G h0 a (upd F 49 (nI md)) (updA B 54 u))) := by
  intro sz
  refine Met.ofW (cc := cX12_chosenOf) (maxL := 3) (ret := (some .int)) (by decide) rfl ?_
  intro p e s m args below meth c s₁ B9 hml hv
  obtain ⟨rfl, hsz, hP, hD0, hE, hX⟩ := hv
  have hx := B9.exec
  have hb := B9.bytes
  have hr := B9.returns
  have hts := atoms_spec (ws := Cond.code yX12_chosenOf cX12_chosenOf 3 (some .int) :: pw) B9.pre
  have hq : ∀ w ∈ pw, w.before _ s = true := fun w h => hts w (List.mem_cons_of_mem _ h)
  have hown : s.vm.findClass RX12 = some m.cls := findClass_of_methodNamed B9.named
  have hlocks := B9.notSynchronized
  subst hsz
  have hD := hD0.self (sz := s.heap.size)
  have hA : ∀ q : Nat, s.heap.size ≤ q → va_A (mW G h0 a (upd F 49 (nI md)) (updA B 54 co)) s.heap.size q := fun q h => Or.inr h
  have hP : va_P G.1 pCl (mW G h0 a (upd F 49 (nI md)) (updA B 54 co)) s.heap := hP
  generalize va_A (mW G h0 a (upd F 49 (nI md)) (updA B 54 co)) s.heap.size = A at hD hE hA ⊢
  have hS : va_S A s.heap s.heap [] := va_S.rf
  have hl := lv_entry ([.ref h0, .int (nI k9), .int (nI nv)]) (n := 3) (Nat.le_of_ble_eq_true rfl)
  rw [lg_entry_eq]
  generalize (lg_sl ([.ref h0, .int (nI k9), .int (nI nv)]) ++ List.replicate (3 - (lg_sl ([.ref h0, .int (nI k9), .int (nI nv)])).length) Slot.unset).toArray = ls at hl ⊢
  have hl : lv_has ls 3 [(0, .ref h0), (1, .int (nI k9)), (2, .int (nI nv))] := hl
  refine lv_aload_n hx hb dX12_chosenOf_0 rfl (lv_at hl 0 rfl) ?_
  refine r_get (v := .ref (a 54)) hx hb hown hq hE hP 90 175 tFX12_90 (by decide) pw_1486 rfl dX12_chosenOf_1 ?_
  refine lv_bipush (v := 40) hx hb dX12_chosenOf_4 (by decide) ?_
  refine lv_iload_n hx hb dX12_chosenOf_6 rfl (lv_at hl 2 rfl) ?_
  refine lv_imul hx hb dX12_chosenOf_7 ?_
  refine lv_topi (fun x1 e2 => ?_)
  obtain rfl : x1 = nI (40 * nv) := e2.trans (nI_mulN (40) (nv))
  refine lv_iload_n hx hb dX12_chosenOf_8 rfl (lv_at hl 1 rfl) ?_
  refine lv_iadd hx hb dX12_chosenOf_9 ?_
  refine lv_topi (fun x3 e4 => ?_)
  obtain rfl : x3 = nI ((40 * nv) + k9) := e4.trans (nI_add ((40 * nv)) (k9))
  refine r_ldi (f := co) (j := ((40 * nv) + k9)) hx hb hE hP 54 (ma_54 G a _) rfl (by omega) (by decide) dX12_chosenOf_10 ?_
  refine lv_bipush (v := (-2)) hx hb dX12_chosenOf_11 (by decide) ?_
  refine lv_icmp_ne (tgt := 33) hx hb dX12_chosenOf_13 (by decide) (fun c5 => ?_) (fun c5 => ?_)
  · refine lv_aload_n hx hb dX12_chosenOf_33 rfl (lv_at hl 0 rfl) ?_
    refine r_get (v := .ref (a 54)) hx hb hown hq hE hP 90 175 tFX12_90 (by decide) pw_1486 rfl dX12_chosenOf_34 ?_
    refine lv_bipush (v := 40) hx hb dX12_chosenOf_37 (by decide) ?_
    refine lv_iload_n hx hb dX12_chosenOf_39 rfl (lv_at hl 2 rfl) ?_
    refine lv_imul hx hb dX12_chosenOf_40 ?_
    refine lv_topi (fun x6 e7 => ?_)
    obtain rfl : x6 = nI (40 * nv) := e7.trans (nI_mulN (40) (nv))
    refine lv_iload_n hx hb dX12_chosenOf_41 rfl (lv_at hl 1 rfl) ?_
    refine lv_iadd hx hb dX12_chosenOf_42 ?_
    refine lv_topi (fun x8 e9 => ?_)
    obtain rfl : x8 = nI ((40 * nv) + k9) := e9.trans (nI_add ((40 * nv)) (k9))
    refine r_ldi (f := co) (j := ((40 * nv) + k9)) hx hb hE hP 54 (ma_54 G a _) rfl (by omega) (by decide) dX12_chosenOf_43 ?_
    refine lv_topi (fun x10 e11 => ?_)
    obtain rfl : x10 = mthF (B 36) (B 37) (B 29) md (nI nv) 40 k9 := e11.trans ((hco nv k9 (by omega) (by omega)).resolve_left c5)
    have hz12 : ChO B co dc md nm := hco
    have hP : va_P G.1 pCl (mW G h0 a (upd F 49 (nI md)) (updA B 54 co)) _ := hP
    have hD : va_D A (mW G h0 a (upd F 49 (nI md)) (updA B 54 co)) := mW_D hD
    exact W.iret (v := (mthF (B 36) (B 37) (B 29) md (nI nv) 40 k9)) hx hb hr (fun t9 ht9 hW9 => ⟨⟨_, co, rfl, ⟨rfl, hz12⟩, by rw [ht9]; exact hP, hD⟩, hS.F ht9⟩) hS.2.2 dX12_chosenOf_44
  · refine lv_aload_n hx hb dX12_chosenOf_16 rfl (lv_at hl 0 rfl) ?_
    refine r_get (v := .ref (a 54)) hx hb hown hq hE hP 90 175 tFX12_90 (by decide) pw_1486 rfl dX12_chosenOf_17 ?_
    refine lv_bipush (v := 40) hx hb dX12_chosenOf_20 (by decide) ?_
    refine lv_iload_n hx hb dX12_chosenOf_22 rfl (lv_at hl 2 rfl) ?_
    refine lv_imul hx hb dX12_chosenOf_23 ?_
    refine lv_topi (fun x13 e14 => ?_)
    obtain rfl : x13 = nI (40 * nv) := e14.trans (nI_mulN (40) (nv))
    refine lv_iload_n hx hb dX12_chosenOf_24 rfl (lv_at hl 1 rfl) ?_
    refine lv_iadd hx hb dX12_chosenOf_25 ?_
    refine lv_topi (fun x15 e16 => ?_)
    obtain rfl : x15 = nI ((40 * nv) + k9) := e16.trans (nI_add ((40 * nv)) (k9))
    refine lv_aload_n hx hb dX12_chosenOf_26 rfl (lv_at hl 0 rfl) ?_
    refine lv_iload_n hx hb dX12_chosenOf_27 rfl (lv_at hl 1 rfl) ?_
    refine lv_iload_n hx hb dX12_chosenOf_28 rfl (lv_at hl 2 rfl) ?_
    have hP : va_P G.1 pCl (mW G h0 a (upd (upd F 49 (nI md)) 49 (nI md)) (updA (updA (updA (updA B 54 co) 29 (B 29)) 36 (B 36)) 37 (B 37))) _ := mW_to (F := F) (l1 := [(49, (nI md))]) (l2 := [(49, (nI md)), (49, (nI md))]) (V := [(nI md), (nI md), (nI md)]) rfl rfl (show (updA B 54 co) = (updA (updA (updA (updA B 54 co) 29 (B 29)) 36 (B 36)) 37 (B 37)) from updsA_eq2 (F := B) (l1 := [(54, co)]) (l2 := [(54, co), (29, (B 29)), (36, (B 36)), (37, (B 37))]) (V := [co, co, (B 29), (B 36), (B 37)]) rfl rfl) hP
    have hD : va_D A (mW G h0 a (upd (upd F 49 (nI md)) 49 (nI md)) (updA (updA (updA (updA B 54 co) 29 (B 29)) 36 (B 36)) 37 (B 37))) := mW_D hD
    refine pc_V0 (G := G) (As := [.int (nI k9), .int (nI nv)]) (rest := [.int (nI ((40 * nv) + k9)), .ref (a 54)]) hx hb hml hown hq hE hX pX0_al hP hD hS hA hl.1 (R_methodOf l G h0 a (upd F 49 (nI md)) (updA B 54 co) k9 dc md (nI nv) (B 36) (B 37) (B 29) (by omega) (by omega) (by omega) hrk) (gV pw_1769 pw_1770 pw_1771 pw_1523 pw_1767) hV_X12_methodOf 0 9 rfl rfl rfl rfl (Nat.le_of_ble_eq_true rfl) dX12_chosenOf_29 ⟨Nat.le_of_ble_eq_true rfl, Nat.le_of_ble_eq_true rfl⟩ ⟨Nat.le_of_ble_eq_true rfl, Nat.le_of_ble_eq_true rfl⟩ (fun v19 u17 H locs hw18 hP hD hS => ?_)
    obtain rfl : v19 = some (.int (mthF (B 36) (B 37) (B 29) md (nI nv) 40 k9)) := hw18
    have hP : va_P G.1 pCl (mW G h0 a (upd F 49 (nI md)) (updA B 54 co)) _ := mW_to (F := F) (l1 := [(49, (nI md)), (49, (nI md))]) (l2 := [(49, (nI md))]) (V := [(nI md), (nI md), (nI md)]) rfl rfl (show (updA (updA (updA (updA B 54 co) 29 (B 29)) 36 (B 36)) 37 (B 37)) = (updA B 54 co) from updsA_eq2 (F := B) (l1 := [(54, co), (29, (B 29)), (36, (B 36)), (37, (B 37))]) (l2 := [(54, co)]) (V := [co, (B 29), (B 36), (B 37), co]) rfl rfl) hP
    have hD : va_D A (mW G h0 a (upd F 49 (nI md)) (updA B 54 co)) := mW_D hD
    refine W.widen (k := 0) (n := 0) (Nat.le_of_ble_eq_true rfl) (Nat.le_of_ble_eq_true rfl) ?_
    refine W.eq (g2 := F0 m 32 ls [.int (mthF (B 36) (B 37) (B 29) md (nI nv) 40 k9), .int (nI ((40 * nv) + k9)), .ref (a 54)]) rfl ?_
    refine r_sti (f := co) (j := ((40 * nv) + k9)) hx hb hE hP hD hS 54 (ma_54 G a _) rfl (mas_54 G a _) (by omega) (by decide) dX12_chosenOf_32 (fun H locs hP hD hS => ?_)
    refine lv_aload_n hx hb dX12_chosenOf_33 rfl (lv_at hl 0 rfl) ?_
    refine r_get (v := .ref (a 54)) hx hb hown hq hE hP 90 175 tFX12_90 (by decide) pw_1486 rfl dX12_chosenOf_34 ?_
    refine lv_bipush (v := 40) hx hb dX12_chosenOf_37 (by decide) ?_
    refine lv_iload_n hx hb dX12_chosenOf_39 rfl (lv_at hl 2 rfl) ?_
    refine lv_imul hx hb dX12_chosenOf_40 ?_
    refine lv_topi (fun x20 e21 => ?_)
    obtain rfl : x20 = nI (40 * nv) := e21.trans (nI_mulN (40) (nv))
    refine lv_iload_n hx hb dX12_chosenOf_41 rfl (lv_at hl 1 rfl) ?_
    refine lv_iadd hx hb dX12_chosenOf_42 ?_
    refine lv_topi (fun x22 e23 => ?_)
    obtain rfl : x22 = nI ((40 * nv) + k9) := e23.trans (nI_add ((40 * nv)) (k9))
    refine r_ldi (f := (upd co ((40 * nv) + k9) (mthF (B 36) (B 37) (B 29) md (nI nv) 40 k9))) (j := ((40 * nv) + k9)) hx hb hE hP 54 (ma_54 G a _) rfl (by omega) (by decide) dX12_chosenOf_43 ?_
    refine lv_topi (fun x24 e25 => ?_)
    obtain rfl : x24 = mthF (B 36) (B 37) (B 29) md (nI nv) 40 k9 := e25.trans upd_eq
    have hz26 : ChO B (upd co ((40 * nv) + k9) (mthF (B 36) (B 37) (B 29) md (nI nv) 40 k9)) dc md nm := (ChO.up hco hdc hk9)
    have hP : va_P G.1 pCl (mW G h0 a (upd F 49 (nI md)) (updA B 54 (upd co ((40 * nv) + k9) (mthF (B 36) (B 37) (B 29) md (nI nv) 40 k9)))) _ := mW_to (F := F) (l1 := [(49, (nI md))]) (l2 := [(49, (nI md))]) (V := [(nI md), (nI md)]) rfl rfl (show (updA (updA B 54 co) 54 (upd co ((40 * nv) + k9) (mthF (B 36) (B 37) (B 29) md (nI nv) 40 k9))) = (updA B 54 (upd co ((40 * nv) + k9) (mthF (B 36) (B 37) (B 29) md (nI nv) 40 k9))) from updsA_eq2 (F := B) (l1 := [(54, co), (54, (upd co ((40 * nv) + k9) (mthF (B 36) (B 37) (B 29) md (nI nv) 40 k9)))]) (l2 := [(54, (upd co ((40 * nv) + k9) (mthF (B 36) (B 37) (B 29) md (nI nv) 40 k9)))]) (V := [(upd co ((40 * nv) + k9) (mthF (B 36) (B 37) (B 29) md (nI nv) 40 k9)), (upd co ((40 * nv) + k9) (mthF (B 36) (B 37) (B 29) md (nI nv) 40 k9)), (upd co ((40 * nv) + k9) (mthF (B 36) (B 37) (B 29) md (nI nv) 40 k9))]) rfl rfl) hP
    have hD : va_D A (mW G h0 a (upd F 49 (nI md)) (updA B 54 (upd co ((40 * nv) + k9) (mthF (B 36) (B 37) (B 29) md (nI nv) 40 k9)))) := mW_D hD
    exact W.iret (v := (mthF (B 36) (B 37) (B 29) md (nI nv) 40 k9)) hx hb hr (fun t9 ht9 hW9 => ⟨⟨_, (upd co ((40 * nv) + k9) (mthF (B 36) (B 37) (B 29) md (nI nv) 40 k9)), rfl, ⟨rfl, hz26⟩, by rw [ht9]; exact hP, hD⟩, hS.F ht9⟩) hS.2.2 dX12_chosenOf_44
theorem dX12_see_0 : decode cX12_see 0 = .ok (.iload_n 1, 1) := by decide +kernel
theorem dX12_see_1 : decode cX12_see 1 = .ok (.ifCond .le 52, 3) := by decide +kernel
theorem dX12_see_53 : decode cX12_see 53 = .ok (.return_, 1) := by decide +kernel
theorem dX12_see_4 : decode cX12_see 4 = .ok (.iload_n 1, 1) := by decide +kernel
theorem dX12_see_5 : decode cX12_see 5 = .ok (.sipush 4000, 3) := by decide +kernel
theorem dX12_see_8 : decode cX12_see 8 = .ok (.if_icmp .ge 45, 3) := by decide +kernel
theorem dX12_see_11 : decode cX12_see 11 = .ok (.aload_n 0, 1) := by decide +kernel
theorem dX12_see_12 : decode cX12_see 12 = .ok (.getfield 190, 3) := by decide +kernel
theorem dX12_see_15 : decode cX12_see 15 = .ok (.iload_n 1, 1) := by decide +kernel
theorem dX12_see_16 : decode cX12_see 16 = .ok (.iconst 1, 1) := by decide +kernel
theorem dX12_see_17 : decode cX12_see 17 = .ok (.isub, 1) := by decide +kernel
theorem dX12_see_18 : decode cX12_see 18 = .ok (.baload, 1) := by decide +kernel
theorem dX12_see_19 : decode cX12_see 19 = .ok (.ifCond .ne 34, 3) := by decide +kernel
theorem dX12_see_22 : decode cX12_see 22 = .ok (.aload_n 0, 1) := by decide +kernel
theorem dX12_see_23 : decode cX12_see 23 = .ok (.getfield 190, 3) := by decide +kernel
theorem dX12_see_26 : decode cX12_see 26 = .ok (.iload_n 1, 1) := by decide +kernel
theorem dX12_see_27 : decode cX12_see 27 = .ok (.iconst 1, 1) := by decide +kernel
theorem dX12_see_28 : decode cX12_see 28 = .ok (.isub, 1) := by decide +kernel
theorem dX12_see_29 : decode cX12_see 29 = .ok (.iconst 1, 1) := by decide +kernel
theorem dX12_see_30 : decode cX12_see 30 = .ok (.bastore, 1) := by decide +kernel
theorem dX12_see_31 : decode cX12_see 31 = .ok (.aload_n 0, 1) := by decide +kernel
theorem dX12_see_32 : decode cX12_see 32 = .ok (.getfield 196, 3) := by decide +kernel
theorem dX12_see_35 : decode cX12_see 35 = .ok (.aload_n 0, 1) := by decide +kernel
theorem dX12_see_36 : decode cX12_see 36 = .ok (.getfield 701, 3) := by decide +kernel
theorem dX12_see_39 : decode cX12_see 39 = .ok (.iload_n 1, 1) := by decide +kernel
theorem dX12_see_40 : decode cX12_see 40 = .ok (.iconst 1, 1) := by decide +kernel
theorem dX12_see_41 : decode cX12_see 41 = .ok (.isub, 1) := by decide +kernel
theorem dX12_see_42 : decode cX12_see 42 = .ok (.iastore, 1) := by decide +kernel
theorem dX12_see_43 : decode cX12_see 43 = .ok (.aload_n 0, 1) := by decide +kernel
theorem dX12_see_44 : decode cX12_see 44 = .ok (.dup, 1) := by decide +kernel
theorem dX12_see_45 : decode cX12_see 45 = .ok (.getfield 701, 3) := by decide +kernel
theorem dX12_see_48 : decode cX12_see 48 = .ok (.iconst 1, 1) := by decide +kernel
theorem dX12_see_49 : decode cX12_see 49 = .ok (.iadd, 1) := by decide +kernel
theorem dX12_see_50 : decode cX12_see 50 = .ok (.putfield 701, 3) := by decide +kernel
set_option maxHeartbeats 2000000 in
set_option maxRecDepth 100000 in
/-- see(v) -/
theorem R_see (l : Launch) (G : pT) (h0 : Nat) (a : Nat → Nat) (F : Nat → Int32) (B : Nat → Nat → Int32) (x : Nat) (tn : Nat) (sn : Nat → Int32) (td : Nat → Int32) (hx9 : x ≤ 3000 ∨ (4001 ≤ x ∧ x ≤ 4006)) (htn : tn ≤ cntS sn 3000) : PM l G pX0 yX12_see cX12_see 2 none ({ frames := 2, cells := 0, slots := 0, locals := 60 }) [.ref h0, .int (nI x)] (mW G h0 a (upd F 101 (nI tn)) (updA (updA B 59 sn) 61 td)) (fun (v : Option Value) (u : Nat × (Nat → Int32) × (Nat → Int32)) => v = none ∧ (u.1 ≤ cntS u.2.1 3000) ∧ ((u.2.1 = sn ∧ u.2.2 = td ∧ u.1 = tn ∧ (x = 0 ∨ 4001 ≤ x ∨ ¬ sn (x - 1) = 0)) ∨ (1 ≤ x ∧ x ≤ 3000 ∧ sn (x - 1) = 0 ∧ u.2.1 = upd sn (x - 1) 1 ∧ u.2.2 = upd td tn (nI (x - 1)) ∧ u.1 = tn + 1))) (fun u => (mW G h0 a (upd F 101 (nI u.1)) (updA (updA B 59 u.2.1) 61 u.2.2))) := by
  intro sz
  refine Met.ofW (cc := cX12_see) (maxL := 2) (ret := none) (by decide) rfl ?_
  intro p e s m args below meth c s₁ B9 hml hv
  obtain ⟨rfl, hsz, hP, hD0, hE, hX⟩ := hv
  have hx := B9.exec
  have hb := B9.bytes
  have hr := B9.returns
  have hts := atoms_spec (ws := Cond.code yX12_see cX12_see 2 none :: pw) B9.pre
  have hq : ∀ w ∈ pw, w.before _ s = true := fun w h => hts w (List.mem_cons_of_mem _ h)
  have hown : s.vm.findClass RX12 = some m.cls := findClass_of_methodNamed B9.named
  have hlocks := B9.notSynchronized
  subst hsz
  have hD := hD0.self (sz := s.heap.size)
  have hA : ∀ q : Nat, s.heap.size ≤ q → va_A (mW G h0 a (upd F 101 (nI tn)) (updA (updA B 59 sn) 61 td)) s.heap.size q := fun q h => Or.inr h
  have hP : va_P G.1 pCl (mW G h0 a (upd F 101 (nI tn)) (updA (updA B 59 sn) 61 td)) s.heap := hP
  generalize va_A (mW G h0 a (upd F 101 (nI tn)) (updA (updA B 59 sn) 61 td)) s.heap.size = A at hD hE hA ⊢
  have hS : va_S A s.heap s.heap [] := va_S.rf
  have hl := lv_entry ([.ref h0, .int (nI x)]) (n := 2) (Nat.le_of_ble_eq_true rfl)
  rw [lg_entry_eq]
  generalize (lg_sl ([.ref h0, .int (nI x)]) ++ List.replicate (2 - (lg_sl ([.ref h0, .int (nI x)])).length) Slot.unset).toArray = ls at hl ⊢
  have hl : lv_has ls 2 [(0, .ref h0), (1, .int (nI x))] := hl
  have hcl := cntS_le (sn := sn) 3000
  refine lv_iload_n hx hb dX12_see_0 rfl (lv_at hl 1 rfl) ?_
  refine lv_if_le (tgt := 53) hx hb dX12_see_1 (by decide) (fun c1 => ?_) (fun c1 => ?_)
  · have n2 : x ≤ 0 := (nI_leI (a := x) (b := 0) (by omega) (by omega)).mp c1
    have hz3 : tn ≤ cntS sn 3000 := htn
    have hz4 : (sn = sn ∧ td = td ∧ tn = tn ∧ (x = 0 ∨ 4001 ≤ x ∨ ¬ sn (x - 1) = 0)) ∨ (1 ≤ x ∧ x ≤ 3000 ∧ sn (x - 1) = 0 ∧ sn = upd sn (x - 1) 1 ∧ td = upd td tn (nI (x - 1)) ∧ tn = tn + 1) := (Or.inl ⟨rfl, rfl, rfl, by omega⟩)
    have hP : va_P G.1 pCl (mW G h0 a (upd F 101 (nI tn)) (updA (updA B 59 sn) 61 td)) _ := hP
    have hD : va_D A (mW G h0 a (upd F 101 (nI tn)) (updA (updA B 59 sn) 61 td)) := mW_D hD
    exact W.vret hx hb hr (fun t9 ht9 hW9 => ⟨⟨_, (tn, sn, td), rfl, ⟨rfl, hz3, hz4⟩, by rw [ht9]; exact hP, hD⟩, hS.F ht9⟩) hS.2.2 dX12_see_53
  · have n5 : ¬ (x ≤ 0) := fun h9 => c1 ((nI_leI (a := x) (b := 0) (by omega) (by omega)).mpr h9)
    refine lv_iload_n hx hb dX12_see_4 rfl (lv_at hl 1 rfl) ?_
    refine lv_sipush (v := 4000) hx hb dX12_see_5 (by decide) ?_
    refine lv_icmp_ge (tgt := 53) hx hb dX12_see_8 (by decide) (fun c6 => ?_) (fun c6 => ?_)
    · have n7 : 4000 ≤ x := (nI_leI (a := 4000) (b := x) (by omega) (by omega)).mp c6
      have hz8 : tn ≤ cntS sn 3000 := htn
      have hz9 : (sn = sn ∧ td = td ∧ tn = tn ∧ (x = 0 ∨ 4001 ≤ x ∨ ¬ sn (x - 1) = 0)) ∨ (1 ≤ x ∧ x ≤ 3000 ∧ sn (x - 1) = 0 ∧ sn = upd sn (x - 1) 1 ∧ td = upd td tn (nI (x - 1)) ∧ tn = tn + 1) := (Or.inl ⟨rfl, rfl, rfl, by omega⟩)
      have hP : va_P G.1 pCl (mW G h0 a (upd F 101 (nI tn)) (updA (updA B 59 sn) 61 td)) _ := hP
      have hD : va_D A (mW G h0 a (upd F 101 (nI tn)) (updA (updA B 59 sn) 61 td)) := mW_D hD
      exact W.vret hx hb hr (fun t9 ht9 hW9 => ⟨⟨_, (tn, sn, td), rfl, ⟨rfl, hz8, hz9⟩, by rw [ht9]; exact hP, hD⟩, hS.F ht9⟩) hS.2.2 dX12_see_53
    · have n10 : ¬ (4000 ≤ x) := fun h9 => c6 ((nI_leI (a := 4000) (b := x) (by omega) (by omega)).mpr h9)
      refine lv_aload_n hx hb dX12_see_11 rfl (lv_at hl 0 rfl) ?_
      refine r_get (v := .ref (a 59)) hx hb hown hq hE hP 95 190 tFX12_95 (by decide) pw_1491 rfl dX12_see_12 ?_
      refine lv_iload_n hx hb dX12_see_15 rfl (lv_at hl 1 rfl) ?_
      refine lv_iconst (v := 1) hx hb dX12_see_16 (by decide) ?_
      refine lv_isub hx hb dX12_see_17 ?_
      refine lv_topi (fun x11 e12 => ?_)
      obtain rfl : x11 = nI (x - 1) := e12.trans (nI_subN (a := 1) (b := x) (by omega))
      refine r_ldz (f := sn) (j := (x - 1)) hx hb hE hP 59 (ma_59 G a _) rfl (by omega) (by decide) dX12_see_18 ?_
      refine lv_if_ne (tgt := 53) hx hb dX12_see_19 (by decide) (fun c13 => ?_) (fun c13 => ?_)
      · have hz14 : tn ≤ cntS sn 3000 := htn
        have hz15 : (sn = sn ∧ td = td ∧ tn = tn ∧ (x = 0 ∨ 4001 ≤ x ∨ ¬ sn (x - 1) = 0)) ∨ (1 ≤ x ∧ x ≤ 3000 ∧ sn (x - 1) = 0 ∧ sn = upd sn (x - 1) 1 ∧ td = upd td tn (nI (x - 1)) ∧ tn = tn + 1) := (Or.inl ⟨rfl, rfl, rfl, Or.inr (Or.inr c13)⟩)
        have hP : va_P G.1 pCl (mW G h0 a (upd F 101 (nI tn)) (updA (updA B 59 sn) 61 td)) _ := hP
        have hD : va_D A (mW G h0 a (upd F 101 (nI tn)) (updA (updA B 59 sn) 61 td)) := mW_D hD
        exact W.vret hx hb hr (fun t9 ht9 hW9 => ⟨⟨_, (tn, sn, td), rfl, ⟨rfl, hz14, hz15⟩, by rw [ht9]; exact hP, hD⟩, hS.F ht9⟩) hS.2.2 dX12_see_53
      · have hcl2 := cntS_lt c13 3000 (by omega)
        refine lv_aload_n hx hb dX12_see_22 rfl (lv_at hl 0 rfl) ?_
        refine r_get (v := .ref (a 59)) hx hb hown hq hE hP 95 190 tFX12_95 (by decide) pw_1491 rfl dX12_see_23 ?_
        refine lv_iload_n hx hb dX12_see_26 rfl (lv_at hl 1 rfl) ?_
        refine lv_iconst (v := 1) hx hb dX12_see_27 (by decide) ?_
        refine lv_isub hx hb dX12_see_28 ?_
        refine lv_topi (fun x16 e17 => ?_)
        obtain rfl : x16 = nI (x - 1) := e17.trans (nI_subN (a := 1) (b := x) (by omega))
        refine lv_iconst (v := 1) hx hb dX12_see_29 (by decide) ?_
        refine r_stz (f := sn) (j := (x - 1)) hx hb hE hP hD hS 59 (ma_59 G a _) rfl (mas_59 G a _) (by omega) (by decide) dX12_see_30 (fun H locs hP hD hS => ?_)
        refine lv_aload_n hx hb dX12_see_31 rfl (lv_at hl 0 rfl) ?_
        refine r_get (v := .ref (a 61)) hx hb hown hq hE hP 100 196 tFX12_100 (by decide) pw_1493 rfl dX12_see_32 ?_
        refine lv_aload_n hx hb dX12_see_35 rfl (lv_at hl 0 rfl) ?_
        refine r_get (v := .int (nI tn)) hx hb hown hq hE hP 101 701 tFX12_101 (by decide) pw_1967 rfl dX12_see_36 ?_
        refine lv_iload_n hx hb dX12_see_39 rfl (lv_at hl 1 rfl) ?_
        refine lv_iconst (v := 1) hx hb dX12_see_40 (by decide) ?_
        refine lv_isub hx hb dX12_see_41 ?_
        refine lv_topi (fun x18 e19 => ?_)
        obtain rfl : x18 = nI (x - 1) := e19.trans (nI_subN (a := 1) (b := x) (by omega))
        refine r_sti (f := td) (j := tn) hx hb hE hP hD hS 61 (ma_61 G a _) rfl (mas_61 G a _) (by omega) (by decide) dX12_see_42 (fun H locs hP hD hS => ?_)
        refine lv_aload_n hx hb dX12_see_43 rfl (lv_at hl 0 rfl) ?_
        refine lv_dup hx hb dX12_see_44 rfl ?_
        refine r_get (v := .int (nI tn)) hx hb hown hq hE hP 101 701 tFX12_101 (by decide) pw_1967 rfl dX12_see_45 ?_
        refine lv_iconst (v := 1) hx hb dX12_see_48 (by decide) ?_
        refine lv_iadd hx hb dX12_see_49 ?_
        refine lv_topi (fun x20 e21 => ?_)
        obtain rfl : x20 = nI (tn + 1) := e21.trans (nI_add (tn) (1))
        refine r_put (v := (nI (tn + 1))) (ty := .int) hx hb hown hq hE hP hD hS 101 701 tFX12_101 (by decide) pw_1967 (by decide) rfl rfl (ms_101 a _ _) dX12_see_50 (fun H locs hP hD hS => ?_)
        have hz22 : (tn + 1) ≤ cntS (upd sn (x - 1) 1) 3000 := (by rw [cntS_upd c13 3000, if_pos (by omega)]; omega)
        have hz23 : ((upd sn (x - 1) 1) = sn ∧ (upd td tn (nI (x - 1))) = td ∧ (tn + 1) = tn ∧ (x = 0 ∨ 4001 ≤ x ∨ ¬ sn (x - 1) = 0)) ∨ (1 ≤ x ∧ x ≤ 3000 ∧ sn (x - 1) = 0 ∧ (upd sn (x - 1) 1) = upd sn (x - 1) 1 ∧ (upd td tn (nI (x - 1))) = upd td tn (nI (x - 1)) ∧ (tn + 1) = tn + 1) := (Or.inr ⟨by omega, by omega, c13, rfl, rfl, rfl⟩)
        have hP : va_P G.1 pCl (mW G h0 a (upd F 101 (nI (tn + 1))) (updA (updA B 59 (upd sn (x - 1) 1)) 61 (upd td tn (nI (x - 1))))) _ := mW_to (F := F) (l1 := [(101, (nI tn)), (101, (nI (tn + 1)))]) (l2 := [(101, (nI (tn + 1)))]) (V := [(nI (tn + 1)), (nI (tn + 1)), (nI (tn + 1))]) rfl rfl (show (updA (updA (updA (updA B 59 sn) 61 td) 59 (upd sn (x - 1) 1)) 61 (upd td tn (nI (x - 1)))) = (updA (updA B 59 (upd sn (x - 1) 1)) 61 (upd td tn (nI (x - 1)))) from updsA_eq2 (F := B) (l1 := [(59, sn), (61, td), (59, (upd sn (x - 1) 1)), (61, (upd td tn (nI (x - 1))))]) (l2 := [(59, (upd sn (x - 1) 1)), (61, (upd td tn (nI (x - 1))))]) (V := [(upd sn (x - 1) 1), (upd td tn (nI (x - 1))), (upd sn (x - 1) 1), (upd td tn (nI (x - 1))), (upd sn (x - 1) 1), (upd td tn (nI (x - 1)))]) rfl rfl) hP
        have hD : va_D A (mW G h0 a (upd F 101 (nI (tn + 1))) (updA (updA B 59 (upd sn (x - 1) 1)) 61 (upd td tn (nI (x - 1))))) := mW_D hD
        exact W.vret hx hb hr (fun t9 ht9 hW9 => ⟨⟨_, ((tn + 1), (upd sn (x - 1) 1), (upd td tn (nI (x - 1)))), rfl, ⟨rfl, hz22, hz23⟩, by rw [ht9]; exact hP, hD⟩, hS.F ht9⟩) hS.2.2 dX12_see_53
