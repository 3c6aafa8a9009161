/-- what fieldOf finds -/
def FldQ (X : Nat → Nat → Int32) (dc fd k : Nat) (x r : Int32) : Prop := r = -1 ∨ ∃ f : Nat, r = nI f ∧ f < fd ∧ X 33 f = x ∧ (X 32 f = nI k ∨ ∃ d : Nat, X 32 f = nI d ∧ d < dc ∧ X 31 (40 * d + k) = 1)
theorem dX12_judge_0 : decode cX12_judge 0 = .ok (.aload_n 0, 1) := by decide +kernel
theorem dX12_judge_1 : decode cX12_judge 1 = .ok (.getfield 350, 3) := by decide +kernel
theorem dX12_judge_4 : decode cX12_judge 4 = .ok (.ifCond .ne 13, 3) := by decide +kernel
theorem dX12_judge_17 : decode cX12_judge 17 = .ok (.aload_n 0, 1) := by decide +kernel
theorem dX12_judge_18 : decode cX12_judge 18 = .ok (.getfield 350, 3) := by decide +kernel
theorem dX12_judge_21 : decode cX12_judge 21 = .ok (.ifCond .ne 7, 3) := by decide +kernel
theorem dX12_judge_28 : decode cX12_judge 28 = .ok (.iconst 0, 1) := by decide +kernel
theorem dX12_judge_29 : decode cX12_judge 29 = .ok (.ireturn, 1) := by decide +kernel
theorem dX12_judge_24 : decode cX12_judge 24 = .ok (.iconst 1, 1) := by decide +kernel
theorem dX12_judge_25 : decode cX12_judge 25 = .ok (.goto 4, 3) := by decide +kernel
theorem dX12_judge_7 : decode cX12_judge 7 = .ok (.iload_n 1, 1) := by decide +kernel
theorem dX12_judge_8 : decode cX12_judge 8 = .ok (.ifCond .ne 9, 3) := by decide +kernel
theorem dX12_judge_11 : decode cX12_judge 11 = .ok (.aload_n 0, 1) := by decide +kernel
theorem dX12_judge_12 : decode cX12_judge 12 = .ok (.iload_n 2, 1) := by decide +kernel
theorem dX12_judge_13 : decode cX12_judge 13 = .ok (.iload_n 3, 1) := by decide +kernel
theorem dX12_judge_14 : decode cX12_judge 14 = .ok (.invokevirtual 346, 3) := by decide +kernel
set_option maxHeartbeats 2000000 in
set_option maxRecDepth 100000 in
/-- judge(good, what, token) -/
theorem R_judge (l : Launch) (G : pT) (h0 : Nat) (a : Nat → Nat) (F : Nat → Int32) (B : Nat → Nat → Int32) (gd : Nat) (x : Nat) (i : Nat) (fa : Nat) (hgd : gd ≤ 1) (hi : i ≤ 5000) (hfa : fa ≤ 100) (hx9 : 0 < x ∧ x ≤ 15) : PM l G pX0 yX12_judge cX12_judge 4 (some .boolean) ({ frames := 3, cells := 0, slots := 0, locals := 82 }) [.ref h0, .int (nI gd), .int (nI x), .int (nI i)] (mW G h0 a (upd F 15 (nI fa)) B) (fun (v : Option Value) (u : Nat × Nat × Int32) => v = some (.int (nI u.1)) ∧ (u.1 ≤ 1) ∧ (fa ≤ u.2.1) ∧ (u.2.1 ≤ fa + 15) ∧ (u.2.1 + 200 * u.1 ≤ 200) ∧ (1 ≤ u.1 + u.2.1) ∧ (1 ≤ gd + u.2.1) ∧ (If (0 < fa) (u.2.1 = fa)) ∧ (u.2.1 ≤ fa + 15 * (1 - gd))) (fun u => (mW G h0 a (upd (upd F 15 (nI u.2.1)) 16 u.2.2) B)) := by
  intro sz
  refine Met.ofW (cc := cX12_judge) (maxL := 4) (ret := (some .boolean)) (by decide) rfl ?_
  intro p e s m args below meth c s₁ B9 hml hv
  obtain ⟨rfl, hsz, hP, hD0, hE, hX⟩ := hv
  have hx := B9.exec
  have hb := B9.bytes
  have hr := B9.returns
  have hts := atoms_spec (ws := Cond.code yX12_judge cX12_judge 4 (some .boolean) :: pw) B9.pre
  have hq : ∀ w ∈ pw, w.before _ s = true := fun w h => hts w (List.mem_cons_of_mem _ h)
  have hown : s.vm.findClass RX12 = some m.cls := findClass_of_methodNamed B9.named
  have hlocks := B9.notSynchronized
  subst hsz
  have hD := hD0.self (sz := s.heap.size)
  have hA : ∀ q : Nat, s.heap.size ≤ q → va_A (mW G h0 a (upd F 15 (nI fa)) B) s.heap.size q := fun q h => Or.inr h
  have hP : va_P G.1 pCl (mW G h0 a (upd F 15 (nI fa)) B) s.heap := hP
  generalize va_A (mW G h0 a (upd F 15 (nI fa)) B) s.heap.size = A at hD hE hA ⊢
  have hS : va_S A s.heap s.heap [] := va_S.rf
  have hl := lv_entry ([.ref h0, .int (nI gd), .int (nI x), .int (nI i)]) (n := 4) (Nat.le_of_ble_eq_true rfl)
  rw [lg_entry_eq]
  generalize (lg_sl ([.ref h0, .int (nI gd), .int (nI x), .int (nI i)]) ++ List.replicate (4 - (lg_sl ([.ref h0, .int (nI gd), .int (nI x), .int (nI i)])).length) Slot.unset).toArray = ls at hl ⊢
  have hl : lv_has ls 4 [(0, .ref h0), (1, .int (nI gd)), (2, .int (nI x)), (3, .int (nI i))] := hl
  refine lv_aload_n hx hb dX12_judge_0 rfl (lv_at hl 0 rfl) ?_
  refine r_get (v := .int (nI fa)) hx hb hown hq hE hP 15 350 tFX12_15 (by decide) pw_1594 rfl dX12_judge_1 ?_
  refine lv_if_ne (tgt := 17) hx hb dX12_judge_4 (by decide) (fun c1 => ?_) (fun c1 => ?_)
  · have n2 : ¬ (fa = 0) := fun h9 => c1 ((nI_eq (a := fa) (b := 0) (by omega) (by omega)).mpr h9)
    refine lv_aload_n hx hb dX12_judge_17 rfl (lv_at hl 0 rfl) ?_
    refine r_get (v := .int (nI fa)) hx hb hown hq hE hP 15 350 tFX12_15 (by decide) pw_1594 rfl dX12_judge_18 ?_
    refine lv_if_ne (tgt := 28) hx hb dX12_judge_21 (by decide) (fun c3 => ?_) (fun c3 => ?_)
    · have n4 : ¬ (fa = 0) := fun h9 => c3 ((nI_eq (a := fa) (b := 0) (by omega) (by omega)).mpr h9)
      refine lv_iconst (v := 0) hx hb dX12_judge_28 (by decide) ?_
      have hz5 : 0 ≤ 1 := (by omega)
      have hz6 : fa ≤ fa := (by omega)
      have hz7 : fa ≤ fa + 15 := (by omega)
      have hz8 : fa + 200 * 0 ≤ 200 := (by omega)
      have hz9 : 1 ≤ 0 + fa := (by omega)
      have hz10 : 1 ≤ gd + fa := (by omega)
      have hz11 : If (0 < fa) (fa = fa) := (fun h9 => by omega)
      have hz12 : fa ≤ fa + 15 * (1 - gd) := (by omega)
      have hP : va_P G.1 pCl (mW G h0 a (upd (upd F 15 (nI fa)) 16 (F 16)) B) _ := mW_to (F := F) (l1 := [(15, (nI fa))]) (l2 := [(15, (nI fa)), (16, (F 16))]) (V := [(nI fa), (nI fa), (F 16)]) rfl rfl rfl hP
      have hD : va_D A (mW G h0 a (upd (upd F 15 (nI fa)) 16 (F 16)) B) := mW_D hD
      exact W.zret (v := 0) hx hb hr rfl (fun t9 ht9 hW9 => ⟨⟨_, (0, fa, (F 16)), rfl, ⟨rfl, hz5, hz6, hz7, hz8, hz9, hz10, hz11, hz12⟩, by rw [ht9]; exact hP, hD⟩, hS.F ht9⟩) hS.2.2 dX12_judge_29
    · have n13 : fa = 0 := (nI_eq (a := fa) (b := 0) (by omega) (by omega)).mp c3
      refine lv_iconst (v := 1) hx hb dX12_judge_24 (by decide) ?_
      refine lv_goto (tgt := 29) hx hb dX12_judge_25 (by decide) ?_
      have hz14 : 1 ≤ 1 := (by omega)
      have hz15 : fa ≤ fa := (by omega)
      have hz16 : fa ≤ fa + 15 := (by omega)
      have hz17 : fa + 200 * 1 ≤ 200 := (by omega)
      have hz18 : 1 ≤ 1 + fa := (by omega)
      have hz19 : 1 ≤ gd + fa := (by omega)
      have hz20 : If (0 < fa) (fa = fa) := (fun h9 => by omega)
      have hz21 : fa ≤ fa + 15 * (1 - gd) := (by omega)
      have hP : va_P G.1 pCl (mW G h0 a (upd (upd F 15 (nI fa)) 16 (F 16)) B) _ := mW_to (F := F) (l1 := [(15, (nI fa))]) (l2 := [(15, (nI fa)), (16, (F 16))]) (V := [(nI fa), (nI fa), (F 16)]) rfl rfl rfl hP
      have hD : va_D A (mW G h0 a (upd (upd F 15 (nI fa)) 16 (F 16)) B) := mW_D hD
      exact W.zret (v := 1) hx hb hr rfl (fun t9 ht9 hW9 => ⟨⟨_, (1, fa, (F 16)), rfl, ⟨rfl, hz14, hz15, hz16, hz17, hz18, hz19, hz20, hz21⟩, by rw [ht9]; exact hP, hD⟩, hS.F ht9⟩) hS.2.2 dX12_judge_29
  · have n22 : fa = 0 := (nI_eq (a := fa) (b := 0) (by omega) (by omega)).mp c1
    refine lv_iload_n hx hb dX12_judge_7 rfl (lv_at hl 1 rfl) ?_
    refine lv_if_ne (tgt := 17) hx hb dX12_judge_8 (by decide) (fun c23 => ?_) (fun c23 => ?_)
    · have n24 : ¬ (gd = 0) := fun h9 => c23 ((nI_eq (a := gd) (b := 0) (by omega) (by omega)).mpr h9)
      refine lv_aload_n hx hb dX12_judge_17 rfl (lv_at hl 0 rfl) ?_
      refine r_get (v := .int (nI fa)) hx hb hown hq hE hP 15 350 tFX12_15 (by decide) pw_1594 rfl dX12_judge_18 ?_
      refine lv_if_ne (tgt := 28) hx hb dX12_judge_21 (by decide) (fun c25 => ?_) (fun c25 => ?_)
      · have n26 : ¬ (fa = 0) := fun h9 => c25 ((nI_eq (a := fa) (b := 0) (by omega) (by omega)).mpr h9)
        refine lv_iconst (v := 0) hx hb dX12_judge_28 (by decide) ?_
        have hz27 : 0 ≤ 1 := (by omega)
        have hz28 : fa ≤ fa := (by omega)
        have hz29 : fa ≤ fa + 15 := (by omega)
        have hz30 : fa + 200 * 0 ≤ 200 := (by omega)
        have hz31 : 1 ≤ 0 + fa := (by omega)
        have hz32 : 1 ≤ gd + fa := (by omega)
        have hz33 : If (0 < fa) (fa = fa) := (fun h9 => by omega)
        have hz34 : fa ≤ fa + 15 * (1 - gd) := (by omega)
        have hP : va_P G.1 pCl (mW G h0 a (upd (upd F 15 (nI fa)) 16 (F 16)) B) _ := mW_to (F := F) (l1 := [(15, (nI fa))]) (l2 := [(15, (nI fa)), (16, (F 16))]) (V := [(nI fa), (nI fa), (F 16)]) rfl rfl rfl hP
        have hD : va_D A (mW G h0 a (upd (upd F 15 (nI fa)) 16 (F 16)) B) := mW_D hD
        exact W.zret (v := 0) hx hb hr rfl (fun t9 ht9 hW9 => ⟨⟨_, (0, fa, (F 16)), rfl, ⟨rfl, hz27, hz28, hz29, hz30, hz31, hz32, hz33, hz34⟩, by rw [ht9]; exact hP, hD⟩, hS.F ht9⟩) hS.2.2 dX12_judge_29
      · have n35 : fa = 0 := (nI_eq (a := fa) (b := 0) (by omega) (by omega)).mp c25
        refine lv_iconst (v := 1) hx hb dX12_judge_24 (by decide) ?_
        refine lv_goto (tgt := 29) hx hb dX12_judge_25 (by decide) ?_
        have hz36 : 1 ≤ 1 := (by omega)
        have hz37 : fa ≤ fa := (by omega)
        have hz38 : fa ≤ fa + 15 := (by omega)
        have hz39 : fa + 200 * 1 ≤ 200 := (by omega)
        have hz40 : 1 ≤ 1 + fa := (by omega)
        have hz41 : 1 ≤ gd + fa := (by omega)
        have hz42 : If (0 < fa) (fa = fa) := (fun h9 => by omega)
        have hz43 : fa ≤ fa + 15 * (1 - gd) := (by omega)
        have hP : va_P G.1 pCl (mW G h0 a (upd (upd F 15 (nI fa)) 16 (F 16)) B) _ := mW_to (F := F) (l1 := [(15, (nI fa))]) (l2 := [(15, (nI fa)), (16, (F 16))]) (V := [(nI fa), (nI fa), (F 16)]) rfl rfl rfl hP
        have hD : va_D A (mW G h0 a (upd (upd F 15 (nI fa)) 16 (F 16)) B) := mW_D hD
        exact W.zret (v := 1) hx hb hr rfl (fun t9 ht9 hW9 => ⟨⟨_, (1, fa, (F 16)), rfl, ⟨rfl, hz36, hz37, hz38, hz39, hz40, hz41, hz42, hz43⟩, by rw [ht9]; exact hP, hD⟩, hS.F ht9⟩) hS.2.2 dX12_judge_29
    · have n44 : gd = 0 := (nI_eq (a := gd) (b := 0) (by omega) (by omega)).mp c23
      refine lv_aload_n hx hb dX12_judge_11 rfl (lv_at hl 0 rfl) ?_
      refine lv_iload_n hx hb dX12_judge_12 rfl (lv_at hl 2 rfl) ?_
      refine lv_iload_n hx hb dX12_judge_13 rfl (lv_at hl 3 rfl) ?_
      have hP : va_P G.1 pCl (mW G h0 a (upd (upd F 15 (nI fa)) 15 (nI fa)) B) _ := mW_to (F := F) (l1 := [(15, (nI fa))]) (l2 := [(15, (nI fa)), (15, (nI fa))]) (V := [(nI fa), (nI fa), (nI fa)]) rfl rfl rfl hP
      have hD : va_D A (mW G h0 a (upd (upd F 15 (nI fa)) 15 (nI fa)) B) := mW_D hD
      refine pc_V0 (G := G) (As := [.int (nI x), .int (nI i)]) (rest := []) hx hb hml hown hq hE hX pX0_al hP hD hS hA hl.1 (R_badAt l G h0 a (upd F 15 (nI fa)) B x i fa (by omega) (by omega) (by omega)) (gV pw_1597 pw_1598 pw_1599 pw_1523 pw_1593) hV_X12_badAt 0 9 rfl rfl rfl rfl (Nat.le_of_ble_eq_true rfl) dX12_judge_14 ⟨Nat.le_of_ble_eq_true rfl, Nat.le_of_ble_eq_true rfl⟩ ⟨Nat.le_of_ble_eq_true rfl, Nat.le_of_ble_eq_true rfl⟩ (fun v47 u45 H locs hw46 hP hD hS => ?_)
      obtain ⟨fa48, pl49⟩ := u45
      obtain ⟨hw46, h50, h51, h52, h53⟩ := hw46
      replace h50 : fa ≤ fa48 := h50
      replace h51 : fa48 ≤ fa + x := h51
      replace h52 : 0 < fa48 := h52
      replace h53 : If (0 < fa) (fa48 = fa) := h53
      obtain rfl : v47 = none := hw46
      have hP : va_P G.1 pCl (mW G h0 a (upd (upd F 15 (nI fa48)) 16 pl49) B) _ := mW_to (F := F) (l1 := [(15, (nI fa)), (15, (nI fa48)), (16, pl49)]) (l2 := [(15, (nI fa48)), (16, pl49)]) (V := [(nI fa48), (nI fa48), pl49, (nI fa48), pl49]) rfl rfl rfl hP
      have hD : va_D A (mW G h0 a (upd (upd F 15 (nI fa48)) 16 pl49) B) := mW_D hD
      refine W.widen (k := 0) (n := 0) (Nat.le_of_ble_eq_true rfl) (Nat.le_of_ble_eq_true rfl) ?_
      refine W.eq (g2 := F0 m 17 ls []) rfl ?_
      refine lv_aload_n hx hb dX12_judge_17 rfl (lv_at hl 0 rfl) ?_
      refine r_get (v := .int (nI fa48)) hx hb hown hq hE hP 15 350 tFX12_15 (by decide) pw_1594 rfl dX12_judge_18 ?_
      refine lv_if_ne (tgt := 28) hx hb dX12_judge_21 (by decide) (fun c54 => ?_) (fun c54 => ?_)
      · have n55 : ¬ (fa48 = 0) := fun h9 => c54 ((nI_eq (a := fa48) (b := 0) (by omega) (by omega)).mpr h9)
        refine lv_iconst (v := 0) hx hb dX12_judge_28 (by decide) ?_
        have hz56 : 0 ≤ 1 := (by omega)
        have hz57 : fa ≤ fa48 := (by omega)
        have hz58 : fa48 ≤ fa + 15 := (by omega)
        have hz59 : fa48 + 200 * 0 ≤ 200 := (by omega)
        have hz60 : 1 ≤ 0 + fa48 := (by omega)
        have hz61 : 1 ≤ gd + fa48 := (by omega)
        have hz62 : If (0 < fa) (fa48 = fa) := (fun h9 => by omega)
        have hz63 : fa48 ≤ fa + 15 * (1 - gd) := (by omega)
        have hP : va_P G.1 pCl (mW G h0 a (upd (upd F 15 (nI fa48)) 16 pl49) B) _ := hP
        have hD : va_D A (mW G h0 a (upd (upd F 15 (nI fa48)) 16 pl49) B) := mW_D hD
        exact W.zret (v := 0) hx hb hr rfl (fun t9 ht9 hW9 => ⟨⟨_, (0, fa48, pl49), rfl, ⟨rfl, hz56, hz57, hz58, hz59, hz60, hz61, hz62, hz63⟩, by rw [ht9]; exact hP, hD⟩, hS.F ht9⟩) hS.2.2 dX12_judge_29
      · have n64 : fa48 = 0 := (nI_eq (a := fa48) (b := 0) (by omega) (by omega)).mp c54
        refine lv_iconst (v := 1) hx hb dX12_judge_24 (by decide) ?_
        refine lv_goto (tgt := 29) hx hb dX12_judge_25 (by decide) ?_
        have hz65 : 1 ≤ 1 := (by omega)
        have hz66 : fa ≤ fa48 := (by omega)
        have hz67 : fa48 ≤ fa + 15 := (by omega)
        have hz68 : fa48 + 200 * 1 ≤ 200 := (by omega)
        have hz69 : 1 ≤ 1 + fa48 := (by omega)
        have hz70 : 1 ≤ gd + fa48 := (by omega)
        have hz71 : If (0 < fa) (fa48 = fa) := (fun h9 => by omega)
        have hz72 : fa48 ≤ fa + 15 * (1 - gd) := (by omega)
        have hP : va_P G.1 pCl (mW G h0 a (upd (upd F 15 (nI fa48)) 16 pl49) B) _ := hP
        have hD : va_D A (mW G h0 a (upd (upd F 15 (nI fa48)) 16 pl49) B) := mW_D hD
        exact W.zret (v := 1) hx hb hr rfl (fun t9 ht9 hW9 => ⟨⟨_, (1, fa48, pl49), rfl, ⟨rfl, hz65, hz66, hz67, hz68, hz69, hz70, hz71, hz72⟩, by rw [ht9]; exact hP, hD⟩, hS.F ht9⟩) hS.2.2 dX12_judge_29
theorem dX12_variableOf_0 : decode cX12_variableOf 0 = .ok (.iconst 0, 1) := by decide +kernel
theorem dX12_variableOf_1 : decode cX12_variableOf 1 = .ok (.istore_n 2, 1) := by decide +kernel
theorem dX12_variableOf_2 : decode cX12_variableOf 2 = .ok (.iload_n 2, 1) := by decide +kernel
theorem dX12_variableOf_3 : decode cX12_variableOf 3 = .ok (.aload_n 0, 1) := by decide +kernel
theorem dX12_variableOf_4 : decode cX12_variableOf 4 = .ok (.getfield 537, 3) := by decide +kernel
theorem dX12_variableOf_7 : decode cX12_variableOf 7 = .ok (.if_icmp .ge 21, 3) := by decide +kernel
theorem dX12_variableOf_28 : decode cX12_variableOf 28 = .ok (.iconst (-1), 1) := by decide +kernel
theorem dX12_variableOf_29 : decode cX12_variableOf 29 = .ok (.ireturn, 1) := by decide +kernel
theorem dX12_variableOf_10 : decode cX12_variableOf 10 = .ok (.aload_n 0, 1) := by decide +kernel
theorem dX12_variableOf_11 : decode cX12_variableOf 11 = .ok (.getfield 156, 3) := by decide +kernel
theorem dX12_variableOf_14 : decode cX12_variableOf 14 = .ok (.iload_n 2, 1) := by decide +kernel
theorem dX12_variableOf_15 : decode cX12_variableOf 15 = .ok (.iaload, 1) := by decide +kernel
theorem dX12_variableOf_16 : decode cX12_variableOf 16 = .ok (.iload_n 1, 1) := by decide +kernel
theorem dX12_variableOf_17 : decode cX12_variableOf 17 = .ok (.if_icmp .ne 5, 3) := by decide +kernel
theorem dX12_variableOf_22 : decode cX12_variableOf 22 = .ok (.iinc 2 1, 3) := by decide +kernel
theorem dX12_variableOf_25 : decode cX12_variableOf 25 = .ok (.goto (-23), 3) := by decide +kernel
theorem dX12_variableOf_20 : decode cX12_variableOf 20 = .ok (.iload_n 2, 1) := by decide +kernel
theorem dX12_variableOf_21 : decode cX12_variableOf 21 = .ok (.ireturn, 1) := by decide +kernel
set_option maxHeartbeats 2000000 in
set_option maxRecDepth 100000 in
/-- variableOf(name) -/
theorem R_variableOf (l : Launch) (G : pT) (h0 : Nat) (a : Nat → Nat) (F : Nat → Int32) (B : Nat → Nat → Int32) (x : Int32) (sc : Nat) (f : Nat → Int32) (hsc : sc ≤ 40) : PM l G pX0 yX12_variableOf cX12_variableOf 3 (some .int) ({ frames := 2, cells := 0, slots := 0, locals := 60 }) [.ref h0, .int x] (mW G h0 a (upd F 73 (nI sc)) (updA B 48 f)) (fun (v : Option Value) (u : Unit) => v = some (.int (dOf f x sc 0))) (fun u => (mW G h0 a (upd F 73 (nI sc)) (updA B 48 f))) := by
  intro sz
  refine Met.ofW (cc := cX12_variableOf) (maxL := 3) (ret := (some .int)) (by decide) rfl ?_
  intro p e s m args below meth c s₁ B9 hml hv
  obtain ⟨rfl, hsz, hP, hD0, hE, hX⟩ := hv
  have hx := B9.exec
  have hb := B9.bytes
  have hr := B9.returns
  have hts := atoms_spec (ws := Cond.code yX12_variableOf cX12_variableOf 3 (some .int) :: pw) B9.pre
  have hq : ∀ w ∈ pw, w.before _ s = true := fun w h => hts w (List.mem_cons_of_mem _ h)
  have hown : s.vm.findClass RX12 = some m.cls := findClass_of_methodNamed B9.named
  have hlocks := B9.notSynchronized
  subst hsz
  have hD := hD0.self (sz := s.heap.size)
  have hA : ∀ q : Nat, s.heap.size ≤ q → va_A (mW G h0 a (upd F 73 (nI sc)) (updA B 48 f)) s.heap.size q := fun q h => Or.inr h
  have hP : va_P G.1 pCl (mW G h0 a (upd F 73 (nI sc)) (updA B 48 f)) s.heap := hP
  generalize va_A (mW G h0 a (upd F 73 (nI sc)) (updA B 48 f)) s.heap.size = A at hD hE hA ⊢
  have hS : va_S A s.heap s.heap [] := va_S.rf
  have hl := lv_entry ([.ref h0, .int x]) (n := 3) (Nat.le_of_ble_eq_true rfl)
  rw [lg_entry_eq]
  generalize (lg_sl ([.ref h0, .int x]) ++ List.replicate (3 - (lg_sl ([.ref h0, .int x])).length) Slot.unset).toArray = ls at hl ⊢
  have hl : lv_has ls 3 [(0, .ref h0), (1, .int x)] := hl
  refine lv_iconst (v := 0) hx hb dX12_variableOf_0 (by decide) ?_
  refine lv_istore_n (lv' := [(2, .int 0), (0, .ref h0), (1, .int x)]) hx hb dX12_variableOf_1 rfl hl (by decide) rfl (fun ls hl => ?_)
  have loop_o : ∀ (n_o : Nat) (k2 : Nat) (H : Heap) (locs : List Loc) (ls : Array Slot), k2 ≤ sc → sc + 1 ≤ k2 + n_o → (dOf f x sc 0 = dOf f x (sc - k2) k2) → va_P G.1 pCl (mW G h0 a (upd F 73 (nI sc)) (updA B 48 f)) H → va_D A (mW G h0 a (upd F 73 (nI sc)) (updA B 48 f)) → va_S A s.heap H locs → lv_has ls 3 [(2, .int (nI k2)), (1, .int x), (0, .ref h0)] → W p l e (headSpec (Cond.code yX12_variableOf cX12_variableOf 3 (some .int) :: pw) ({ frames := 2, cells := 0, slots := 0, locals := 60 } : Room)).room s m ([.ref h0, .int x] : List Value).toArray below meth c H locs 0 0 (MQ below (pQ G A (fun (v : Option Value) (u : Unit) => v = some (.int (dOf f x sc 0))) (fun u => (mW G h0 a (upd F 73 (nI sc)) (updA B 48 f)))) ([.ref h0, .int x] : List Value).toArray s ({ frames := 2, cells := 0, slots := 0, locals := 60 } : Room).cells ({ frames := 2, cells := 0, slots := 0, locals := 60 } : Room).slots A) (F0 m 2 ls []) := by
    intro n_o
    induction n_o with
    | zero => intro k2 H locs ls hk_o hn_o; omega
    | succ n_o ih_o =>
      intro k2 H locs ls hk_o hn_o he hP hD hS hl
      refine lv_iload_n hx hb dX12_variableOf_2 rfl (lv_at hl 0 rfl) ?_
      refine lv_aload_n hx hb dX12_variableOf_3 rfl (lv_at hl 2 rfl) ?_
      refine r_get (v := .int (nI sc)) hx hb hown hq hE hP 73 537 tFX12_73 (by decide) pw_1795 rfl dX12_variableOf_4 ?_
      refine lv_icmp_ge (tgt := 28) hx hb dX12_variableOf_7 (by decide) (fun c1 => ?_) (fun c1 => ?_)
      · have n2 : sc ≤ k2 := (nI_leI (a := sc) (b := k2) (by omega) (by omega)).mp c1
        refine lv_iconst (v := (-1)) hx hb dX12_variableOf_28 (by decide) ?_
        have hP : va_P G.1 pCl (mW G h0 a (upd F 73 (nI sc)) (updA B 48 f)) _ := hP
        have hD : va_D A (mW G h0 a (upd F 73 (nI sc)) (updA B 48 f)) := mW_D hD
        exact W.iret (v := (-1)) hx hb hr (fun t9 ht9 hW9 => ⟨⟨_, (), rfl, (congrArg (fun z => some (Value.int z)) (dOf_end (by omega) he).symm), by rw [ht9]; exact hP, hD⟩, hS.F ht9⟩) hS.2.2 dX12_variableOf_29
      · have n3 : ¬ (sc ≤ k2) := fun h9 => c1 ((nI_leI (a := sc) (b := k2) (by omega) (by omega)).mpr h9)
        refine lv_aload_n hx hb dX12_variableOf_10 rfl (lv_at hl 2 rfl) ?_
        refine r_get (v := .ref (a 48)) hx hb hown hq hE hP 71 156 tFX12_71 (by decide) pw_1479 rfl dX12_variableOf_11 ?_
        refine lv_iload_n hx hb dX12_variableOf_14 rfl (lv_at hl 0 rfl) ?_
        refine r_ldi (f := f) (j := k2) hx hb hE hP 48 (ma_48 G a _) rfl (by omega) (by decide) dX12_variableOf_15 ?_
        refine lv_iload_n hx hb dX12_variableOf_16 rfl (lv_at hl 1 rfl) ?_
        refine lv_icmp_ne (tgt := 22) hx hb dX12_variableOf_17 (by decide) (fun c4 => ?_) (fun c4 => ?_)
        · refine lv_iinc (v := (nI (k2 + 1))) (lv' := [(2, .int (nI (k2 + 1))), (1, .int x), (0, .ref h0)]) hx hb dX12_variableOf_22 hl (k := 0) rfl (nI_1 k2) (by decide) rfl (fun ls hl => ?_)
          refine lv_goto (tgt := 2) hx hb dX12_variableOf_25 (by decide) ?_
          have hP : va_P G.1 pCl (mW G h0 a (upd F 73 (nI sc)) (updA B 48 f)) _ := hP
          have hD : va_D A (mW G h0 a (upd F 73 (nI sc)) (updA B 48 f)) := mW_D hD
          exact ih_o (k2 + 1) _ _ _ (by omega) (by omega) (dOf_go (by omega) c4 he) hP hD hS (lv_sub hl [0, 1, 2] rfl)
        · refine lv_iload_n hx hb dX12_variableOf_20 rfl (lv_at hl 0 rfl) ?_
          have hP : va_P G.1 pCl (mW G h0 a (upd F 73 (nI sc)) (updA B 48 f)) _ := hP
          have hD : va_D A (mW G h0 a (upd F 73 (nI sc)) (updA B 48 f)) := mW_D hD
          exact W.iret (v := (nI k2)) hx hb hr (fun t9 ht9 hW9 => ⟨⟨_, (), rfl, (congrArg (fun z => some (Value.int z)) (dOf_hit (by omega) c4 he).symm), by rw [ht9]; exact hP, hD⟩, hS.F ht9⟩) hS.2.2 dX12_variableOf_21
  have hP : va_P G.1 pCl (mW G h0 a (upd F 73 (nI sc)) (updA B 48 f)) _ := hP
  have hD : va_D A (mW G h0 a (upd F 73 (nI sc)) (updA B 48 f)) := mW_D hD
  exact loop_o (sc + 1) 0 _ _ _ (by omega) (by omega) (Eq.refl _) hP hD hS (lv_sub hl [0, 2, 1] rfl)
theorem dX12_fieldOf_0 : decode cX12_fieldOf 0 = .ok (.iconst 0, 1) := by decide +kernel
theorem dX12_fieldOf_1 : decode cX12_fieldOf 1 = .ok (.istore_n 3, 1) := by decide +kernel
theorem dX12_fieldOf_2 : decode cX12_fieldOf 2 = .ok (.iload_n 3, 1) := by decide +kernel
theorem dX12_fieldOf_3 : decode cX12_fieldOf 3 = .ok (.aload_n 0, 1) := by decide +kernel
theorem dX12_fieldOf_4 : decode cX12_fieldOf 4 = .ok (.getfield 413, 3) := by decide +kernel
theorem dX12_fieldOf_7 : decode cX12_fieldOf 7 = .ok (.if_icmp .ge 45, 3) := by decide +kernel
theorem dX12_fieldOf_52 : decode cX12_fieldOf 52 = .ok (.iconst (-1), 1) := by decide +kernel
theorem dX12_fieldOf_53 : decode cX12_fieldOf 53 = .ok (.ireturn, 1) := by decide +kernel
theorem dX12_fieldOf_10 : decode cX12_fieldOf 10 = .ok (.aload_n 0, 1) := by decide +kernel
theorem dX12_fieldOf_11 : decode cX12_fieldOf 11 = .ok (.getfield 111, 3) := by decide +kernel
theorem dX12_fieldOf_14 : decode cX12_fieldOf 14 = .ok (.iload_n 3, 1) := by decide +kernel
theorem dX12_fieldOf_15 : decode cX12_fieldOf 15 = .ok (.iaload, 1) := by decide +kernel
theorem dX12_fieldOf_16 : decode cX12_fieldOf 16 = .ok (.iload_n 2, 1) := by decide +kernel
theorem dX12_fieldOf_17 : decode cX12_fieldOf 17 = .ok (.if_icmp .ne 29, 3) := by decide +kernel
theorem dX12_fieldOf_46 : decode cX12_fieldOf 46 = .ok (.iinc 3 1, 3) := by decide +kernel
theorem dX12_fieldOf_49 : decode cX12_fieldOf 49 = .ok (.goto (-47), 3) := by decide +kernel
theorem dX12_fieldOf_20 : decode cX12_fieldOf 20 = .ok (.aload_n 0, 1) := by decide +kernel
theorem dX12_fieldOf_21 : decode cX12_fieldOf 21 = .ok (.getfield 108, 3) := by decide +kernel
theorem dX12_fieldOf_24 : decode cX12_fieldOf 24 = .ok (.iload_n 3, 1) := by decide +kernel
theorem dX12_fieldOf_25 : decode cX12_fieldOf 25 = .ok (.iaload, 1) := by decide +kernel
theorem dX12_fieldOf_26 : decode cX12_fieldOf 26 = .ok (.iload_n 1, 1) := by decide +kernel
theorem dX12_fieldOf_27 : decode cX12_fieldOf 27 = .ok (.if_icmp .eq 17, 3) := by decide +kernel
theorem dX12_fieldOf_44 : decode cX12_fieldOf 44 = .ok (.iload_n 3, 1) := by decide +kernel
theorem dX12_fieldOf_45 : decode cX12_fieldOf 45 = .ok (.ireturn, 1) := by decide +kernel
theorem dX12_fieldOf_30 : decode cX12_fieldOf 30 = .ok (.aload_n 0, 1) := by decide +kernel
theorem dX12_fieldOf_31 : decode cX12_fieldOf 31 = .ok (.aload_n 0, 1) := by decide +kernel
theorem dX12_fieldOf_32 : decode cX12_fieldOf 32 = .ok (.getfield 108, 3) := by decide +kernel
theorem dX12_fieldOf_35 : decode cX12_fieldOf 35 = .ok (.iload_n 3, 1) := by decide +kernel
theorem dX12_fieldOf_36 : decode cX12_fieldOf 36 = .ok (.iaload, 1) := by decide +kernel
theorem dX12_fieldOf_37 : decode cX12_fieldOf 37 = .ok (.iload_n 1, 1) := by decide +kernel
theorem dX12_fieldOf_38 : decode cX12_fieldOf 38 = .ok (.invokevirtual 518, 3) := by decide +kernel
theorem dX12_fieldOf_41 : decode cX12_fieldOf 41 = .ok (.ifCond .eq 5, 3) := by decide +kernel
set_option maxHeartbeats 2000000 in
set_option maxRecDepth 100000 in
/-- fieldOf(k, name) -/
theorem R_fieldOf (l : Launch) (G : pT) (h0 : Nat) (a : Nat → Nat) (F : Nat → Int32) (B : Nat → Nat → Int32) (k9 : Nat) (dc : Nat) (fd : Nat) (x : Int32) (hk9 : k9 < dc) (hdc : dc ≤ 37) (hfd : fd ≤ 620) (hbi : bitsM (B 31)) (hfo : ∀ f : Nat, f < fd → ∃ d : Nat, B 32 f = nI d ∧ d < dc) : PM l G pX0 yX12_fieldOf cX12_fieldOf 4 (some .int) ({ frames := 3, cells := 0, slots := 0, locals := 82 }) [.ref h0, .int (nI k9), .int x] (mW G h0 a (upd F 44 (nI fd)) B) (fun (v : Option Value) (u : Int32) => v = some (.int u) ∧ (FldQ B dc fd k9 x u)) (fun u => (mW G h0 a (upd F 44 (nI fd)) B)) := by
  intro sz
  refine Met.ofW (cc := cX12_fieldOf) (maxL := 4) (ret := (some .int)) (by decide) rfl ?_
  intro p e s m args below meth c s₁ B9 hml hv
  obtain ⟨rfl, hsz, hP, hD0, hE, hX⟩ := hv
  have hx := B9.exec
  have hb := B9.bytes
  have hr := B9.returns
  have hts := atoms_spec (ws := Cond.code yX12_fieldOf cX12_fieldOf 4 (some .int) :: pw) B9.pre
  have hq : ∀ w ∈ pw, w.before _ s = true := fun w h => hts w (List.mem_cons_of_mem _ h)
  have hown : s.vm.findClass RX12 = some m.cls := findClass_of_methodNamed B9.named
  have hlocks := B9.notSynchronized
  subst hsz
  have hD := hD0.self (sz := s.heap.size)
  have hA : ∀ q : Nat, s.heap.size ≤ q → va_A (mW G h0 a (upd F 44 (nI fd)) B) s.heap.size q := fun q h => Or.inr h
  have hP : va_P G.1 pCl (mW G h0 a (upd F 44 (nI fd)) B) s.heap := hP
  generalize va_A (mW G h0 a (upd F 44 (nI fd)) B) s.heap.size = A at hD hE hA ⊢
  have hS : va_S A s.heap s.heap [] := va_S.rf
  have hl := lv_entry ([.ref h0, .int (nI k9), .int x]) (n := 4) (Nat.le_of_ble_eq_true rfl)
  rw [lg_entry_eq]
  generalize (lg_sl ([.ref h0, .int (nI k9), .int x]) ++ List.replicate (4 - (lg_sl ([.ref h0, .int (nI k9), .int x])).length) Slot.unset).toArray = ls at hl ⊢
  have hl : lv_has ls 4 [(0, .ref h0), (1, .int (nI k9)), (2, .int x)] := hl
  refine lv_iconst (v := 0) hx hb dX12_fieldOf_0 (by decide) ?_
  refine lv_istore_n (lv' := [(3, .int 0), (0, .ref h0), (1, .int (nI k9)), (2, .int x)]) hx hb dX12_fieldOf_1 rfl hl (by decide) rfl (fun ls hl => ?_)
  have loop_o : ∀ (n_o : Nat) (f2 : Nat) (H : Heap) (locs : List Loc) (ls : Array Slot), f2 ≤ fd → fd + 1 ≤ f2 + n_o → va_P G.1 pCl (mW G h0 a (upd F 44 (nI fd)) B) H → va_D A (mW G h0 a (upd F 44 (nI fd)) B) → va_S A s.heap H locs → lv_has ls 4 [(3, .int (nI f2)), (2, .int x), (1, .int (nI k9)), (0, .ref h0)] → W p l e (headSpec (Cond.code yX12_fieldOf cX12_fieldOf 4 (some .int) :: pw) ({ frames := 3, cells := 0, slots := 0, locals := 82 } : Room)).room s m ([.ref h0, .int (nI k9), .int x] : List Value).toArray below meth c H locs 0 0 (MQ below (pQ G A (fun (v : Option Value) (u : Int32) => v = some (.int u) ∧ (FldQ B dc fd k9 x u)) (fun u => (mW G h0 a (upd F 44 (nI fd)) B))) ([.ref h0, .int (nI k9), .int x] : List Value).toArray s ({ frames := 3, cells := 0, slots := 0, locals := 82 } : Room).cells ({ frames := 3, cells := 0, slots := 0, locals := 82 } : Room).slots A) (F0 m 2 ls []) := by
    intro n_o
    induction n_o with
    | zero => intro f2 H locs ls hk_o hn_o; omega
    | succ n_o ih_o =>
      intro f2 H locs ls hk_o hn_o hP hD hS hl
      refine lv_iload_n hx hb dX12_fieldOf_2 rfl (lv_at hl 0 rfl) ?_
      refine lv_aload_n hx hb dX12_fieldOf_3 rfl (lv_at hl 3 rfl) ?_
      refine r_get (v := .int (nI fd)) hx hb hown hq hE hP 44 413 tFX12_44 (by decide) pw_1727 rfl dX12_fieldOf_4 ?_
      refine lv_icmp_ge (tgt := 52) hx hb dX12_fieldOf_7 (by decide) (fun c1 => ?_) (fun c1 => ?_)
      · have n2 : fd ≤ f2 := (nI_leI (a := fd) (b := f2) (by omega) (by omega)).mp c1
        refine lv_iconst (v := (-1)) hx hb dX12_fieldOf_52 (by decide) ?_
        have hz3 : FldQ B dc fd k9 x ((-1) : Int32) := (Or.inl rfl)
        have hP : va_P G.1 pCl (mW G h0 a (upd F 44 (nI fd)) B) _ := hP
        have hD : va_D A (mW G h0 a (upd F 44 (nI fd)) B) := mW_D hD
        exact W.iret (v := (-1)) hx hb hr (fun t9 ht9 hW9 => ⟨⟨_, ((-1) : Int32), rfl, ⟨rfl, hz3⟩, by rw [ht9]; exact hP, hD⟩, hS.F ht9⟩) hS.2.2 dX12_fieldOf_53
      · have n4 : ¬ (fd ≤ f2) := fun h9 => c1 ((nI_leI (a := fd) (b := f2) (by omega) (by omega)).mpr h9)
        refine lv_aload_n hx hb dX12_fieldOf_10 rfl (lv_at hl 3 rfl) ?_
        refine r_get (v := .ref (a 33)) hx hb hown hq hE hP 46 111 tFX12_46 (by decide) pw_1464 rfl dX12_fieldOf_11 ?_
        refine lv_iload_n hx hb dX12_fieldOf_14 rfl (lv_at hl 0 rfl) ?_
        refine r_ldi (f := (B 33)) (j := f2) hx hb hE hP 33 (ma_33 G a _) rfl (by omega) (by decide) dX12_fieldOf_15 ?_
        refine lv_iload_n hx hb dX12_fieldOf_16 rfl (lv_at hl 1 rfl) ?_
        refine lv_icmp_ne (tgt := 46) hx hb dX12_fieldOf_17 (by decide) (fun c5 => ?_) (fun c5 => ?_)
        · refine lv_iinc (v := (nI (f2 + 1))) (lv' := [(3, .int (nI (f2 + 1))), (2, .int x), (1, .int (nI k9)), (0, .ref h0)]) hx hb dX12_fieldOf_46 hl (k := 0) rfl (nI_1 f2) (by decide) rfl (fun ls hl => ?_)
          refine lv_goto (tgt := 2) hx hb dX12_fieldOf_49 (by decide) ?_
          have hP : va_P G.1 pCl (mW G h0 a (upd F 44 (nI fd)) B) _ := hP
          have hD : va_D A (mW G h0 a (upd F 44 (nI fd)) B) := mW_D hD
          exact ih_o (f2 + 1) _ _ _ (by omega) (by omega) hP hD hS (lv_sub hl [0, 1, 2, 3] rfl)
        · refine lv_aload_n hx hb dX12_fieldOf_20 rfl (lv_at hl 3 rfl) ?_
          refine r_get (v := .ref (a 32)) hx hb hown hq hE hP 45 108 tFX12_45 (by decide) pw_1463 rfl dX12_fieldOf_21 ?_
          refine lv_iload_n hx hb dX12_fieldOf_24 rfl (lv_at hl 0 rfl) ?_
          refine r_ldi (f := (B 32)) (j := f2) hx hb hE hP 32 (ma_32 G a _) rfl (by omega) (by decide) dX12_fieldOf_25 ?_
          obtain ⟨d6, e7, h8⟩ := hfo f2 (by omega)
          refine lv_topi (fun x9 e10 => ?_)
          obtain rfl : x9 = nI d6 := e10.trans e7
          refine lv_iload_n hx hb dX12_fieldOf_26 rfl (lv_at hl 2 rfl) ?_
          refine lv_icmp_eq (tgt := 44) hx hb dX12_fieldOf_27 (by decide) (fun c11 => ?_) (fun c11 => ?_)
          · have n12 : d6 = k9 := (nI_eq (a := d6) (b := k9) (by omega) (by omega)).mp c11
            refine lv_iload_n hx hb dX12_fieldOf_44 rfl (lv_at hl 0 rfl) ?_
            have hz13 : FldQ B dc fd k9 x (nI f2) := (Or.inr ⟨f2, rfl, by omega, c5, (Or.inl (by rw [e7]; exact c11))⟩)
            have hP : va_P G.1 pCl (mW G h0 a (upd F 44 (nI fd)) B) _ := hP
            have hD : va_D A (mW G h0 a (upd F 44 (nI fd)) B) := mW_D hD
            exact W.iret (v := (nI f2)) hx hb hr (fun t9 ht9 hW9 => ⟨⟨_, (nI f2), rfl, ⟨rfl, hz13⟩, by rw [ht9]; exact hP, hD⟩, hS.F ht9⟩) hS.2.2 dX12_fieldOf_45
          · have n14 : ¬ (d6 = k9) := fun h9 => c11 ((nI_eq (a := d6) (b := k9) (by omega) (by omega)).mpr h9)
            refine lv_aload_n hx hb dX12_fieldOf_30 rfl (lv_at hl 3 rfl) ?_
            refine lv_aload_n hx hb dX12_fieldOf_31 rfl (lv_at hl 3 rfl) ?_
            refine r_get (v := .ref (a 32)) hx hb hown hq hE hP 45 108 tFX12_45 (by decide) pw_1463 rfl dX12_fieldOf_32 ?_
            refine lv_iload_n hx hb dX12_fieldOf_35 rfl (lv_at hl 0 rfl) ?_
            refine r_ldi (f := (B 32)) (j := f2) hx hb hE hP 32 (ma_32 G a _) rfl (by omega) (by decide) dX12_fieldOf_36 ?_
            refine lv_topi (fun x15 e16 => ?_)
            obtain rfl : x15 = nI d6 := e16.trans e7
            refine lv_iload_n hx hb dX12_fieldOf_37 rfl (lv_at hl 2 rfl) ?_
            have hP : va_P G.1 pCl (mW G h0 a (upd F 44 (nI fd)) (updA B 31 (B 31))) _ := mW_to (F := F) (l1 := [(44, (nI fd))]) (l2 := [(44, (nI fd))]) (V := [(nI fd), (nI fd)]) rfl rfl (show B = (updA B 31 (B 31)) from updsA_eq2 (F := B) (l1 := []) (l2 := [(31, (B 31))]) (V := [(B 31)]) rfl rfl) hP
            have hD : va_D A (mW G h0 a (upd F 44 (nI fd)) (updA B 31 (B 31))) := mW_D hD
            refine pc_V0 (G := G) (As := [.int (nI d6), .int (nI k9)]) (rest := []) hx hb hml hown hq hE hX pX0_al hP hD hS hA hl.1 (R_isAbove l G h0 a (upd F 44 (nI fd)) B d6 k9 (B 31) (by omega) hbi) (gV pw_1772 pw_1773 pw_1774 pw_1523 pw_1760) hV_X12_isAbove 0 9 rfl rfl rfl rfl (Nat.le_of_ble_eq_true rfl) dX12_fieldOf_38 ⟨Nat.le_of_ble_eq_true rfl, Nat.le_of_ble_eq_true rfl⟩ ⟨Nat.le_of_ble_eq_true rfl, Nat.le_of_ble_eq_true rfl⟩ (fun v19 u17 H locs hw18 hP hD hS => ?_)
            obtain rfl : v19 = some (.int ((B 31) (40 * d6 + k9))) := hw18
            have hP : va_P G.1 pCl (mW G h0 a (upd F 44 (nI fd)) B) _ := mW_to (F := F) (l1 := [(44, (nI fd))]) (l2 := [(44, (nI fd))]) (V := [(nI fd), (nI fd)]) rfl rfl (show (updA B 31 (B 31)) = B from updsA_eq2 (F := B) (l1 := [(31, (B 31))]) (l2 := []) (V := [(B 31)]) rfl rfl) hP
            have hD : va_D A (mW G h0 a (upd F 44 (nI fd)) B) := mW_D hD
            refine W.widen (k := 0) (n := 0) (Nat.le_of_ble_eq_true rfl) (Nat.le_of_ble_eq_true rfl) ?_
            refine W.eq (g2 := F0 m 41 ls [.int ((B 31) (40 * d6 + k9))]) rfl ?_
            refine lv_if_eq (tgt := 46) hx hb dX12_fieldOf_41 (by decide) (fun c20 => ?_) (fun c20 => ?_)
            · refine lv_iinc (v := (nI (f2 + 1))) (lv' := [(3, .int (nI (f2 + 1))), (2, .int x), (1, .int (nI k9)), (0, .ref h0)]) hx hb dX12_fieldOf_46 hl (k := 0) rfl (nI_1 f2) (by decide) rfl (fun ls hl => ?_)
              refine lv_goto (tgt := 2) hx hb dX12_fieldOf_49 (by decide) ?_
              have hP : va_P G.1 pCl (mW G h0 a (upd F 44 (nI fd)) B) _ := hP
              have hD : va_D A (mW G h0 a (upd F 44 (nI fd)) B) := mW_D hD
              exact ih_o (f2 + 1) _ _ _ (by omega) (by omega) hP hD hS (lv_sub hl [0, 1, 2, 3] rfl)
            · refine lv_iload_n hx hb dX12_fieldOf_44 rfl (lv_at hl 0 rfl) ?_
              have hz21 : FldQ B dc fd k9 x (nI f2) := (Or.inr ⟨f2, rfl, by omega, c5, (Or.inr ⟨d6, e7, by omega, bitsM.one hbi (by omega) c20⟩)⟩)
              have hP : va_P G.1 pCl (mW G h0 a (upd F 44 (nI fd)) B) _ := hP
              have hD : va_D A (mW G h0 a (upd F 44 (nI fd)) B) := mW_D hD
              exact W.iret (v := (nI f2)) hx hb hr (fun t9 ht9 hW9 => ⟨⟨_, (nI f2), rfl, ⟨rfl, hz21⟩, by rw [ht9]; exact hP, hD⟩, hS.F ht9⟩) hS.2.2 dX12_fieldOf_45
  have hP : va_P G.1 pCl (mW G h0 a (upd F 44 (nI fd)) B) _ := hP
  have hD : va_D A (mW G h0 a (upd F 44 (nI fd)) B) := mW_D hD
  exact loop_o (fd + 1) 0 _ _ _ (by omega) (by omega) hP hD hS (lv_sub hl [0, 3, 2, 1] rfl)
