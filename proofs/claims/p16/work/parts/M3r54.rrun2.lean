theorem TyC.ba {dc x : Nat} (h : TyC dc x) (h1 : 1000 ≤ x) (h2 : x < 2000) (hd : dc ≤ 37) : baN dc (x - 1000) := by
  unfold TyC at h; unfold baN; omega
theorem baN.le {dc x : Nat} (h : baN dc x) (hd : dc ≤ 37) : x ≤ 47 ∧ 1 ≤ x := by
  unfold baN at h; omega
theorem baN.cl {dc x : Nat} (h : baN dc x) (h1 : 10 ≤ x) : x < 10 + dc := by
  unfold baN at h; omega
def baR (dc x : Nat) : Prop := baN dc x ∨ (1000 ≤ x ∧ baN dc (x - 1000))
theorem baR.le {dc x : Nat} (h : baR dc x) (hd : dc ≤ 37) : x ≤ 1047 ∧ 1 ≤ x := by
  unfold baR baN at h; omega
theorem baR.cl {dc x : Nat} (h : baR dc x) (h1 : 10 ≤ x) (h2 : x < 1000) : x < 10 + dc := by
  unfold baR baN at h; omega
theorem fit_1k {da : Nat → Int32} {s t : Nat} (h1 : 10 ≤ s) (h2 : s < 1000) (h3 : 10 ≤ t) (h4 : t < 1000) (e : fitF da s t = 1) : fitF da (1000 + s) (1000 + t) = 1 := by
  by_cases q : s = t
  · exact fit_e (by omega) (by omega) (by omega)
  · rw [fit_rrE (by omega) (by omega) (by omega) (by omega) (by omega), Nat.add_sub_cancel_left, Nat.add_sub_cancel_left]; exact e
theorem dX12_isOf_0 : decode cX12_isOf 0 = .ok (.aload_n 0, 1) := by decide +kernel
theorem dX12_isOf_1 : decode cX12_isOf 1 = .ok (.iload_n 1, 1) := by decide +kernel
theorem dX12_isOf_2 : decode cX12_isOf 2 = .ok (.invokevirtual 745, 3) := by decide +kernel
theorem dX12_isOf_5 : decode cX12_isOf 5 = .ok (.istore_n 3, 1) := by decide +kernel
theorem dX12_isOf_6 : decode cX12_isOf 6 = .ok (.iload_n 2, 1) := by decide +kernel
theorem dX12_isOf_7 : decode cX12_isOf 7 = .ok (.invokestatic 531, 3) := by decide +kernel
theorem dX12_isOf_10 : decode cX12_isOf 10 = .ok (.ifCond .ne 49, 3) := by decide +kernel
theorem dX12_isOf_59 : decode cX12_isOf 59 = .ok (.iload_n 3, 1) := by decide +kernel
theorem dX12_isOf_60 : decode cX12_isOf 60 = .ok (.iconst (-1), 1) := by decide +kernel
theorem dX12_isOf_61 : decode cX12_isOf 61 = .ok (.if_icmp .eq 5, 3) := by decide +kernel
theorem dX12_isOf_64 : decode cX12_isOf 64 = .ok (.iconst 0, 1) := by decide +kernel
theorem dX12_isOf_65 : decode cX12_isOf 65 = .ok (.ireturn, 1) := by decide +kernel
theorem dX12_isOf_13 : decode cX12_isOf 13 = .ok (.iload_n 2, 1) := by decide +kernel
theorem dX12_isOf_14 : decode cX12_isOf 14 = .ok (.bipush 10, 2) := by decide +kernel
theorem dX12_isOf_16 : decode cX12_isOf 16 = .ok (.isub, 1) := by decide +kernel
theorem dX12_isOf_17 : decode cX12_isOf 17 = .ok (.istore 4, 2) := by decide +kernel
theorem dX12_isOf_19 : decode cX12_isOf 19 = .ok (.iload_n 3, 1) := by decide +kernel
theorem dX12_isOf_20 : decode cX12_isOf 20 = .ok (.iconst (-1), 1) := by decide +kernel
theorem dX12_isOf_21 : decode cX12_isOf 21 = .ok (.if_icmp .ne 16, 3) := by decide +kernel
theorem dX12_isOf_37 : decode cX12_isOf 37 = .ok (.iload_n 3, 1) := by decide +kernel
theorem dX12_isOf_38 : decode cX12_isOf 38 = .ok (.iload 4, 2) := by decide +kernel
theorem dX12_isOf_40 : decode cX12_isOf 40 = .ok (.if_icmp .eq 13, 3) := by decide +kernel
theorem dX12_isOf_53 : decode cX12_isOf 53 = .ok (.iconst 1, 1) := by decide +kernel
theorem dX12_isOf_54 : decode cX12_isOf 54 = .ok (.goto 4, 3) := by decide +kernel
theorem dX12_isOf_58 : decode cX12_isOf 58 = .ok (.ireturn, 1) := by decide +kernel
theorem dX12_isOf_43 : decode cX12_isOf 43 = .ok (.aload_n 0, 1) := by decide +kernel
theorem dX12_isOf_44 : decode cX12_isOf 44 = .ok (.iload 4, 2) := by decide +kernel
theorem dX12_isOf_46 : decode cX12_isOf 46 = .ok (.iload_n 3, 1) := by decide +kernel
theorem dX12_isOf_47 : decode cX12_isOf 47 = .ok (.invokevirtual 518, 3) := by decide +kernel
theorem dX12_isOf_50 : decode cX12_isOf 50 = .ok (.ifCond .eq 7, 3) := by decide +kernel
theorem dX12_isOf_57 : decode cX12_isOf 57 = .ok (.iconst 0, 1) := by decide +kernel
theorem hV_X12_classOf : yX12_classOf.cls = RX12 ∧ yX12_classOf.cls ≠ "java/lang/invoke/MethodHandle" ∧ yX12_classOf.cls ≠ "java/lang/invoke/VarHandle" ∧ (parseMethodDescriptor yX12_classOf.desc).map (fun d => d.parameters.length) = some 1 := by decide +kernel
set_option maxHeartbeats 2000000 in
set_option maxRecDepth 100000 in
/-- isOf(v, type) -/
theorem R_isOfC (l : Launch) (G : pT) (h0 : Nat) (a : Nat → Nat) (F : Nat → Int32) (B : Nat → Nat → Int32) (x : Nat) (y : Nat) (dc : Nat) (kc : Nat) (oc : Nat → Int32) (os : Nat → Int32) (da : Nat → Int32) (hx9 : 1 ≤ x ∧ (x ≤ 3000 ∨ (4001 ≤ x ∧ x ≤ 4006))) (hy : TyC dc y) (hy1 : 10 ≤ y ∧ y < 2000) (hdc : dc ≤ 37) (hbi : ∀ i : Nat, i < 1600 → da i = 0 ∨ da i = 1) (hcl : clF oc x = nI kc) (hkc : kc < dc) : PM l G pX0 yX12_isOf cX12_isOf 6 (some .boolean) ({ frames := 3, cells := 0, slots := 0, locals := 82 }) [.ref h0, .int (nI x), .int (nI y)] (mW G h0 a F (updA (updA (updA B 31 da) 55 oc) 56 os)) (fun (v : Option Value) (u : Nat) => v = some (.int (nI u)) ∧ (u ≤ 1) ∧ (If (u = 1) (fitF da (10 + kc) y = 1))) (fun u => (mW G h0 a F (updA (updA (updA B 31 da) 55 oc) 56 os))) := by
  intro sz
  refine Met.ofW (cc := cX12_isOf) (maxL := 6) (ret := (some .boolean)) (by decide) rfl ?_
  intro p e s m args below meth c s₁ B9 hml hv
  obtain ⟨rfl, hsz, hP, hD0, hE, hX⟩ := hv
  have hx := B9.exec
  have hb := B9.bytes
  have hr := B9.returns
  have hts := atoms_spec (ws := Cond.code yX12_isOf cX12_isOf 6 (some .boolean) :: pw) B9.pre
  have hq : ∀ w ∈ pw, w.before _ s = true := fun w h => hts w (List.mem_cons_of_mem _ h)
  have hown : s.vm.findClass RX12 = some m.cls := findClass_of_methodNamed B9.named
  have hlocks := B9.notSynchronized
  subst hsz
  have hD := hD0.self (sz := s.heap.size)
  have hA : ∀ q : Nat, s.heap.size ≤ q → va_A (mW G h0 a F (updA (updA (updA B 31 da) 55 oc) 56 os)) s.heap.size q := fun q h => Or.inr h
  have hP : va_P G.1 pCl (mW G h0 a F (updA (updA (updA B 31 da) 55 oc) 56 os)) s.heap := hP
  generalize va_A (mW G h0 a F (updA (updA (updA B 31 da) 55 oc) 56 os)) s.heap.size = A at hD hE hA ⊢
  have hS : va_S A s.heap s.heap [] := va_S.rf
  have hl := lv_entry ([.ref h0, .int (nI x), .int (nI y)]) (n := 6) (Nat.le_of_ble_eq_true rfl)
  rw [lg_entry_eq]
  generalize (lg_sl ([.ref h0, .int (nI x), .int (nI y)]) ++ List.replicate (6 - (lg_sl ([.ref h0, .int (nI x), .int (nI y)])).length) Slot.unset).toArray = ls at hl ⊢
  have hl : lv_has ls 6 [(0, .ref h0), (1, .int (nI x)), (2, .int (nI y))] := hl
  have hy5 := TyC.le hy hdc
  refine lv_aload_n hx hb dX12_isOf_0 rfl (lv_at hl 0 rfl) ?_
  refine lv_iload_n hx hb dX12_isOf_1 rfl (lv_at hl 1 rfl) ?_
  have hP : va_P G.1 pCl (mW G h0 a F (updA (updA (updA (updA B 31 da) 55 oc) 56 os) 55 oc)) _ := hP
  have hD : va_D A (mW G h0 a F (updA (updA (updA (updA B 31 da) 55 oc) 56 os) 55 oc)) := mW_D hD
  refine pc_V0 (G := G) (As := [.int (nI x)]) (rest := []) hx hb hml hown hq hE hX pX0_al hP hD hS hA hl.1 (R_classOf l G h0 a F (updA (updA (updA B 31 da) 55 oc) 56 os) x oc hx9) (gV pw_1995 pw_1996 pw_1997 pw_1523 pw_1994) hV_X12_classOf 0 9 rfl rfl rfl rfl (Nat.le_of_ble_eq_true rfl) dX12_isOf_2 ⟨Nat.le_of_ble_eq_true rfl, Nat.le_of_ble_eq_true rfl⟩ ⟨Nat.le_of_ble_eq_true rfl, Nat.le_of_ble_eq_true rfl⟩ (fun v3 u1 H locs hw2 hP hD hS => ?_)
  obtain rfl : v3 = some (.int (clF oc x)) := hw2
  have hP : va_P G.1 pCl (mW G h0 a F (updA (updA (updA B 31 da) 55 oc) 56 os)) _ := hP
  have hD : va_D A (mW G h0 a F (updA (updA (updA B 31 da) 55 oc) 56 os)) := mW_D hD
  refine W.widen (k := 0) (n := 0) (Nat.le_of_ble_eq_true rfl) (Nat.le_of_ble_eq_true rfl) ?_
  refine W.eq (g2 := F0 m 5 ls [.int (clF oc x)]) rfl ?_
  refine lv_topi (fun x4 e5 => ?_)
  obtain rfl : x4 = nI kc := e5.trans hcl
  refine lv_istore_n (lv' := [(3, .int (nI kc)), (0, .ref h0), (1, .int (nI x)), (2, .int (nI y))]) hx hb dX12_isOf_5 rfl hl (by decide) rfl (fun ls hl => ?_)
  refine lv_iload_n hx hb dX12_isOf_6 rfl (lv_at hl 3 rfl) ?_
  refine pc_SN (G := G) (As := [.int (nI y)]) (rest := []) hx hb hml hown hq hE hX pX0_al hP hS hA hl.1 (s_isRow l G y (by omega)) (gS pw_1788 pw_1789 pw_1523 pw_1780) hS_X12_isRow rfl (Nat.le_of_ble_eq_true rfl) dX12_isOf_7 ⟨Nat.le_of_ble_eq_true rfl, Nat.le_of_ble_eq_true rfl⟩ ⟨Nat.le_of_ble_eq_true rfl, Nat.le_of_ble_eq_true rfl⟩ (fun v8 u6 H locs hw7 hP hS => ?_)
  obtain ⟨r9, rfl, h10, h11, h12⟩ := hw7
  refine W.widen (k := 0) (n := 0) (Nat.le_of_ble_eq_true rfl) (Nat.le_of_ble_eq_true rfl) ?_
  refine W.eq (g2 := F0 m 10 ls [.int (nI r9)]) rfl ?_
  refine lv_if_ne (tgt := 59) hx hb dX12_isOf_10 (by decide) (fun c13 => ?_) (fun c13 => ?_)
  · have n14 : ¬ (r9 = 0) := fun h9 => c13 ((nI_eq (a := r9) (b := 0) (by omega) (by omega)).mpr h9)
    refine lv_iload_n hx hb dX12_isOf_59 rfl (lv_at hl 0 rfl) ?_
    refine lv_iconst (v := (-1)) hx hb dX12_isOf_60 (by decide) ?_
    refine lv_icmp_eq (tgt := 66) hx hb dX12_isOf_61 (by decide) (fun c15 => absurd c15 (nI_m1 (by omega))) (fun c15 => ?_)
    refine lv_iconst (v := 0) hx hb dX12_isOf_64 (by decide) ?_
    have hz16 : 0 ≤ 1 := (by omega)
    have hz17 : If (0 = 1) (fitF da (10 + kc) y = 1) := (fun e => absurd e (by decide))
    have hP : va_P G.1 pCl (mW G h0 a F (updA (updA (updA B 31 da) 55 oc) 56 os)) _ := hP
    have hD : va_D A (mW G h0 a F (updA (updA (updA B 31 da) 55 oc) 56 os)) := mW_D hD
    exact W.zret (v := 0) hx hb hr rfl (fun t9 ht9 hW9 => ⟨⟨_, 0, rfl, ⟨rfl, hz16, hz17⟩, by rw [ht9]; exact hP, hD⟩, hS.F ht9⟩) hS.2.2 dX12_isOf_65
  · have n18 : r9 = 0 := (nI_eq (a := r9) (b := 0) (by omega) (by omega)).mp c13
    have h19 : y < 10 + dc := TyC.cls hy (by omega) (by omega)
    refine lv_iload_n hx hb dX12_isOf_13 rfl (lv_at hl 3 rfl) ?_
    refine lv_bipush (v := 10) hx hb dX12_isOf_14 (by decide) ?_
    refine lv_isub hx hb dX12_isOf_16 ?_
    refine lv_topi (fun x20 e21 => ?_)
    obtain rfl : x20 = nI (y - 10) := e21.trans (nI_subN (a := 10) (b := y) (by omega))
    refine lv_istore (lv' := [(4, .int (nI (y - 10))), (3, .int (nI kc)), (0, .ref h0), (1, .int (nI x)), (2, .int (nI y))]) hx hb dX12_isOf_17 hl (by decide) rfl (fun ls hl => ?_)
    refine lv_iload_n hx hb dX12_isOf_19 rfl (lv_at hl 1 rfl) ?_
    refine lv_iconst (v := (-1)) hx hb dX12_isOf_20 (by decide) ?_
    refine lv_icmp_ne (tgt := 37) hx hb dX12_isOf_21 (by decide) (fun c22 => ?_) (fun c22 => absurd c22 (nI_m1 (by omega)))
    refine lv_iload_n hx hb dX12_isOf_37 rfl (lv_at hl 1 rfl) ?_
    refine lv_iload hx hb dX12_isOf_38 (lv_at hl 0 rfl) ?_
    refine lv_icmp_eq (tgt := 53) hx hb dX12_isOf_40 (by decide) (fun c23 => ?_) (fun c23 => ?_)
    · have n24 : kc = (y - 10) := (nI_eq (a := kc) (b := (y - 10)) (by omega) (by omega)).mp c23
      refine lv_iconst (v := 1) hx hb dX12_isOf_53 (by decide) ?_
      refine lv_goto (tgt := 58) hx hb dX12_isOf_54 (by decide) ?_
      have hz25 : 1 ≤ 1 := (by omega)
      have hz26 : If (1 = 1) (fitF da (10 + kc) y = 1) := (fun _ => (fit_e (by omega) (by omega) (by omega)))
      have hP : va_P G.1 pCl (mW G h0 a F (updA (updA (updA B 31 da) 55 oc) 56 os)) _ := hP
      have hD : va_D A (mW G h0 a F (updA (updA (updA B 31 da) 55 oc) 56 os)) := mW_D hD
      exact W.zret (v := 1) hx hb hr rfl (fun t9 ht9 hW9 => ⟨⟨_, 1, rfl, ⟨rfl, hz25, hz26⟩, by rw [ht9]; exact hP, hD⟩, hS.F ht9⟩) hS.2.2 dX12_isOf_58
    · have n27 : ¬ (kc = (y - 10)) := fun h9 => c23 ((nI_eq (a := kc) (b := (y - 10)) (by omega) (by omega)).mpr h9)
      refine lv_aload_n hx hb dX12_isOf_43 rfl (lv_at hl 2 rfl) ?_
      refine lv_iload hx hb dX12_isOf_44 (lv_at hl 0 rfl) ?_
      refine lv_iload_n hx hb dX12_isOf_46 rfl (lv_at hl 1 rfl) ?_
      have hP : va_P G.1 pCl (mW G h0 a F (updA (updA (updA (updA B 31 da) 55 oc) 56 os) 31 da)) _ := hP
      have hD : va_D A (mW G h0 a F (updA (updA (updA (updA B 31 da) 55 oc) 56 os) 31 da)) := mW_D hD
      refine pc_V0 (G := G) (As := [.int (nI (y - 10)), .int (nI kc)]) (rest := []) hx hb hml hown hq hE hX pX0_al hP hD hS hA hl.1 (R_isAbove l G h0 a F (updA (updA (updA B 31 da) 55 oc) 56 os) (y - 10) kc da (by omega) hbi) (gV pw_1772 pw_1773 pw_1774 pw_1523 pw_1760) hV_X12_isAbove 0 9 rfl rfl rfl rfl (Nat.le_of_ble_eq_true rfl) dX12_isOf_47 ⟨Nat.le_of_ble_eq_true rfl, Nat.le_of_ble_eq_true rfl⟩ ⟨Nat.le_of_ble_eq_true rfl, Nat.le_of_ble_eq_true rfl⟩ (fun v30 u28 H locs hw29 hP hD hS => ?_)
      obtain rfl : v30 = some (.int (da (40 * (y - 10) + kc))) := hw29
      have hP : va_P G.1 pCl (mW G h0 a F (updA (updA (updA B 31 da) 55 oc) 56 os)) _ := hP
      have hD : va_D A (mW G h0 a F (updA (updA (updA B 31 da) 55 oc) 56 os)) := mW_D hD
      refine W.widen (k := 0) (n := 0) (Nat.le_of_ble_eq_true rfl) (Nat.le_of_ble_eq_true rfl) ?_
      refine W.eq (g2 := F0 m 50 ls [.int (da (40 * (y - 10) + kc))]) rfl ?_
      refine lv_if_eq (tgt := 57) hx hb dX12_isOf_50 (by decide) (fun c31 => ?_) (fun c31 => ?_)
      · refine lv_iconst (v := 0) hx hb dX12_isOf_57 (by decide) ?_
        have hz32 : 0 ≤ 1 := (by omega)
        have hz33 : If (0 = 1) (fitF da (10 + kc) y = 1) := (fun e => absurd e (by decide))
        have hP : va_P G.1 pCl (mW G h0 a F (updA (updA (updA B 31 da) 55 oc) 56 os)) _ := hP
        have hD : va_D A (mW G h0 a F (updA (updA (updA B 31 da) 55 oc) 56 os)) := mW_D hD
        exact W.zret (v := 0) hx hb hr rfl (fun t9 ht9 hW9 => ⟨⟨_, 0, rfl, ⟨rfl, hz32, hz33⟩, by rw [ht9]; exact hP, hD⟩, hS.F ht9⟩) hS.2.2 dX12_isOf_58
      · refine lv_iconst (v := 1) hx hb dX12_isOf_53 (by decide) ?_
        refine lv_goto (tgt := 58) hx hb dX12_isOf_54 (by decide) ?_
        have hz34 : 1 ≤ 1 := (by omega)
        have hz35 : If (1 = 1) (fitF da (10 + kc) y = 1) := (fun _ => ((fit_c (by omega) (by omega) (by omega) (by omega) (by omega)).trans (by rw [Nat.add_sub_cancel_left]; exact (hbi _ (by omega)).resolve_left c31)))
        have hP : va_P G.1 pCl (mW G h0 a F (updA (updA (updA B 31 da) 55 oc) 56 os)) _ := hP
        have hD : va_D A (mW G h0 a F (updA (updA (updA B 31 da) 55 oc) 56 os)) := mW_D hD
        exact W.zret (v := 1) hx hb hr rfl (fun t9 ht9 hW9 => ⟨⟨_, 1, rfl, ⟨rfl, hz34, hz35⟩, by rw [ht9]; exact hP, hD⟩, hS.F ht9⟩) hS.2.2 dX12_isOf_58
theorem dX12_isOf_66 : decode cX12_isOf 66 = .ok (.aload_n 0, 1) := by decide +kernel
theorem dX12_isOf_67 : decode cX12_isOf 67 = .ok (.getfield 181, 3) := by decide +kernel
theorem dX12_isOf_70 : decode cX12_isOf 70 = .ok (.iload_n 1, 1) := by decide +kernel
theorem dX12_isOf_71 : decode cX12_isOf 71 = .ok (.iconst 1, 1) := by decide +kernel
theorem dX12_isOf_72 : decode cX12_isOf 72 = .ok (.isub, 1) := by decide +kernel
theorem dX12_isOf_73 : decode cX12_isOf 73 = .ok (.iaload, 1) := by decide +kernel
theorem dX12_isOf_74 : decode cX12_isOf 74 = .ok (.istore 4, 2) := by decide +kernel
theorem dX12_isOf_76 : decode cX12_isOf 76 = .ok (.iload_n 2, 1) := by decide +kernel
theorem dX12_isOf_77 : decode cX12_isOf 77 = .ok (.sipush 1000, 3) := by decide +kernel
theorem dX12_isOf_80 : decode cX12_isOf 80 = .ok (.isub, 1) := by decide +kernel
theorem dX12_isOf_81 : decode cX12_isOf 81 = .ok (.istore 5, 2) := by decide +kernel
theorem dX12_isOf_83 : decode cX12_isOf 83 = .ok (.iload 4, 2) := by decide +kernel
theorem dX12_isOf_85 : decode cX12_isOf 85 = .ok (.iload 5, 2) := by decide +kernel
theorem dX12_isOf_87 : decode cX12_isOf 87 = .ok (.if_icmp .eq 30, 3) := by decide +kernel
theorem dX12_isOf_117 : decode cX12_isOf 117 = .ok (.iconst 1, 1) := by decide +kernel
theorem dX12_isOf_118 : decode cX12_isOf 118 = .ok (.goto 4, 3) := by decide +kernel
theorem dX12_isOf_122 : decode cX12_isOf 122 = .ok (.ireturn, 1) := by decide +kernel
theorem dX12_isOf_90 : decode cX12_isOf 90 = .ok (.iload 4, 2) := by decide +kernel
theorem dX12_isOf_92 : decode cX12_isOf 92 = .ok (.invokestatic 528, 3) := by decide +kernel
theorem dX12_isOf_95 : decode cX12_isOf 95 = .ok (.ifCond .eq 26, 3) := by decide +kernel
theorem dX12_isOf_121 : decode cX12_isOf 121 = .ok (.iconst 0, 1) := by decide +kernel
theorem dX12_isOf_98 : decode cX12_isOf 98 = .ok (.iload 5, 2) := by decide +kernel
theorem dX12_isOf_100 : decode cX12_isOf 100 = .ok (.invokestatic 528, 3) := by decide +kernel
theorem dX12_isOf_103 : decode cX12_isOf 103 = .ok (.ifCond .eq 18, 3) := by decide +kernel
theorem dX12_isOf_106 : decode cX12_isOf 106 = .ok (.aload_n 0, 1) := by decide +kernel
theorem dX12_isOf_107 : decode cX12_isOf 107 = .ok (.iload 4, 2) := by decide +kernel
theorem dX12_isOf_109 : decode cX12_isOf 109 = .ok (.iload 5, 2) := by decide +kernel
theorem dX12_isOf_111 : decode cX12_isOf 111 = .ok (.invokevirtual 534, 3) := by decide +kernel
theorem dX12_isOf_114 : decode cX12_isOf 114 = .ok (.ifCond .eq 7, 3) := by decide +kernel
theorem dX12_isOf_24 : decode cX12_isOf 24 = .ok (.iload 4, 2) := by decide +kernel
theorem dX12_isOf_26 : decode cX12_isOf 26 = .ok (.ifCond .ne 7, 3) := by decide +kernel
theorem dX12_isOf_33 : decode cX12_isOf 33 = .ok (.iconst 0, 1) := by decide +kernel
theorem dX12_isOf_34 : decode cX12_isOf 34 = .ok (.goto 24, 3) := by decide +kernel
theorem dX12_isOf_29 : decode cX12_isOf 29 = .ok (.iconst 1, 1) := by decide +kernel
theorem dX12_isOf_30 : decode cX12_isOf 30 = .ok (.goto 28, 3) := by decide +kernel
set_option maxHeartbeats 2000000 in
set_option maxRecDepth 100000 in
/-- isOf(v, type) -/
theorem R_isOfR (l : Launch) (G : pT) (h0 : Nat) (a : Nat → Nat) (F : Nat → Int32) (B : Nat → Nat → Int32) (x : Nat) (y : Nat) (dc : Nat) (so : Nat) (oc : Nat → Int32) (os : Nat → Int32) (da : Nat → Int32) (hx9 : 1 ≤ x ∧ (x ≤ 3000 ∨ (4001 ≤ x ∧ x ≤ 4006))) (hy : TyC dc y) (hy1 : 10 ≤ y ∧ y < 2000) (hdc : dc ≤ 37) (hbi : ∀ i : Nat, i < 1600 → da i = 0 ∨ da i = 1) (hcl : clF oc x = -1) (hx3 : x ≤ 3000) (hso : os (x - 1) = nI so) (hsb : baR dc so) : PM l G pX0 yX12_isOf cX12_isOf 6 (some .boolean) ({ frames := 4, cells := 0, slots := 0, locals := 104 }) [.ref h0, .int (nI x), .int (nI y)] (mW G h0 a F (updA (updA (updA B 31 da) 55 oc) 56 os)) (fun (v : Option Value) (u : Nat) => v = some (.int (nI u)) ∧ (u ≤ 1) ∧ (If (u = 1) (fitF da (1000 + so) y = 1))) (fun u => (mW G h0 a F (updA (updA (updA B 31 da) 55 oc) 56 os))) := by
  intro sz
  refine Met.ofW (cc := cX12_isOf) (maxL := 6) (ret := (some .boolean)) (by decide) rfl ?_
  intro p e s m args below meth c s₁ B9 hml hv
  obtain ⟨rfl, hsz, hP, hD0, hE, hX⟩ := hv
  have hx := B9.exec
  have hb := B9.bytes
  have hr := B9.returns
  have hts := atoms_spec (ws := Cond.code yX12_isOf cX12_isOf 6 (some .boolean) :: pw) B9.pre
  have hq : ∀ w ∈ pw, w.before _ s = true := fun w h => hts w (List.mem_cons_of_mem _ h)
  have hown : s.vm.findClass RX12 = some m.cls := findClass_of_methodNamed B9.named
  have hlocks := B9.notSynchronized
  subst hsz
  have hD := hD0.self (sz := s.heap.size)
  have hA : ∀ q : Nat, s.heap.size ≤ q → va_A (mW G h0 a F (updA (updA (updA B 31 da) 55 oc) 56 os)) s.heap.size q := fun q h => Or.inr h
  have hP : va_P G.1 pCl (mW G h0 a F (updA (updA (updA B 31 da) 55 oc) 56 os)) s.heap := hP
  generalize va_A (mW G h0 a F (updA (updA (updA B 31 da) 55 oc) 56 os)) s.heap.size = A at hD hE hA ⊢
  have hS : va_S A s.heap s.heap [] := va_S.rf
  have hl := lv_entry ([.ref h0, .int (nI x), .int (nI y)]) (n := 6) (Nat.le_of_ble_eq_true rfl)
  rw [lg_entry_eq]
  generalize (lg_sl ([.ref h0, .int (nI x), .int (nI y)]) ++ List.replicate (6 - (lg_sl ([.ref h0, .int (nI x), .int (nI y)])).length) Slot.unset).toArray = ls at hl ⊢
  have hl : lv_has ls 6 [(0, .ref h0), (1, .int (nI x)), (2, .int (nI y))] := hl
  have hy5 := TyC.le hy hdc
  have hso5 := baR.le hsb hdc
  refine lv_aload_n hx hb dX12_isOf_0 rfl (lv_at hl 0 rfl) ?_
  refine lv_iload_n hx hb dX12_isOf_1 rfl (lv_at hl 1 rfl) ?_
  have hP : va_P G.1 pCl (mW G h0 a F (updA (updA (updA (updA B 31 da) 55 oc) 56 os) 55 oc)) _ := hP
  have hD : va_D A (mW G h0 a F (updA (updA (updA (updA B 31 da) 55 oc) 56 os) 55 oc)) := mW_D hD
  refine pc_V0 (G := G) (As := [.int (nI x)]) (rest := []) hx hb hml hown hq hE hX pX0_al hP hD hS hA hl.1 (R_classOf l G h0 a F (updA (updA (updA B 31 da) 55 oc) 56 os) x oc hx9) (gV pw_1995 pw_1996 pw_1997 pw_1523 pw_1994) hV_X12_classOf 0 9 rfl rfl rfl rfl (Nat.le_of_ble_eq_true rfl) dX12_isOf_2 ⟨Nat.le_of_ble_eq_true rfl, Nat.le_of_ble_eq_true rfl⟩ ⟨Nat.le_of_ble_eq_true rfl, Nat.le_of_ble_eq_true rfl⟩ (fun v3 u1 H locs hw2 hP hD hS => ?_)
  obtain rfl : v3 = some (.int (clF oc x)) := hw2
  have hP : va_P G.1 pCl (mW G h0 a F (updA (updA (updA B 31 da) 55 oc) 56 os)) _ := hP
  have hD : va_D A (mW G h0 a F (updA (updA (updA B 31 da) 55 oc) 56 os)) := mW_D hD
  refine W.widen (k := 0) (n := 0) (Nat.le_of_ble_eq_true rfl) (Nat.le_of_ble_eq_true rfl) ?_
  refine W.eq (g2 := F0 m 5 ls [.int (clF oc x)]) rfl ?_
  refine lv_topi (fun x4 e5 => ?_)
  obtain rfl : x4 = (-1) := e5.trans hcl
  refine lv_istore_n (lv' := [(3, .int (-1)), (0, .ref h0), (1, .int (nI x)), (2, .int (nI y))]) hx hb dX12_isOf_5 rfl hl (by decide) rfl (fun ls hl => ?_)
  refine lv_iload_n hx hb dX12_isOf_6 rfl (lv_at hl 3 rfl) ?_
  refine pc_SN (G := G) (As := [.int (nI y)]) (rest := []) hx hb hml hown hq hE hX pX0_al hP hS hA hl.1 (s_isRow l G y (by omega)) (gS pw_1788 pw_1789 pw_1523 pw_1780) hS_X12_isRow rfl (Nat.le_of_ble_eq_true rfl) dX12_isOf_7 ⟨Nat.le_of_ble_eq_true rfl, Nat.le_of_ble_eq_true rfl⟩ ⟨Nat.le_of_ble_eq_true rfl, Nat.le_of_ble_eq_true rfl⟩ (fun v8 u6 H locs hw7 hP hS => ?_)
  obtain ⟨r9, rfl, h10, h11, h12⟩ := hw7
  refine W.widen (k := 0) (n := 0) (Nat.le_of_ble_eq_true rfl) (Nat.le_of_ble_eq_true rfl) ?_
  refine W.eq (g2 := F0 m 10 ls [.int (nI r9)]) rfl ?_
  refine lv_if_ne (tgt := 59) hx hb dX12_isOf_10 (by decide) (fun c13 => ?_) (fun c13 => ?_)
  · have n14 : ¬ (r9 = 0) := fun h9 => c13 ((nI_eq (a := r9) (b := 0) (by omega) (by omega)).mpr h9)
    refine lv_iload_n hx hb dX12_isOf_59 rfl (lv_at hl 0 rfl) ?_
    refine lv_iconst (v := (-1)) hx hb dX12_isOf_60 (by decide) ?_
    refine lv_icmp_eq (tgt := 66) hx hb dX12_isOf_61 (by decide) (fun c15 => ?_) (fun c15 => absurd c15 (by decide))
    refine lv_aload_n hx hb dX12_isOf_66 rfl (lv_at hl 1 rfl) ?_
    refine r_get (v := .ref (a 56)) hx hb hown hq hE hP 92 181 tFX12_92 (by decide) pw_1488 rfl dX12_isOf_67 ?_
    refine lv_iload_n hx hb dX12_isOf_70 rfl (lv_at hl 2 rfl) ?_
    refine lv_iconst (v := 1) hx hb dX12_isOf_71 (by decide) ?_
    refine lv_isub hx hb dX12_isOf_72 ?_
    refine lv_topi (fun x16 e17 => ?_)
    obtain rfl : x16 = nI (x - 1) := e17.trans (nI_subN (a := 1) (b := x) (by omega))
    refine r_ldi (f := os) (j := (x - 1)) hx hb hE hP 56 (ma_56 G a _) rfl (by omega) (by decide) dX12_isOf_73 ?_
    refine lv_topi (fun x18 e19 => ?_)
    obtain rfl : x18 = nI so := e19.trans hso
    refine lv_istore (lv' := [(4, .int (nI so)), (3, .int (-1)), (0, .ref h0), (1, .int (nI x)), (2, .int (nI y))]) hx hb dX12_isOf_74 hl (by decide) rfl (fun ls hl => ?_)
    refine lv_iload_n hx hb dX12_isOf_76 rfl (lv_at hl 4 rfl) ?_
    refine lv_sipush (v := 1000) hx hb dX12_isOf_77 (by decide) ?_
    refine lv_isub hx hb dX12_isOf_80 ?_
    refine lv_topi (fun x20 e21 => ?_)
    obtain rfl : x20 = nI (y - 1000) := e21.trans (nI_subN (a := 1000) (b := y) (by omega))
    refine lv_istore (lv' := [(5, .int (nI (y - 1000))), (4, .int (nI so)), (3, .int (-1)), (0, .ref h0), (1, .int (nI x)), (2, .int (nI y))]) hx hb dX12_isOf_81 hl (by decide) rfl (fun ls hl => ?_)
    refine lv_iload hx hb dX12_isOf_83 (lv_at hl 1 rfl) ?_
    refine lv_iload hx hb dX12_isOf_85 (lv_at hl 0 rfl) ?_
    refine lv_icmp_eq (tgt := 117) hx hb dX12_isOf_87 (by decide) (fun c22 => ?_) (fun c22 => ?_)
    · have n23 : so = (y - 1000) := (nI_eq (a := so) (b := (y - 1000)) (by omega) (by omega)).mp c22
      refine lv_iconst (v := 1) hx hb dX12_isOf_117 (by decide) ?_
      refine lv_goto (tgt := 122) hx hb dX12_isOf_118 (by decide) ?_
      have hz24 : 1 ≤ 1 := (by omega)
      have hz25 : If (1 = 1) (fitF da (1000 + so) y = 1) := (fun _ => (fit_e (by omega) (by omega) (by omega)))
      have hP : va_P G.1 pCl (mW G h0 a F (updA (updA (updA B 31 da) 55 oc) 56 os)) _ := hP
      have hD : va_D A (mW G h0 a F (updA (updA (updA B 31 da) 55 oc) 56 os)) := mW_D hD
      exact W.zret (v := 1) hx hb hr rfl (fun t9 ht9 hW9 => ⟨⟨_, 1, rfl, ⟨rfl, hz24, hz25⟩, by rw [ht9]; exact hP, hD⟩, hS.F ht9⟩) hS.2.2 dX12_isOf_122
    · have n26 : ¬ (so = (y - 1000)) := fun h9 => c22 ((nI_eq (a := so) (b := (y - 1000)) (by omega) (by omega)).mpr h9)
      refine lv_iload hx hb dX12_isOf_90 (lv_at hl 1 rfl) ?_
      refine pc_SN (G := G) (As := [.int (nI so)]) (rest := []) hx hb hml hown hq hE hX pX0_al hP hS hA hl.1 (s_isClassType l G so (by omega)) (gS pw_1786 pw_1787 pw_1523 pw_1781) hS_X12_isClassType rfl (Nat.le_of_ble_eq_true rfl) dX12_isOf_92 ⟨Nat.le_of_ble_eq_true rfl, Nat.le_of_ble_eq_true rfl⟩ ⟨Nat.le_of_ble_eq_true rfl, Nat.le_of_ble_eq_true rfl⟩ (fun v29 u27 H locs hw28 hP hS => ?_)
      obtain ⟨r30, rfl, h31, h32, h33, h34⟩ := hw28
      refine W.widen (k := 0) (n := 0) (Nat.le_of_ble_eq_true rfl) (Nat.le_of_ble_eq_true rfl) ?_
      refine W.eq (g2 := F0 m 95 ls [.int (nI r30)]) rfl ?_
      refine lv_if_eq (tgt := 121) hx hb dX12_isOf_95 (by decide) (fun c35 => ?_) (fun c35 => ?_)
      · have n36 : r30 = 0 := (nI_eq (a := r30) (b := 0) (by omega) (by omega)).mp c35
        refine lv_iconst (v := 0) hx hb dX12_isOf_121 (by decide) ?_
        have hz37 : 0 ≤ 1 := (by omega)
        have hz38 : If (0 = 1) (fitF da (1000 + so) y = 1) := (fun e => absurd e (by decide))
        have hP : va_P G.1 pCl (mW G h0 a F (updA (updA (updA B 31 da) 55 oc) 56 os)) _ := hP
        have hD : va_D A (mW G h0 a F (updA (updA (updA B 31 da) 55 oc) 56 os)) := mW_D hD
        exact W.zret (v := 0) hx hb hr rfl (fun t9 ht9 hW9 => ⟨⟨_, 0, rfl, ⟨rfl, hz37, hz38⟩, by rw [ht9]; exact hP, hD⟩, hS.F ht9⟩) hS.2.2 dX12_isOf_122
      · have n39 : ¬ (r30 = 0) := fun h9 => c35 ((nI_eq (a := r30) (b := 0) (by omega) (by omega)).mpr h9)
        have h40 : so < 10 + dc := baR.cl hsb (by omega) (by omega)
        refine lv_iload hx hb dX12_isOf_98 (lv_at hl 0 rfl) ?_
        refine pc_SN (G := G) (As := [.int (nI (y - 1000))]) (rest := []) hx hb hml hown hq hE hX pX0_al hP hS hA hl.1 (s_isClassType l G (y - 1000) (by omega)) (gS pw_1786 pw_1787 pw_1523 pw_1781) hS_X12_isClassType rfl (Nat.le_of_ble_eq_true rfl) dX12_isOf_100 ⟨Nat.le_of_ble_eq_true rfl, Nat.le_of_ble_eq_true rfl⟩ ⟨Nat.le_of_ble_eq_true rfl, Nat.le_of_ble_eq_true rfl⟩ (fun v43 u41 H locs hw42 hP hS => ?_)
        obtain ⟨r44, rfl, h45, h46, h47, h48⟩ := hw42
        refine W.widen (k := 0) (n := 0) (Nat.le_of_ble_eq_true rfl) (Nat.le_of_ble_eq_true rfl) ?_
        refine W.eq (g2 := F0 m 103 ls [.int (nI r44)]) rfl ?_
        refine lv_if_eq (tgt := 121) hx hb dX12_isOf_103 (by decide) (fun c49 => ?_) (fun c49 => ?_)
        · have n50 : r44 = 0 := (nI_eq (a := r44) (b := 0) (by omega) (by omega)).mp c49
          refine lv_iconst (v := 0) hx hb dX12_isOf_121 (by decide) ?_
          have hz51 : 0 ≤ 1 := (by omega)
          have hz52 : If (0 = 1) (fitF da (1000 + so) y = 1) := (fun e => absurd e (by decide))
          have hP : va_P G.1 pCl (mW G h0 a F (updA (updA (updA B 31 da) 55 oc) 56 os)) _ := hP
          have hD : va_D A (mW G h0 a F (updA (updA (updA B 31 da) 55 oc) 56 os)) := mW_D hD
          exact W.zret (v := 0) hx hb hr rfl (fun t9 ht9 hW9 => ⟨⟨_, 0, rfl, ⟨rfl, hz51, hz52⟩, by rw [ht9]; exact hP, hD⟩, hS.F ht9⟩) hS.2.2 dX12_isOf_122
        · have n53 : ¬ (r44 = 0) := fun h9 => c49 ((nI_eq (a := r44) (b := 0) (by omega) (by omega)).mpr h9)
          have h54 : y - 1000 < 10 + dc := baN.cl (TyC.ba hy (by omega) (by omega) hdc) (by omega)
          refine lv_aload_n hx hb dX12_isOf_106 rfl (lv_at hl 3 rfl) ?_
          refine lv_iload hx hb dX12_isOf_107 (lv_at hl 1 rfl) ?_
          refine lv_iload hx hb dX12_isOf_109 (lv_at hl 0 rfl) ?_
          have hP : va_P G.1 pCl (mW G h0 a F (updA (updA (updA (updA B 31 da) 55 oc) 56 os) 31 da)) _ := hP
          have hD : va_D A (mW G h0 a F (updA (updA (updA (updA B 31 da) 55 oc) 56 os) 31 da)) := mW_D hD
          refine pc_V0 (G := G) (As := [.int (nI so), .int (nI (y - 1000))]) (rest := []) hx hb hml hown hq hE hX pX0_al hP hD hS hA hl.1 (R_fits0 l G h0 a F (updA (updA (updA B 31 da) 55 oc) 56 os) so (y - 1000) dc da (by omega) (by omega) (by omega) hbi) (gV pw_1790 pw_1791 pw_1792 pw_1523 pw_1782) hV_X12_fits 0 9 rfl rfl rfl rfl (Nat.le_of_ble_eq_true rfl) dX12_isOf_111 ⟨Nat.le_of_ble_eq_true rfl, Nat.le_of_ble_eq_true rfl⟩ ⟨Nat.le_of_ble_eq_true rfl, Nat.le_of_ble_eq_true rfl⟩ (fun v57 u55 H locs hw56 hP hD hS => ?_)
          obtain rfl : v57 = some (.int (fitF da so (y - 1000))) := hw56
          have hP : va_P G.1 pCl (mW G h0 a F (updA (updA (updA B 31 da) 55 oc) 56 os)) _ := hP
          have hD : va_D A (mW G h0 a F (updA (updA (updA B 31 da) 55 oc) 56 os)) := mW_D hD
          refine W.widen (k := 0) (n := 0) (Nat.le_of_ble_eq_true rfl) (Nat.le_of_ble_eq_true rfl) ?_
          refine W.eq (g2 := F0 m 114 ls [.int (fitF da so (y - 1000))]) rfl ?_
          refine lv_if_eq (tgt := 121) hx hb dX12_isOf_114 (by decide) (fun c58 => ?_) (fun c58 => ?_)
          · refine lv_iconst (v := 0) hx hb dX12_isOf_121 (by decide) ?_
            have hz59 : 0 ≤ 1 := (by omega)
            have hz60 : If (0 = 1) (fitF da (1000 + so) y = 1) := (fun e => absurd e (by decide))
            have hP : va_P G.1 pCl (mW G h0 a F (updA (updA (updA B 31 da) 55 oc) 56 os)) _ := hP
            have hD : va_D A (mW G h0 a F (updA (updA (updA B 31 da) 55 oc) 56 os)) := mW_D hD
            exact W.zret (v := 0) hx hb hr rfl (fun t9 ht9 hW9 => ⟨⟨_, 0, rfl, ⟨rfl, hz59, hz60⟩, by rw [ht9]; exact hP, hD⟩, hS.F ht9⟩) hS.2.2 dX12_isOf_122
          · refine lv_iconst (v := 1) hx hb dX12_isOf_117 (by decide) ?_
            refine lv_goto (tgt := 122) hx hb dX12_isOf_118 (by decide) ?_
            have hz61 : 1 ≤ 1 := (by omega)
            have hz62 : If (1 = 1) (fitF da (1000 + so) y = 1) := (fun _ => (by have z := fit_1k (s := so) (t := y - 1000) (by omega) (by omega) (by omega) (by omega) ((fit_bit hbi (by omega) (by omega) (by omega) (by omega)).resolve_left c58); rw [show 1000 + (y - 1000) = y by omega] at z; exact z))
            have hP : va_P G.1 pCl (mW G h0 a F (updA (updA (updA B 31 da) 55 oc) 56 os)) _ := hP
            have hD : va_D A (mW G h0 a F (updA (updA (updA B 31 da) 55 oc) 56 os)) := mW_D hD
            exact W.zret (v := 1) hx hb hr rfl (fun t9 ht9 hW9 => ⟨⟨_, 1, rfl, ⟨rfl, hz61, hz62⟩, by rw [ht9]; exact hP, hD⟩, hS.F ht9⟩) hS.2.2 dX12_isOf_122
  · have n63 : r9 = 0 := (nI_eq (a := r9) (b := 0) (by omega) (by omega)).mp c13
    have h64 : y < 10 + dc := TyC.cls hy (by omega) (by omega)
    refine lv_iload_n hx hb dX12_isOf_13 rfl (lv_at hl 3 rfl) ?_
    refine lv_bipush (v := 10) hx hb dX12_isOf_14 (by decide) ?_
    refine lv_isub hx hb dX12_isOf_16 ?_
    refine lv_topi (fun x65 e66 => ?_)
    obtain rfl : x65 = nI (y - 10) := e66.trans (nI_subN (a := 10) (b := y) (by omega))
    refine lv_istore (lv' := [(4, .int (nI (y - 10))), (3, .int (-1)), (0, .ref h0), (1, .int (nI x)), (2, .int (nI y))]) hx hb dX12_isOf_17 hl (by decide) rfl (fun ls hl => ?_)
    refine lv_iload_n hx hb dX12_isOf_19 rfl (lv_at hl 1 rfl) ?_
    refine lv_iconst (v := (-1)) hx hb dX12_isOf_20 (by decide) ?_
    refine lv_icmp_ne (tgt := 37) hx hb dX12_isOf_21 (by decide) (fun c67 => absurd c67 (by decide)) (fun c67 => ?_)
    refine lv_iload hx hb dX12_isOf_24 (lv_at hl 0 rfl) ?_
    refine lv_if_ne (tgt := 33) hx hb dX12_isOf_26 (by decide) (fun c68 => ?_) (fun c68 => ?_)
    · have n69 : ¬ ((y - 10) = 0) := fun h9 => c68 ((nI_eq (a := (y - 10)) (b := 0) (by omega) (by omega)).mpr h9)
      refine lv_iconst (v := 0) hx hb dX12_isOf_33 (by decide) ?_
      refine lv_goto (tgt := 58) hx hb dX12_isOf_34 (by decide) ?_
      have hz70 : 0 ≤ 1 := (by omega)
      have hz71 : If (0 = 1) (fitF da (1000 + so) y = 1) := (fun e => absurd e (by decide))
      have hP : va_P G.1 pCl (mW G h0 a F (updA (updA (updA B 31 da) 55 oc) 56 os)) _ := hP
      have hD : va_D A (mW G h0 a F (updA (updA (updA B 31 da) 55 oc) 56 os)) := mW_D hD
      exact W.zret (v := 0) hx hb hr rfl (fun t9 ht9 hW9 => ⟨⟨_, 0, rfl, ⟨rfl, hz70, hz71⟩, by rw [ht9]; exact hP, hD⟩, hS.F ht9⟩) hS.2.2 dX12_isOf_58
    · have n72 : (y - 10) = 0 := (nI_eq (a := (y - 10)) (b := 0) (by omega) (by omega)).mp c68
      refine lv_iconst (v := 1) hx hb dX12_isOf_29 (by decide) ?_
      refine lv_goto (tgt := 58) hx hb dX12_isOf_30 (by decide) ?_
      have hz73 : 1 ≤ 1 := (by omega)
      have hz74 : If (1 = 1) (fitF da (1000 + so) y = 1) := (fun _ => (fit_r1 (by omega) (by omega)))
      have hP : va_P G.1 pCl (mW G h0 a F (updA (updA (updA B 31 da) 55 oc) 56 os)) _ := hP
      have hD : va_D A (mW G h0 a F (updA (updA (updA B 31 da) 55 oc) 56 os)) := mW_D hD
      exact W.zret (v := 1) hx hb hr rfl (fun t9 ht9 hW9 => ⟨⟨_, 1, rfl, ⟨rfl, hz73, hz74⟩, by rw [ht9]; exact hP, hD⟩, hS.F ht9⟩) hS.2.2 dX12_isOf_58
