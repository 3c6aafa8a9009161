theorem dX12_isAlike_0 : decode cX12_isAlike 0 = .ok (.aload_n 0, 1) := by decide +kernel
theorem dX12_isAlike_1 : decode cX12_isAlike 1 = .ok (.getfield 135, 3) := by decide +kernel
theorem dX12_isAlike_4 : decode cX12_isAlike 4 = .ok (.iload_n 1, 1) := by decide +kernel
theorem dX12_isAlike_5 : decode cX12_isAlike 5 = .ok (.iaload, 1) := by decide +kernel
theorem dX12_isAlike_6 : decode cX12_isAlike 6 = .ok (.aload_n 0, 1) := by decide +kernel
theorem dX12_isAlike_7 : decode cX12_isAlike 7 = .ok (.getfield 135, 3) := by decide +kernel
theorem dX12_isAlike_10 : decode cX12_isAlike 10 = .ok (.iload_n 2, 1) := by decide +kernel
theorem dX12_isAlike_11 : decode cX12_isAlike 11 = .ok (.iaload, 1) := by decide +kernel
theorem dX12_isAlike_12 : decode cX12_isAlike 12 = .ok (.if_icmp .ne 20, 3) := by decide +kernel
theorem dX12_isAlike_32 : decode cX12_isAlike 32 = .ok (.iconst 0, 1) := by decide +kernel
theorem dX12_isAlike_33 : decode cX12_isAlike 33 = .ok (.istore_n 3, 1) := by decide +kernel
theorem dX12_isAlike_34 : decode cX12_isAlike 34 = .ok (.iconst 0, 1) := by decide +kernel
theorem dX12_isAlike_35 : decode cX12_isAlike 35 = .ok (.istore 4, 2) := by decide +kernel
theorem dX12_isAlike_37 : decode cX12_isAlike 37 = .ok (.iload_n 3, 1) := by decide +kernel
theorem dX12_isAlike_38 : decode cX12_isAlike 38 = .ok (.ifCond .eq 67, 3) := by decide +kernel
theorem dX12_isAlike_105 : decode cX12_isAlike 105 = .ok (.iload_n 3, 1) := by decide +kernel
theorem dX12_isAlike_106 : decode cX12_isAlike 106 = .ok (.ireturn, 1) := by decide +kernel
theorem dX12_isAlike_41 : decode cX12_isAlike 41 = .ok (.iload 4, 2) := by decide +kernel
theorem dX12_isAlike_43 : decode cX12_isAlike 43 = .ok (.aload_n 0, 1) := by decide +kernel
theorem dX12_isAlike_44 : decode cX12_isAlike 44 = .ok (.getfield 135, 3) := by decide +kernel
theorem dX12_isAlike_47 : decode cX12_isAlike 47 = .ok (.iload_n 1, 1) := by decide +kernel
theorem dX12_isAlike_48 : decode cX12_isAlike 48 = .ok (.iaload, 1) := by decide +kernel
theorem dX12_isAlike_49 : decode cX12_isAlike 49 = .ok (.if_icmp .ge 56, 3) := by decide +kernel
theorem dX12_isAlike_52 : decode cX12_isAlike 52 = .ok (.aload_n 0, 1) := by decide +kernel
theorem dX12_isAlike_53 : decode cX12_isAlike 53 = .ok (.getfield 75, 3) := by decide +kernel
theorem dX12_isAlike_56 : decode cX12_isAlike 56 = .ok (.aload_n 0, 1) := by decide +kernel
theorem dX12_isAlike_57 : decode cX12_isAlike 57 = .ok (.getfield 153, 3) := by decide +kernel
theorem dX12_isAlike_60 : decode cX12_isAlike 60 = .ok (.aload_n 0, 1) := by decide +kernel
theorem dX12_isAlike_61 : decode cX12_isAlike 61 = .ok (.getfield 132, 3) := by decide +kernel
theorem dX12_isAlike_64 : decode cX12_isAlike 64 = .ok (.iload_n 1, 1) := by decide +kernel
theorem dX12_isAlike_65 : decode cX12_isAlike 65 = .ok (.iaload, 1) := by decide +kernel
theorem dX12_isAlike_66 : decode cX12_isAlike 66 = .ok (.iload 4, 2) := by decide +kernel
theorem dX12_isAlike_68 : decode cX12_isAlike 68 = .ok (.iadd, 1) := by decide +kernel
theorem dX12_isAlike_69 : decode cX12_isAlike 69 = .ok (.iaload, 1) := by decide +kernel
theorem dX12_isAlike_70 : decode cX12_isAlike 70 = .ok (.iaload, 1) := by decide +kernel
theorem dX12_isAlike_71 : decode cX12_isAlike 71 = .ok (.aload_n 0, 1) := by decide +kernel
theorem dX12_isAlike_72 : decode cX12_isAlike 72 = .ok (.getfield 75, 3) := by decide +kernel
theorem dX12_isAlike_75 : decode cX12_isAlike 75 = .ok (.aload_n 0, 1) := by decide +kernel
theorem dX12_isAlike_76 : decode cX12_isAlike 76 = .ok (.getfield 153, 3) := by decide +kernel
theorem dX12_isAlike_79 : decode cX12_isAlike 79 = .ok (.aload_n 0, 1) := by decide +kernel
theorem dX12_isAlike_80 : decode cX12_isAlike 80 = .ok (.getfield 132, 3) := by decide +kernel
theorem dX12_isAlike_83 : decode cX12_isAlike 83 = .ok (.iload_n 2, 1) := by decide +kernel
theorem dX12_isAlike_84 : decode cX12_isAlike 84 = .ok (.iaload, 1) := by decide +kernel
theorem dX12_isAlike_85 : decode cX12_isAlike 85 = .ok (.iload 4, 2) := by decide +kernel
theorem dX12_isAlike_87 : decode cX12_isAlike 87 = .ok (.iadd, 1) := by decide +kernel
theorem dX12_isAlike_88 : decode cX12_isAlike 88 = .ok (.iaload, 1) := by decide +kernel
theorem dX12_isAlike_89 : decode cX12_isAlike 89 = .ok (.iaload, 1) := by decide +kernel
theorem dX12_isAlike_90 : decode cX12_isAlike 90 = .ok (.if_icmp .ne 7, 3) := by decide +kernel
theorem dX12_isAlike_97 : decode cX12_isAlike 97 = .ok (.iconst 0, 1) := by decide +kernel
theorem dX12_isAlike_98 : decode cX12_isAlike 98 = .ok (.istore_n 3, 1) := by decide +kernel
theorem dX12_isAlike_99 : decode cX12_isAlike 99 = .ok (.iinc 4 1, 3) := by decide +kernel
theorem dX12_isAlike_102 : decode cX12_isAlike 102 = .ok (.goto (-65), 3) := by decide +kernel
theorem dX12_isAlike_93 : decode cX12_isAlike 93 = .ok (.iconst 1, 1) := by decide +kernel
theorem dX12_isAlike_94 : decode cX12_isAlike 94 = .ok (.goto 4, 3) := by decide +kernel
theorem dX12_isAlike_15 : decode cX12_isAlike 15 = .ok (.aload_n 0, 1) := by decide +kernel
theorem dX12_isAlike_16 : decode cX12_isAlike 16 = .ok (.iload_n 1, 1) := by decide +kernel
theorem dX12_isAlike_17 : decode cX12_isAlike 17 = .ok (.invokevirtual 512, 3) := by decide +kernel
theorem dX12_isAlike_20 : decode cX12_isAlike 20 = .ok (.aload_n 0, 1) := by decide +kernel
theorem dX12_isAlike_21 : decode cX12_isAlike 21 = .ok (.iload_n 2, 1) := by decide +kernel
theorem dX12_isAlike_22 : decode cX12_isAlike 22 = .ok (.invokevirtual 512, 3) := by decide +kernel
theorem dX12_isAlike_25 : decode cX12_isAlike 25 = .ok (.if_icmp .ne 7, 3) := by decide +kernel
theorem dX12_isAlike_28 : decode cX12_isAlike 28 = .ok (.iconst 1, 1) := by decide +kernel
theorem dX12_isAlike_29 : decode cX12_isAlike 29 = .ok (.goto 4, 3) := by decide +kernel
theorem hV_X12_resultOf : yX12_resultOf.cls = RX12 ∧ yX12_resultOf.cls ≠ "java/lang/invoke/MethodHandle" ∧ yX12_resultOf.cls ≠ "java/lang/invoke/VarHandle" ∧ (parseMethodDescriptor yX12_resultOf.desc).map (fun d => d.parameters.length) = some 1 := by decide +kernel
set_option maxHeartbeats 2000000 in
set_option maxRecDepth 100000 in
/-- isAlike(m, o) -/
theorem R_isAlike (l : Launch) (G : pT) (h0 : Nat) (a : Nat → Nat) (F : Nat → Int32) (B : Nat → Nat → Int32) (m9 : Nat) (o9 : Nat) (T : Nat) (nm : Nat) (wr : Nat) (lz : Nat) (dc : Nat) (fd : Nat) (md : Nat) (pr : Nat) (bk : Nat) (hm9 : m9 < md) (ho9 : o9 < md) (hmd : md ≤ 920) (hwr : wr ≤ 5000) (hpr : pr ≤ 5000) (hps : PS T nm wr lz dc fd md pr bk B) : PM l G pX0 yX12_isAlike cX12_isAlike 5 (some .boolean) ({ frames := 3, cells := 0, slots := 0, locals := 81 }) [.ref h0, .int (nI m9), .int (nI o9)] (mW G h0 a F B) (fun (v : Option Value) (u : Nat) => v = some (.int (nI u)) ∧ (u ≤ 1) ∧ (If (u = 1) (Alk B m9 o9))) (fun u => (mW G h0 a F B)) := by
  intro sz
  refine Met.ofW (cc := cX12_isAlike) (maxL := 5) (ret := (some .boolean)) (by decide) rfl ?_
  intro p e s m args below meth c s₁ B9 hml hv
  obtain ⟨rfl, hsz, hP, hD0, hE, hX⟩ := hv
  have hx := B9.exec
  have hb := B9.bytes
  have hr := B9.returns
  have hts := atoms_spec (ws := Cond.code yX12_isAlike cX12_isAlike 5 (some .boolean) :: pw) B9.pre
  have hq : ∀ w ∈ pw, w.before _ s = true := fun w h => hts w (List.mem_cons_of_mem _ h)
  have hown : s.vm.findClass RX12 = some m.cls := findClass_of_methodNamed B9.named
  have hlocks := B9.notSynchronized
  subst hsz
  have hD := hD0.self (sz := s.heap.size)
  have hA : ∀ q : Nat, s.heap.size ≤ q → va_A (mW G h0 a F B) s.heap.size q := fun q h => Or.inr h
  have hP : va_P G.1 pCl (mW G h0 a F B) s.heap := hP
  generalize va_A (mW G h0 a F B) s.heap.size = A at hD hE hA ⊢
  have hS : va_S A s.heap s.heap [] := va_S.rf
  have hl := lv_entry ([.ref h0, .int (nI m9), .int (nI o9)]) (n := 5) (Nat.le_of_ble_eq_true rfl)
  rw [lg_entry_eq]
  generalize (lg_sl ([.ref h0, .int (nI m9), .int (nI o9)]) ++ List.replicate (5 - (lg_sl ([.ref h0, .int (nI m9), .int (nI o9)])).length) Slot.unset).toArray = ls at hl ⊢
  have hl : lv_has ls 5 [(0, .ref h0), (1, .int (nI m9)), (2, .int (nI o9))] := hl
  obtain ⟨d1, -, -, -, -, -, yo1, ⟨pm, qm, hm1, hm2, hm3, hm4⟩, -⟩ := hps.2.2.1 m9 hm9
  obtain ⟨d3, -, -, -, -, -, yo3, ⟨po, qo, ho1, ho2, ho3, ho4⟩, -⟩ := hps.2.2.1 o9 ho9
  refine lv_aload_n hx hb dX12_isAlike_0 rfl (lv_at hl 0 rfl) ?_
  refine r_get (v := .ref (a 41)) hx hb hown hq hE hP 55 135 tFX12_55 (by decide) pw_1472 rfl dX12_isAlike_1 ?_
  refine lv_iload_n hx hb dX12_isAlike_4 rfl (lv_at hl 1 rfl) ?_
  refine r_ldi (f := (B 41)) (j := m9) hx hb hE hP 41 (ma_41 G a _) rfl (by omega) (by decide) dX12_isAlike_5 ?_
  refine lv_topi (fun x1 e2 => ?_)
  obtain rfl : x1 = nI qm := e2.trans hm2
  refine lv_aload_n hx hb dX12_isAlike_6 rfl (lv_at hl 0 rfl) ?_
  refine r_get (v := .ref (a 41)) hx hb hown hq hE hP 55 135 tFX12_55 (by decide) pw_1472 rfl dX12_isAlike_7 ?_
  refine lv_iload_n hx hb dX12_isAlike_10 rfl (lv_at hl 2 rfl) ?_
  refine r_ldi (f := (B 41)) (j := o9) hx hb hE hP 41 (ma_41 G a _) rfl (by omega) (by decide) dX12_isAlike_11 ?_
  refine lv_topi (fun x3 e4 => ?_)
  obtain rfl : x3 = nI qo := e4.trans ho2
  refine lv_icmp_ne (tgt := 32) hx hb dX12_isAlike_12 (by decide) (fun c5 => ?_) (fun c5 => ?_)
  · have n6 : ¬ (qm = qo) := fun h9 => c5 ((nI_eq (a := qm) (b := qo) (by omega) (by omega)).mpr h9)
    refine lv_iconst (v := 0) hx hb dX12_isAlike_32 (by decide) ?_
    refine lv_istore_n (lv' := [(3, .int 0), (0, .ref h0), (1, .int (nI m9)), (2, .int (nI o9))]) hx hb dX12_isAlike_33 rfl hl (by decide) rfl (fun ls hl => ?_)
    refine lv_iconst (v := 0) hx hb dX12_isAlike_34 (by decide) ?_
    refine lv_istore (lv' := [(4, .int 0), (3, .int 0), (0, .ref h0), (1, .int (nI m9)), (2, .int (nI o9))]) hx hb dX12_isAlike_35 hl (by decide) rfl (fun ls hl => ?_)
    have loop_o : ∀ (n_o : Nat) (p2 : Nat) (sm : Nat) (H : Heap) (locs : List Loc) (ls : Array Slot), p2 ≤ (qm + 1) → (qm + 1) + 1 ≤ p2 + n_o → (sm ≤ 1) → (If (sm = 1) (B 41 m9 = B 41 o9 ∧ resF (B 39) (B 21) m9 = resF (B 39) (B 21) o9)) → (If (sm = 1) (∀ i : Nat, i < p2 → ytF B (pm + i) = ytF B (po + i))) → (If (sm = 1) (qm = qo)) → va_P G.1 pCl (mW G h0 a F B) H → va_D A (mW G h0 a F B) → va_S A s.heap H locs → lv_has ls 5 [(4, .int (nI p2)), (3, .int (nI sm)), (2, .int (nI o9)), (1, .int (nI m9)), (0, .ref h0)] → W p l e (headSpec (Cond.code yX12_isAlike cX12_isAlike 5 (some .boolean) :: pw) ({ frames := 3, cells := 0, slots := 0, locals := 81 } : Room)).room s m ([.ref h0, .int (nI m9), .int (nI o9)] : List Value).toArray below meth c H locs 0 0 (MQ below (pQ G A (fun (v : Option Value) (u : Nat) => v = some (.int (nI u)) ∧ (u ≤ 1) ∧ (If (u = 1) (Alk B m9 o9))) (fun u => (mW G h0 a F B))) ([.ref h0, .int (nI m9), .int (nI o9)] : List Value).toArray s ({ frames := 3, cells := 0, slots := 0, locals := 81 } : Room).cells ({ frames := 3, cells := 0, slots := 0, locals := 81 } : Room).slots A) (F0 m 37 ls []) := by
      intro n_o
      induction n_o with
      | zero => intro p2 sm H locs ls hk_o hn_o; omega
      | succ n_o ih_o =>
        intro p2 sm H locs ls hk_o hn_o hsm hs1 hs2 hqo hP hD hS hl
        refine lv_iload_n hx hb dX12_isAlike_37 rfl (lv_at hl 1 rfl) ?_
        refine lv_if_eq (tgt := 105) hx hb dX12_isAlike_38 (by decide) (fun c7 => ?_) (fun c7 => ?_)
        · have n8 : sm = 0 := (nI_eq (a := sm) (b := 0) (by omega) (by omega)).mp c7
          refine lv_iload_n hx hb dX12_isAlike_105 rfl (lv_at hl 1 rfl) ?_
          have hz9 : sm ≤ 1 := (by omega)
          have hz10 : If (sm = 1) (Alk B m9 o9) := (fun e => ⟨(hs1 e).1, (hs1 e).2, fun pm2 po2 q i h1 h2 h3 z1 z2 z3 h4 => by rw [← (nI_eq (by omega) (by omega)).mp (hm1.symm.trans h1), ← (nI_eq (by omega) (by omega)).mp (ho1.symm.trans h2)]; exact hs2 e i (by have := (nI_eq (by omega) (by omega)).mp (hm2.symm.trans h3); omega)⟩)
          have hP : va_P G.1 pCl (mW G h0 a F B) _ := hP
          have hD : va_D A (mW G h0 a F B) := mW_D hD
          exact W.zret (v := (nI sm)) hx hb hr (nI_nar hsm) (fun t9 ht9 hW9 => ⟨⟨_, sm, rfl, ⟨rfl, hz9, hz10⟩, by rw [ht9]; exact hP, hD⟩, hS.F ht9⟩) hS.2.2 dX12_isAlike_106
        · have n11 : ¬ (sm = 0) := fun h9 => c7 ((nI_eq (a := sm) (b := 0) (by omega) (by omega)).mpr h9)
          have hqq : qm = qo := hqo (by omega)
          refine lv_iload hx hb dX12_isAlike_41 (lv_at hl 0 rfl) ?_
          refine lv_aload_n hx hb dX12_isAlike_43 rfl (lv_at hl 4 rfl) ?_
          refine r_get (v := .ref (a 41)) hx hb hown hq hE hP 55 135 tFX12_55 (by decide) pw_1472 rfl dX12_isAlike_44 ?_
          refine lv_iload_n hx hb dX12_isAlike_47 rfl (lv_at hl 3 rfl) ?_
          refine r_ldi (f := (B 41)) (j := m9) hx hb hE hP 41 (ma_41 G a _) rfl (by omega) (by decide) dX12_isAlike_48 ?_
          refine lv_topi (fun x12 e13 => ?_)
          obtain rfl : x12 = nI qm := e13.trans hm2
          refine lv_icmp_ge (tgt := 105) hx hb dX12_isAlike_49 (by decide) (fun c14 => ?_) (fun c14 => ?_)
          · have n15 : qm ≤ p2 := (nI_leI (a := qm) (b := p2) (by omega) (by omega)).mp c14
            refine lv_iload_n hx hb dX12_isAlike_105 rfl (lv_at hl 1 rfl) ?_
            have hz16 : sm ≤ 1 := (by omega)
            have hz17 : If (sm = 1) (Alk B m9 o9) := (fun e => ⟨(hs1 e).1, (hs1 e).2, fun pm2 po2 q i h1 h2 h3 z1 z2 z3 h4 => by rw [← (nI_eq (by omega) (by omega)).mp (hm1.symm.trans h1), ← (nI_eq (by omega) (by omega)).mp (ho1.symm.trans h2)]; exact hs2 e i (by have := (nI_eq (by omega) (by omega)).mp (hm2.symm.trans h3); omega)⟩)
            have hP : va_P G.1 pCl (mW G h0 a F B) _ := hP
            have hD : va_D A (mW G h0 a F B) := mW_D hD
            exact W.zret (v := (nI sm)) hx hb hr (nI_nar hsm) (fun t9 ht9 hW9 => ⟨⟨_, sm, rfl, ⟨rfl, hz16, hz17⟩, by rw [ht9]; exact hP, hD⟩, hS.F ht9⟩) hS.2.2 dX12_isAlike_106
          · have n18 : ¬ (qm ≤ p2) := fun h9 => c14 ((nI_leI (a := qm) (b := p2) (by omega) (by omega)).mpr h9)
            refine lv_aload_n hx hb dX12_isAlike_52 rfl (lv_at hl 4 rfl) ?_
            refine r_get (v := .ref (a 21)) hx hb hown hq hE hP 30 75 tFX12_30 (by decide) pw_1452 rfl dX12_isAlike_53 ?_
            refine lv_aload_n hx hb dX12_isAlike_56 rfl (lv_at hl 4 rfl) ?_
            refine r_get (v := .ref (a 47)) hx hb hown hq hE hP 63 153 tFX12_63 (by decide) pw_1478 rfl dX12_isAlike_57 ?_
            refine lv_aload_n hx hb dX12_isAlike_60 rfl (lv_at hl 4 rfl) ?_
            refine r_get (v := .ref (a 40)) hx hb hown hq hE hP 54 132 tFX12_54 (by decide) pw_1471 rfl dX12_isAlike_61 ?_
            refine lv_iload_n hx hb dX12_isAlike_64 rfl (lv_at hl 3 rfl) ?_
            refine r_ldi (f := (B 40)) (j := m9) hx hb hE hP 40 (ma_40 G a _) rfl (by omega) (by decide) dX12_isAlike_65 ?_
            refine lv_topi (fun x19 e20 => ?_)
            obtain rfl : x19 = nI pm := e20.trans hm1
            refine lv_iload hx hb dX12_isAlike_66 (lv_at hl 0 rfl) ?_
            refine lv_iadd hx hb dX12_isAlike_68 ?_
            refine lv_topi (fun x21 e22 => ?_)
            obtain rfl : x21 = nI (pm + p2) := e22.trans (nI_add (pm) (p2))
            refine r_ldi (f := (B 47)) (j := (pm + p2)) hx hb hE hP 47 (ma_47 G a _) rfl (by omega) (by decide) dX12_isAlike_69 ?_
            obtain ⟨y23, e24, h25⟩ := (hps.2.2.2.1 (pm + p2) (by omega)).2
            refine lv_topi (fun x26 e27 => ?_)
            obtain rfl : x26 = nI y23 := e27.trans e24
            refine r_ldi (f := (B 21)) (j := y23) hx hb hE hP 21 (ma_21 G a _) rfl (by omega) (by decide) dX12_isAlike_70 ?_
            refine lv_aload_n hx hb dX12_isAlike_71 rfl (lv_at hl 4 rfl) ?_
            refine r_get (v := .ref (a 21)) hx hb hown hq hE hP 30 75 tFX12_30 (by decide) pw_1452 rfl dX12_isAlike_72 ?_
            refine lv_aload_n hx hb dX12_isAlike_75 rfl (lv_at hl 4 rfl) ?_
            refine r_get (v := .ref (a 47)) hx hb hown hq hE hP 63 153 tFX12_63 (by decide) pw_1478 rfl dX12_isAlike_76 ?_
            refine lv_aload_n hx hb dX12_isAlike_79 rfl (lv_at hl 4 rfl) ?_
            refine r_get (v := .ref (a 40)) hx hb hown hq hE hP 54 132 tFX12_54 (by decide) pw_1471 rfl dX12_isAlike_80 ?_
            refine lv_iload_n hx hb dX12_isAlike_83 rfl (lv_at hl 2 rfl) ?_
            refine r_ldi (f := (B 40)) (j := o9) hx hb hE hP 40 (ma_40 G a _) rfl (by omega) (by decide) dX12_isAlike_84 ?_
            refine lv_topi (fun x28 e29 => ?_)
            obtain rfl : x28 = nI po := e29.trans ho1
            refine lv_iload hx hb dX12_isAlike_85 (lv_at hl 0 rfl) ?_
            refine lv_iadd hx hb dX12_isAlike_87 ?_
            refine lv_topi (fun x30 e31 => ?_)
            obtain rfl : x30 = nI (po + p2) := e31.trans (nI_add (po) (p2))
            refine r_ldi (f := (B 47)) (j := (po + p2)) hx hb hE hP 47 (ma_47 G a _) rfl (by omega) (by decide) dX12_isAlike_88 ?_
            obtain ⟨y32, e33, h34⟩ := (hps.2.2.2.1 (po + p2) (by omega)).2
            refine lv_topi (fun x35 e36 => ?_)
            obtain rfl : x35 = nI y32 := e36.trans e33
            refine r_ldi (f := (B 21)) (j := y32) hx hb hE hP 21 (ma_21 G a _) rfl (by omega) (by decide) dX12_isAlike_89 ?_
            refine lv_icmp_ne (tgt := 97) hx hb dX12_isAlike_90 (by decide) (fun c37 => ?_) (fun c37 => ?_)
            · refine lv_iconst (v := 0) hx hb dX12_isAlike_97 (by decide) ?_
              refine lv_istore_n (lv' := [(3, .int 0), (4, .int (nI p2)), (2, .int (nI o9)), (1, .int (nI m9)), (0, .ref h0)]) hx hb dX12_isAlike_98 rfl hl (by decide) rfl (fun ls hl => ?_)
              refine lv_iinc (v := (nI (p2 + 1))) (lv' := [(4, .int (nI (p2 + 1))), (3, .int 0), (2, .int (nI o9)), (1, .int (nI m9)), (0, .ref h0)]) hx hb dX12_isAlike_99 hl (k := 1) rfl (nI_1 p2) (by decide) rfl (fun ls hl => ?_)
              refine lv_goto (tgt := 37) hx hb dX12_isAlike_102 (by decide) ?_
              have hP : va_P G.1 pCl (mW G h0 a F B) _ := hP
              have hD : va_D A (mW G h0 a F B) := mW_D hD
              exact ih_o (p2 + 1) 0 _ _ _ (by omega) (by omega) (by omega) (fun e => absurd e (by decide)) (fun e => absurd e (by decide)) (fun e => absurd e (by decide)) hP hD hS (lv_sub hl [0, 1, 2, 3, 4] rfl)
            · refine lv_iconst (v := 1) hx hb dX12_isAlike_93 (by decide) ?_
              refine lv_goto (tgt := 98) hx hb dX12_isAlike_94 (by decide) ?_
              refine lv_istore_n (lv' := [(3, .int 1), (4, .int (nI p2)), (2, .int (nI o9)), (1, .int (nI m9)), (0, .ref h0)]) hx hb dX12_isAlike_98 rfl hl (by decide) rfl (fun ls hl => ?_)
              refine lv_iinc (v := (nI (p2 + 1))) (lv' := [(4, .int (nI (p2 + 1))), (3, .int 1), (2, .int (nI o9)), (1, .int (nI m9)), (0, .ref h0)]) hx hb dX12_isAlike_99 hl (k := 1) rfl (nI_1 p2) (by decide) rfl (fun ls hl => ?_)
              refine lv_goto (tgt := 37) hx hb dX12_isAlike_102 (by decide) ?_
              have hP : va_P G.1 pCl (mW G h0 a F B) _ := hP
              have hD : va_D A (mW G h0 a F B) := mW_D hD
              exact ih_o (p2 + 1) 1 _ _ _ (by omega) (by omega) (by omega) (fun _ => hs1 (by omega)) (fun _ => all_up (hs2 (by omega)) (by unfold ytF; rw [e24, e33, nI_cl (by omega), nI_cl (by omega)]; exact c37)) (fun _ => hqo (by omega)) hP hD hS (lv_sub hl [0, 1, 2, 3, 4] rfl)
    have hP : va_P G.1 pCl (mW G h0 a F B) _ := hP
    have hD : va_D A (mW G h0 a F B) := mW_D hD
    exact loop_o ((qm + 1) + 1) 0 0 _ _ _ (by omega) (by omega) (by omega) (fun e => absurd e (by decide)) (fun _ i h => absurd h (by omega)) (fun e => absurd e (by decide)) hP hD hS (lv_sub hl [0, 1, 4, 3, 2] rfl)
  · have n38 : qm = qo := (nI_eq (a := qm) (b := qo) (by omega) (by omega)).mp c5
    refine lv_aload_n hx hb dX12_isAlike_15 rfl (lv_at hl 0 rfl) ?_
    refine lv_iload_n hx hb dX12_isAlike_16 rfl (lv_at hl 1 rfl) ?_
    have hP : va_P G.1 pCl (mW G h0 a F (updA (updA B 21 (B 21)) 39 (B 39))) _ := hP
    have hD : va_D A (mW G h0 a F (updA (updA B 21 (B 21)) 39 (B 39))) := mW_D hD
    refine pc_V0 (G := G) (As := [.int (nI m9)]) (rest := []) hx hb hml hown hq hE hX pX0_al hP hD hS hA hl.1 (R_resultOf l G h0 a F B m9 wr (B 39) (B 21) (by omega) (by omega) yo1) (gV pw_1764 pw_1765 pw_1766 pw_1523 pw_1762) hV_X12_resultOf 0 9 rfl rfl rfl rfl (Nat.le_of_ble_eq_true rfl) dX12_isAlike_17 ⟨Nat.le_of_ble_eq_true rfl, Nat.le_of_ble_eq_true rfl⟩ ⟨Nat.le_of_ble_eq_true rfl, Nat.le_of_ble_eq_true rfl⟩ (fun v41 u39 H locs hw40 hP hD hS => ?_)
    obtain rfl : v41 = some (.int (resF (B 39) (B 21) m9)) := hw40
    have hP : va_P G.1 pCl (mW G h0 a F B) _ := hP
    have hD : va_D A (mW G h0 a F B) := mW_D hD
    refine W.widen (k := 0) (n := 0) (Nat.le_of_ble_eq_true rfl) (Nat.le_of_ble_eq_true rfl) ?_
    refine W.eq (g2 := F0 m 20 ls [.int (resF (B 39) (B 21) m9)]) rfl ?_
    refine lv_aload_n hx hb dX12_isAlike_20 rfl (lv_at hl 0 rfl) ?_
    refine lv_iload_n hx hb dX12_isAlike_21 rfl (lv_at hl 2 rfl) ?_
    have hP : va_P G.1 pCl (mW G h0 a F (updA (updA B 21 (B 21)) 39 (B 39))) _ := hP
    have hD : va_D A (mW G h0 a F (updA (updA B 21 (B 21)) 39 (B 39))) := mW_D hD
    refine pc_V0 (G := G) (As := [.int (nI o9)]) (rest := [.int (resF (B 39) (B 21) m9)]) hx hb hml hown hq hE hX pX0_al hP hD hS hA hl.1 (R_resultOf l G h0 a F B o9 wr (B 39) (B 21) (by omega) (by omega) yo3) (gV pw_1764 pw_1765 pw_1766 pw_1523 pw_1762) hV_X12_resultOf 0 9 rfl rfl rfl rfl (Nat.le_of_ble_eq_true rfl) dX12_isAlike_22 ⟨Nat.le_of_ble_eq_true rfl, Nat.le_of_ble_eq_true rfl⟩ ⟨Nat.le_of_ble_eq_true rfl, Nat.le_of_ble_eq_true rfl⟩ (fun v44 u42 H locs hw43 hP hD hS => ?_)
    obtain rfl : v44 = some (.int (resF (B 39) (B 21) o9)) := hw43
    have hP : va_P G.1 pCl (mW G h0 a F B) _ := hP
    have hD : va_D A (mW G h0 a F B) := mW_D hD
    refine W.widen (k := 0) (n := 0) (Nat.le_of_ble_eq_true rfl) (Nat.le_of_ble_eq_true rfl) ?_
    refine W.eq (g2 := F0 m 25 ls [.int (resF (B 39) (B 21) o9), .int (resF (B 39) (B 21) m9)]) rfl ?_
    refine lv_icmp_ne (tgt := 32) hx hb dX12_isAlike_25 (by decide) (fun c45 => ?_) (fun c45 => ?_)
    · refine lv_iconst (v := 0) hx hb dX12_isAlike_32 (by decide) ?_
      refine lv_istore_n (lv' := [(3, .int 0), (0, .ref h0), (1, .int (nI m9)), (2, .int (nI o9))]) hx hb dX12_isAlike_33 rfl hl (by decide) rfl (fun ls hl => ?_)
      refine lv_iconst (v := 0) hx hb dX12_isAlike_34 (by decide) ?_
      refine lv_istore (lv' := [(4, .int 0), (3, .int 0), (0, .ref h0), (1, .int (nI m9)), (2, .int (nI o9))]) hx hb dX12_isAlike_35 hl (by decide) rfl (fun ls hl => ?_)
      have loop_o : ∀ (n_o : Nat) (p2 : Nat) (sm : Nat) (H : Heap) (locs : List Loc) (ls : Array Slot), p2 ≤ (qm + 1) → (qm + 1) + 1 ≤ p2 + n_o → (sm ≤ 1) → (If (sm = 1) (B 41 m9 = B 41 o9 ∧ resF (B 39) (B 21) m9 = resF (B 39) (B 21) o9)) → (If (sm = 1) (∀ i : Nat, i < p2 → ytF B (pm + i) = ytF B (po + i))) → (If (sm = 1) (qm = qo)) → va_P G.1 pCl (mW G h0 a F B) H → va_D A (mW G h0 a F B) → va_S A s.heap H locs → lv_has ls 5 [(4, .int (nI p2)), (3, .int (nI sm)), (2, .int (nI o9)), (1, .int (nI m9)), (0, .ref h0)] → W p l e (headSpec (Cond.code yX12_isAlike cX12_isAlike 5 (some .boolean) :: pw) ({ frames := 3, cells := 0, slots := 0, locals := 81 } : Room)).room s m ([.ref h0, .int (nI m9), .int (nI o9)] : List Value).toArray below meth c H locs 0 0 (MQ below (pQ G A (fun (v : Option Value) (u : Nat) => v = some (.int (nI u)) ∧ (u ≤ 1) ∧ (If (u = 1) (Alk B m9 o9))) (fun u => (mW G h0 a F B))) ([.ref h0, .int (nI m9), .int (nI o9)] : List Value).toArray s ({ frames := 3, cells := 0, slots := 0, locals := 81 } : Room).cells ({ frames := 3, cells := 0, slots := 0, locals := 81 } : Room).slots A) (F0 m 37 ls []) := by
        intro n_o
        induction n_o with
        | zero => intro p2 sm H locs ls hk_o hn_o; omega
        | succ n_o ih_o =>
          intro p2 sm H locs ls hk_o hn_o hsm hs1 hs2 hqo hP hD hS hl
          refine lv_iload_n hx hb dX12_isAlike_37 rfl (lv_at hl 1 rfl) ?_
          refine lv_if_eq (tgt := 105) hx hb dX12_isAlike_38 (by decide) (fun c46 => ?_) (fun c46 => ?_)
          · have n47 : sm = 0 := (nI_eq (a := sm) (b := 0) (by omega) (by omega)).mp c46
            refine lv_iload_n hx hb dX12_isAlike_105 rfl (lv_at hl 1 rfl) ?_
            have hz48 : sm ≤ 1 := (by omega)
            have hz49 : If (sm = 1) (Alk B m9 o9) := (fun e => ⟨(hs1 e).1, (hs1 e).2, fun pm2 po2 q i h1 h2 h3 z1 z2 z3 h4 => by rw [← (nI_eq (by omega) (by omega)).mp (hm1.symm.trans h1), ← (nI_eq (by omega) (by omega)).mp (ho1.symm.trans h2)]; exact hs2 e i (by have := (nI_eq (by omega) (by omega)).mp (hm2.symm.trans h3); omega)⟩)
            have hP : va_P G.1 pCl (mW G h0 a F B) _ := hP
            have hD : va_D A (mW G h0 a F B) := mW_D hD
            exact W.zret (v := (nI sm)) hx hb hr (nI_nar hsm) (fun t9 ht9 hW9 => ⟨⟨_, sm, rfl, ⟨rfl, hz48, hz49⟩, by rw [ht9]; exact hP, hD⟩, hS.F ht9⟩) hS.2.2 dX12_isAlike_106
          · have n50 : ¬ (sm = 0) := fun h9 => c46 ((nI_eq (a := sm) (b := 0) (by omega) (by omega)).mpr h9)
            have hqq : qm = qo := hqo (by omega)
            refine lv_iload hx hb dX12_isAlike_41 (lv_at hl 0 rfl) ?_
            refine lv_aload_n hx hb dX12_isAlike_43 rfl (lv_at hl 4 rfl) ?_
            refine r_get (v := .ref (a 41)) hx hb hown hq hE hP 55 135 tFX12_55 (by decide) pw_1472 rfl dX12_isAlike_44 ?_
            refine lv_iload_n hx hb dX12_isAlike_47 rfl (lv_at hl 3 rfl) ?_
            refine r_ldi (f := (B 41)) (j := m9) hx hb hE hP 41 (ma_41 G a _) rfl (by omega) (by decide) dX12_isAlike_48 ?_
            refine lv_topi (fun x51 e52 => ?_)
            obtain rfl : x51 = nI qm := e52.trans hm2
            refine lv_icmp_ge (tgt := 105) hx hb dX12_isAlike_49 (by decide) (fun c53 => ?_) (fun c53 => ?_)
            · have n54 : qm ≤ p2 := (nI_leI (a := qm) (b := p2) (by omega) (by omega)).mp c53
              refine lv_iload_n hx hb dX12_isAlike_105 rfl (lv_at hl 1 rfl) ?_
              have hz55 : sm ≤ 1 := (by omega)
              have hz56 : If (sm = 1) (Alk B m9 o9) := (fun e => ⟨(hs1 e).1, (hs1 e).2, fun pm2 po2 q i h1 h2 h3 z1 z2 z3 h4 => by rw [← (nI_eq (by omega) (by omega)).mp (hm1.symm.trans h1), ← (nI_eq (by omega) (by omega)).mp (ho1.symm.trans h2)]; exact hs2 e i (by have := (nI_eq (by omega) (by omega)).mp (hm2.symm.trans h3); omega)⟩)
              have hP : va_P G.1 pCl (mW G h0 a F B) _ := hP
              have hD : va_D A (mW G h0 a F B) := mW_D hD
              exact W.zret (v := (nI sm)) hx hb hr (nI_nar hsm) (fun t9 ht9 hW9 => ⟨⟨_, sm, rfl, ⟨rfl, hz55, hz56⟩, by rw [ht9]; exact hP, hD⟩, hS.F ht9⟩) hS.2.2 dX12_isAlike_106
            · have n57 : ¬ (qm ≤ p2) := fun h9 => c53 ((nI_leI (a := qm) (b := p2) (by omega) (by omega)).mpr h9)
              refine lv_aload_n hx hb dX12_isAlike_52 rfl (lv_at hl 4 rfl) ?_
              refine r_get (v := .ref (a 21)) hx hb hown hq hE hP 30 75 tFX12_30 (by decide) pw_1452 rfl dX12_isAlike_53 ?_
              refine lv_aload_n hx hb dX12_isAlike_56 rfl (lv_at hl 4 rfl) ?_
              refine r_get (v := .ref (a 47)) hx hb hown hq hE hP 63 153 tFX12_63 (by decide) pw_1478 rfl dX12_isAlike_57 ?_
              refine lv_aload_n hx hb dX12_isAlike_60 rfl (lv_at hl 4 rfl) ?_
              refine r_get (v := .ref (a 40)) hx hb hown hq hE hP 54 132 tFX12_54 (by decide) pw_1471 rfl dX12_isAlike_61 ?_
              refine lv_iload_n hx hb dX12_isAlike_64 rfl (lv_at hl 3 rfl) ?_
              refine r_ldi (f := (B 40)) (j := m9) hx hb hE hP 40 (ma_40 G a _) rfl (by omega) (by decide) dX12_isAlike_65 ?_
              refine lv_topi (fun x58 e59 => ?_)
              obtain rfl : x58 = nI pm := e59.trans hm1
              refine lv_iload hx hb dX12_isAlike_66 (lv_at hl 0 rfl) ?_
              refine lv_iadd hx hb dX12_isAlike_68 ?_
              refine lv_topi (fun x60 e61 => ?_)
              obtain rfl : x60 = nI (pm + p2) := e61.trans (nI_add (pm) (p2))
              refine r_ldi (f := (B 47)) (j := (pm + p2)) hx hb hE hP 47 (ma_47 G a _) rfl (by omega) (by decide) dX12_isAlike_69 ?_
              obtain ⟨y62, e63, h64⟩ := (hps.2.2.2.1 (pm + p2) (by omega)).2
              refine lv_topi (fun x65 e66 => ?_)
              obtain rfl : x65 = nI y62 := e66.trans e63
              refine r_ldi (f := (B 21)) (j := y62) hx hb hE hP 21 (ma_21 G a _) rfl (by omega) (by decide) dX12_isAlike_70 ?_
              refine lv_aload_n hx hb dX12_isAlike_71 rfl (lv_at hl 4 rfl) ?_
              refine r_get (v := .ref (a 21)) hx hb hown hq hE hP 30 75 tFX12_30 (by decide) pw_1452 rfl dX12_isAlike_72 ?_
              refine lv_aload_n hx hb dX12_isAlike_75 rfl (lv_at hl 4 rfl) ?_
              refine r_get (v := .ref (a 47)) hx hb hown hq hE hP 63 153 tFX12_63 (by decide) pw_1478 rfl dX12_isAlike_76 ?_
              refine lv_aload_n hx hb dX12_isAlike_79 rfl (lv_at hl 4 rfl) ?_
              refine r_get (v := .ref (a 40)) hx hb hown hq hE hP 54 132 tFX12_54 (by decide) pw_1471 rfl dX12_isAlike_80 ?_
              refine lv_iload_n hx hb dX12_isAlike_83 rfl (lv_at hl 2 rfl) ?_
              refine r_ldi (f := (B 40)) (j := o9) hx hb hE hP 40 (ma_40 G a _) rfl (by omega) (by decide) dX12_isAlike_84 ?_
              refine lv_topi (fun x67 e68 => ?_)
              obtain rfl : x67 = nI po := e68.trans ho1
              refine lv_iload hx hb dX12_isAlike_85 (lv_at hl 0 rfl) ?_
              refine lv_iadd hx hb dX12_isAlike_87 ?_
              refine lv_topi (fun x69 e70 => ?_)
              obtain rfl : x69 = nI (po + p2) := e70.trans (nI_add (po) (p2))
              refine r_ldi (f := (B 47)) (j := (po + p2)) hx hb hE hP 47 (ma_47 G a _) rfl (by omega) (by decide) dX12_isAlike_88 ?_
              obtain ⟨y71, e72, h73⟩ := (hps.2.2.2.1 (po + p2) (by omega)).2
              refine lv_topi (fun x74 e75 => ?_)
              obtain rfl : x74 = nI y71 := e75.trans e72
              refine r_ldi (f := (B 21)) (j := y71) hx hb hE hP 21 (ma_21 G a _) rfl (by omega) (by decide) dX12_isAlike_89 ?_
              refine lv_icmp_ne (tgt := 97) hx hb dX12_isAlike_90 (by decide) (fun c76 => ?_) (fun c76 => ?_)
              · refine lv_iconst (v := 0) hx hb dX12_isAlike_97 (by decide) ?_
                refine lv_istore_n (lv' := [(3, .int 0), (4, .int (nI p2)), (2, .int (nI o9)), (1, .int (nI m9)), (0, .ref h0)]) hx hb dX12_isAlike_98 rfl hl (by decide) rfl (fun ls hl => ?_)
                refine lv_iinc (v := (nI (p2 + 1))) (lv' := [(4, .int (nI (p2 + 1))), (3, .int 0), (2, .int (nI o9)), (1, .int (nI m9)), (0, .ref h0)]) hx hb dX12_isAlike_99 hl (k := 1) rfl (nI_1 p2) (by decide) rfl (fun ls hl => ?_)
                refine lv_goto (tgt := 37) hx hb dX12_isAlike_102 (by decide) ?_
                have hP : va_P G.1 pCl (mW G h0 a F B) _ := hP
                have hD : va_D A (mW G h0 a F B) := mW_D hD
                exact ih_o (p2 + 1) 0 _ _ _ (by omega) (by omega) (by omega) (fun e => absurd e (by decide)) (fun e => absurd e (by decide)) (fun e => absurd e (by decide)) hP hD hS (lv_sub hl [0, 1, 2, 3, 4] rfl)
              · refine lv_iconst (v := 1) hx hb dX12_isAlike_93 (by decide) ?_
                refine lv_goto (tgt := 98) hx hb dX12_isAlike_94 (by decide) ?_
                refine lv_istore_n (lv' := [(3, .int 1), (4, .int (nI p2)), (2, .int (nI o9)), (1, .int (nI m9)), (0, .ref h0)]) hx hb dX12_isAlike_98 rfl hl (by decide) rfl (fun ls hl => ?_)
                refine lv_iinc (v := (nI (p2 + 1))) (lv' := [(4, .int (nI (p2 + 1))), (3, .int 1), (2, .int (nI o9)), (1, .int (nI m9)), (0, .ref h0)]) hx hb dX12_isAlike_99 hl (k := 1) rfl (nI_1 p2) (by decide) rfl (fun ls hl => ?_)
                refine lv_goto (tgt := 37) hx hb dX12_isAlike_102 (by decide) ?_
                have hP : va_P G.1 pCl (mW G h0 a F B) _ := hP
                have hD : va_D A (mW G h0 a F B) := mW_D hD
                exact ih_o (p2 + 1) 1 _ _ _ (by omega) (by omega) (by omega) (fun _ => hs1 (by omega)) (fun _ => all_up (hs2 (by omega)) (by unfold ytF; rw [e63, e72, nI_cl (by omega), nI_cl (by omega)]; exact c76)) (fun _ => hqo (by omega)) hP hD hS (lv_sub hl [0, 1, 2, 3, 4] rfl)
      have hP : va_P G.1 pCl (mW G h0 a F B) _ := hP
      have hD : va_D A (mW G h0 a F B) := mW_D hD
      exact loop_o ((qm + 1) + 1) 0 0 _ _ _ (by omega) (by omega) (by omega) (fun e => absurd e (by decide)) (fun _ i h => absurd h (by omega)) (fun e => absurd e (by decide)) hP hD hS (lv_sub hl [0, 1, 4, 3, 2] rfl)
    · refine lv_iconst (v := 1) hx hb dX12_isAlike_28 (by decide) ?_
      refine lv_goto (tgt := 33) hx hb dX12_isAlike_29 (by decide) ?_
      refine lv_istore_n (lv' := [(3, .int 1), (0, .ref h0), (1, .int (nI m9)), (2, .int (nI o9))]) hx hb dX12_isAlike_33 rfl hl (by decide) rfl (fun ls hl => ?_)
      refine lv_iconst (v := 0) hx hb dX12_isAlike_34 (by decide) ?_
      refine lv_istore (lv' := [(4, .int 0), (3, .int 1), (0, .ref h0), (1, .int (nI m9)), (2, .int (nI o9))]) hx hb dX12_isAlike_35 hl (by decide) rfl (fun ls hl => ?_)
      have hqq : qm = qo := by omega
      have loop_o : ∀ (n_o : Nat) (p2 : Nat) (sm : Nat) (H : Heap) (locs : List Loc) (ls : Array Slot), p2 ≤ (qm + 1) → (qm + 1) + 1 ≤ p2 + n_o → (sm ≤ 1) → (If (sm = 1) (B 41 m9 = B 41 o9 ∧ resF (B 39) (B 21) m9 = resF (B 39) (B 21) o9)) → (If (sm = 1) (∀ i : Nat, i < p2 → ytF B (pm + i) = ytF B (po + i))) → (If (sm = 1) (qm = qo)) → va_P G.1 pCl (mW G h0 a F B) H → va_D A (mW G h0 a F B) → va_S A s.heap H locs → lv_has ls 5 [(4, .int (nI p2)), (3, .int (nI sm)), (2, .int (nI o9)), (1, .int (nI m9)), (0, .ref h0)] → W p l e (headSpec (Cond.code yX12_isAlike cX12_isAlike 5 (some .boolean) :: pw) ({ frames := 3, cells := 0, slots := 0, locals := 81 } : Room)).room s m ([.ref h0, .int (nI m9), .int (nI o9)] : List Value).toArray below meth c H locs 0 0 (MQ below (pQ G A (fun (v : Option Value) (u : Nat) => v = some (.int (nI u)) ∧ (u ≤ 1) ∧ (If (u = 1) (Alk B m9 o9))) (fun u => (mW G h0 a F B))) ([.ref h0, .int (nI m9), .int (nI o9)] : List Value).toArray s ({ frames := 3, cells := 0, slots := 0, locals := 81 } : Room).cells ({ frames := 3, cells := 0, slots := 0, locals := 81 } : Room).slots A) (F0 m 37 ls []) := by
        intro n_o
        induction n_o with
        | zero => intro p2 sm H locs ls hk_o hn_o; omega
        | succ n_o ih_o =>
          intro p2 sm H locs ls hk_o hn_o hsm hs1 hs2 hqo hP hD hS hl
          refine lv_iload_n hx hb dX12_isAlike_37 rfl (lv_at hl 1 rfl) ?_
          refine lv_if_eq (tgt := 105) hx hb dX12_isAlike_38 (by decide) (fun c77 => ?_) (fun c77 => ?_)
          · have n78 : sm = 0 := (nI_eq (a := sm) (b := 0) (by omega) (by omega)).mp c77
            refine lv_iload_n hx hb dX12_isAlike_105 rfl (lv_at hl 1 rfl) ?_
            have hz79 : sm ≤ 1 := (by omega)
            have hz80 : If (sm = 1) (Alk B m9 o9) := (fun e => ⟨(hs1 e).1, (hs1 e).2, fun pm2 po2 q i h1 h2 h3 z1 z2 z3 h4 => by rw [← (nI_eq (by omega) (by omega)).mp (hm1.symm.trans h1), ← (nI_eq (by omega) (by omega)).mp (ho1.symm.trans h2)]; exact hs2 e i (by have := (nI_eq (by omega) (by omega)).mp (hm2.symm.trans h3); omega)⟩)
            have hP : va_P G.1 pCl (mW G h0 a F B) _ := hP
            have hD : va_D A (mW G h0 a F B) := mW_D hD
            exact W.zret (v := (nI sm)) hx hb hr (nI_nar hsm) (fun t9 ht9 hW9 => ⟨⟨_, sm, rfl, ⟨rfl, hz79, hz80⟩, by rw [ht9]; exact hP, hD⟩, hS.F ht9⟩) hS.2.2 dX12_isAlike_106
          · have n81 : ¬ (sm = 0) := fun h9 => c77 ((nI_eq (a := sm) (b := 0) (by omega) (by omega)).mpr h9)
            have hqq : qm = qo := hqo (by omega)
            refine lv_iload hx hb dX12_isAlike_41 (lv_at hl 0 rfl) ?_
            refine lv_aload_n hx hb dX12_isAlike_43 rfl (lv_at hl 4 rfl) ?_
            refine r_get (v := .ref (a 41)) hx hb hown hq hE hP 55 135 tFX12_55 (by decide) pw_1472 rfl dX12_isAlike_44 ?_
            refine lv_iload_n hx hb dX12_isAlike_47 rfl (lv_at hl 3 rfl) ?_
            refine r_ldi (f := (B 41)) (j := m9) hx hb hE hP 41 (ma_41 G a _) rfl (by omega) (by decide) dX12_isAlike_48 ?_
            refine lv_topi (fun x82 e83 => ?_)
            obtain rfl : x82 = nI qm := e83.trans hm2
            refine lv_icmp_ge (tgt := 105) hx hb dX12_isAlike_49 (by decide) (fun c84 => ?_) (fun c84 => ?_)
            · have n85 : qm ≤ p2 := (nI_leI (a := qm) (b := p2) (by omega) (by omega)).mp c84
              refine lv_iload_n hx hb dX12_isAlike_105 rfl (lv_at hl 1 rfl) ?_
              have hz86 : sm ≤ 1 := (by omega)
              have hz87 : If (sm = 1) (Alk B m9 o9) := (fun e => ⟨(hs1 e).1, (hs1 e).2, fun pm2 po2 q i h1 h2 h3 z1 z2 z3 h4 => by rw [← (nI_eq (by omega) (by omega)).mp (hm1.symm.trans h1), ← (nI_eq (by omega) (by omega)).mp (ho1.symm.trans h2)]; exact hs2 e i (by have := (nI_eq (by omega) (by omega)).mp (hm2.symm.trans h3); omega)⟩)
              have hP : va_P G.1 pCl (mW G h0 a F B) _ := hP
              have hD : va_D A (mW G h0 a F B) := mW_D hD
              exact W.zret (v := (nI sm)) hx hb hr (nI_nar hsm) (fun t9 ht9 hW9 => ⟨⟨_, sm, rfl, ⟨rfl, hz86, hz87⟩, by rw [ht9]; exact hP, hD⟩, hS.F ht9⟩) hS.2.2 dX12_isAlike_106
            · have n88 : ¬ (qm ≤ p2) := fun h9 => c84 ((nI_leI (a := qm) (b := p2) (by omega) (by omega)).mpr h9)
              refine lv_aload_n hx hb dX12_isAlike_52 rfl (lv_at hl 4 rfl) ?_
              refine r_get (v := .ref (a 21)) hx hb hown hq hE hP 30 75 tFX12_30 (by decide) pw_1452 rfl dX12_isAlike_53 ?_
              refine lv_aload_n hx hb dX12_isAlike_56 rfl (lv_at hl 4 rfl) ?_
              refine r_get (v := .ref (a 47)) hx hb hown hq hE hP 63 153 tFX12_63 (by decide) pw_1478 rfl dX12_isAlike_57 ?_
              refine lv_aload_n hx hb dX12_isAlike_60 rfl (lv_at hl 4 rfl) ?_
              refine r_get (v := .ref (a 40)) hx hb hown hq hE hP 54 132 tFX12_54 (by decide) pw_1471 rfl dX12_isAlike_61 ?_
              refine lv_iload_n hx hb dX12_isAlike_64 rfl (lv_at hl 3 rfl) ?_
              refine r_ldi (f := (B 40)) (j := m9) hx hb hE hP 40 (ma_40 G a _) rfl (by omega) (by decide) dX12_isAlike_65 ?_
              refine lv_topi (fun x89 e90 => ?_)
              obtain rfl : x89 = nI pm := e90.trans hm1
              refine lv_iload hx hb dX12_isAlike_66 (lv_at hl 0 rfl) ?_
              refine lv_iadd hx hb dX12_isAlike_68 ?_
              refine lv_topi (fun x91 e92 => ?_)
              obtain rfl : x91 = nI (pm + p2) := e92.trans (nI_add (pm) (p2))
              refine r_ldi (f := (B 47)) (j := (pm + p2)) hx hb hE hP 47 (ma_47 G a _) rfl (by omega) (by decide) dX12_isAlike_69 ?_
              obtain ⟨y93, e94, h95⟩ := (hps.2.2.2.1 (pm + p2) (by omega)).2
              refine lv_topi (fun x96 e97 => ?_)
              obtain rfl : x96 = nI y93 := e97.trans e94
              refine r_ldi (f := (B 21)) (j := y93) hx hb hE hP 21 (ma_21 G a _) rfl (by omega) (by decide) dX12_isAlike_70 ?_
              refine lv_aload_n hx hb dX12_isAlike_71 rfl (lv_at hl 4 rfl) ?_
              refine r_get (v := .ref (a 21)) hx hb hown hq hE hP 30 75 tFX12_30 (by decide) pw_1452 rfl dX12_isAlike_72 ?_
              refine lv_aload_n hx hb dX12_isAlike_75 rfl (lv_at hl 4 rfl) ?_
              refine r_get (v := .ref (a 47)) hx hb hown hq hE hP 63 153 tFX12_63 (by decide) pw_1478 rfl dX12_isAlike_76 ?_
              refine lv_aload_n hx hb dX12_isAlike_79 rfl (lv_at hl 4 rfl) ?_
              refine r_get (v := .ref (a 40)) hx hb hown hq hE hP 54 132 tFX12_54 (by decide) pw_1471 rfl dX12_isAlike_80 ?_
              refine lv_iload_n hx hb dX12_isAlike_83 rfl (lv_at hl 2 rfl) ?_
              refine r_ldi (f := (B 40)) (j := o9) hx hb hE hP 40 (ma_40 G a _) rfl (by omega) (by decide) dX12_isAlike_84 ?_
              refine lv_topi (fun x98 e99 => ?_)
              obtain rfl : x98 = nI po := e99.trans ho1
              refine lv_iload hx hb dX12_isAlike_85 (lv_at hl 0 rfl) ?_
              refine lv_iadd hx hb dX12_isAlike_87 ?_
              refine lv_topi (fun x100 e101 => ?_)
              obtain rfl : x100 = nI (po + p2) := e101.trans (nI_add (po) (p2))
              refine r_ldi (f := (B 47)) (j := (po + p2)) hx hb hE hP 47 (ma_47 G a _) rfl (by omega) (by decide) dX12_isAlike_88 ?_
              obtain ⟨y102, e103, h104⟩ := (hps.2.2.2.1 (po + p2) (by omega)).2
              refine lv_topi (fun x105 e106 => ?_)
              obtain rfl : x105 = nI y102 := e106.trans e103
              refine r_ldi (f := (B 21)) (j := y102) hx hb hE hP 21 (ma_21 G a _) rfl (by omega) (by decide) dX12_isAlike_89 ?_
              refine lv_icmp_ne (tgt := 97) hx hb dX12_isAlike_90 (by decide) (fun c107 => ?_) (fun c107 => ?_)
              · refine lv_iconst (v := 0) hx hb dX12_isAlike_97 (by decide) ?_
                refine lv_istore_n (lv' := [(3, .int 0), (4, .int (nI p2)), (2, .int (nI o9)), (1, .int (nI m9)), (0, .ref h0)]) hx hb dX12_isAlike_98 rfl hl (by decide) rfl (fun ls hl => ?_)
                refine lv_iinc (v := (nI (p2 + 1))) (lv' := [(4, .int (nI (p2 + 1))), (3, .int 0), (2, .int (nI o9)), (1, .int (nI m9)), (0, .ref h0)]) hx hb dX12_isAlike_99 hl (k := 1) rfl (nI_1 p2) (by decide) rfl (fun ls hl => ?_)
                refine lv_goto (tgt := 37) hx hb dX12_isAlike_102 (by decide) ?_
                have hP : va_P G.1 pCl (mW G h0 a F B) _ := hP
                have hD : va_D A (mW G h0 a F B) := mW_D hD
                exact ih_o (p2 + 1) 0 _ _ _ (by omega) (by omega) (by omega) (fun e => absurd e (by decide)) (fun e => absurd e (by decide)) (fun e => absurd e (by decide)) hP hD hS (lv_sub hl [0, 1, 2, 3, 4] rfl)
              · refine lv_iconst (v := 1) hx hb dX12_isAlike_93 (by decide) ?_
                refine lv_goto (tgt := 98) hx hb dX12_isAlike_94 (by decide) ?_
                refine lv_istore_n (lv' := [(3, .int 1), (4, .int (nI p2)), (2, .int (nI o9)), (1, .int (nI m9)), (0, .ref h0)]) hx hb dX12_isAlike_98 rfl hl (by decide) rfl (fun ls hl => ?_)
                refine lv_iinc (v := (nI (p2 + 1))) (lv' := [(4, .int (nI (p2 + 1))), (3, .int 1), (2, .int (nI o9)), (1, .int (nI m9)), (0, .ref h0)]) hx hb dX12_isAlike_99 hl (k := 1) rfl (nI_1 p2) (by decide) rfl (fun ls hl => ?_)
                refine lv_goto (tgt := 37) hx hb dX12_isAlike_102 (by decide) ?_
                have hP : va_P G.1 pCl (mW G h0 a F B) _ := hP
                have hD : va_D A (mW G h0 a F B) := mW_D hD
                exact ih_o (p2 + 1) 1 _ _ _ (by omega) (by omega) (by omega) (fun _ => hs1 (by omega)) (fun _ => all_up (hs2 (by omega)) (by unfold ytF; rw [e94, e103, nI_cl (by omega), nI_cl (by omega)]; exact c107)) (fun _ => hqo (by omega)) hP hD hS (lv_sub hl [0, 1, 2, 3, 4] rfl)
      have hP : va_P G.1 pCl (mW G h0 a F B) _ := hP
      have hD : va_D A (mW G h0 a F B) := mW_D hD
      exact loop_o ((qm + 1) + 1) 0 1 _ _ _ (by omega) (by omega) (by omega) (fun e => ⟨by rw [hm2, ho2, hqq], c45⟩) (fun _ i h => absurd h (by omega)) (fun _ => hqq) hP hD hS (lv_sub hl [0, 1, 4, 3, 2] rfl)
