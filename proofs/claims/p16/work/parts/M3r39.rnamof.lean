theorem dX12_namesOf_0 : decode cX12_namesOf 0 = .ok (.iload_n 1, 1) := by decide +kernel
theorem dX12_namesOf_1 : decode cX12_namesOf 1 = .ok (.istore_n 3, 1) := by decide +kernel
theorem dX12_namesOf_2 : decode cX12_namesOf 2 = .ok (.iload_n 3, 1) := by decide +kernel
theorem dX12_namesOf_3 : decode cX12_namesOf 3 = .ok (.iconst (-1), 1) := by decide +kernel
theorem dX12_namesOf_4 : decode cX12_namesOf 4 = .ok (.if_icmp .eq 147, 3) := by decide +kernel
theorem dX12_namesOf_151 : decode cX12_namesOf 151 = .ok (.return_, 1) := by decide +kernel
theorem dX12_namesOf_7 : decode cX12_namesOf 7 = .ok (.aload_n 0, 1) := by decide +kernel
theorem dX12_namesOf_8 : decode cX12_namesOf 8 = .ok (.aload_n 0, 1) := by decide +kernel
theorem dX12_namesOf_9 : decode cX12_namesOf 9 = .ok (.getfield 78, 3) := by decide +kernel
theorem dX12_namesOf_12 : decode cX12_namesOf 12 = .ok (.iload_n 3, 1) := by decide +kernel
theorem dX12_namesOf_13 : decode cX12_namesOf 13 = .ok (.iaload, 1) := by decide +kernel
theorem dX12_namesOf_14 : decode cX12_namesOf 14 = .ok (.invokevirtual 505, 3) := by decide +kernel
theorem dX12_namesOf_17 : decode cX12_namesOf 17 = .ok (.istore 4, 2) := by decide +kernel
theorem dX12_namesOf_19 : decode cX12_namesOf 19 = .ok (.iload 4, 2) := by decide +kernel
theorem dX12_namesOf_21 : decode cX12_namesOf 21 = .ok (.iconst (-1), 1) := by decide +kernel
theorem dX12_namesOf_22 : decode cX12_namesOf 22 = .ok (.if_icmp .eq 25, 3) := by decide +kernel
theorem dX12_namesOf_47 : decode cX12_namesOf 47 = .ok (.iconst 0, 1) := by decide +kernel
theorem dX12_namesOf_48 : decode cX12_namesOf 48 = .ok (.istore 5, 2) := by decide +kernel
theorem dX12_namesOf_50 : decode cX12_namesOf 50 = .ok (.iload_n 1, 1) := by decide +kernel
theorem dX12_namesOf_51 : decode cX12_namesOf 51 = .ok (.istore 6, 2) := by decide +kernel
theorem dX12_namesOf_53 : decode cX12_namesOf 53 = .ok (.iload 6, 2) := by decide +kernel
theorem dX12_namesOf_55 : decode cX12_namesOf 55 = .ok (.iload_n 3, 1) := by decide +kernel
theorem dX12_namesOf_56 : decode cX12_namesOf 56 = .ok (.if_icmp .eq 69, 3) := by decide +kernel
theorem dX12_namesOf_125 : decode cX12_namesOf 125 = .ok (.iload 5, 2) := by decide +kernel
theorem dX12_namesOf_127 : decode cX12_namesOf 127 = .ok (.ifCond .eq 14, 3) := by decide +kernel
theorem dX12_namesOf_141 : decode cX12_namesOf 141 = .ok (.aload_n 0, 1) := by decide +kernel
theorem dX12_namesOf_142 : decode cX12_namesOf 142 = .ok (.getfield 81, 3) := by decide +kernel
theorem dX12_namesOf_145 : decode cX12_namesOf 145 = .ok (.iload_n 3, 1) := by decide +kernel
theorem dX12_namesOf_146 : decode cX12_namesOf 146 = .ok (.iaload, 1) := by decide +kernel
theorem dX12_namesOf_147 : decode cX12_namesOf 147 = .ok (.istore_n 3, 1) := by decide +kernel
theorem dX12_namesOf_148 : decode cX12_namesOf 148 = .ok (.goto (-146), 3) := by decide +kernel
theorem dX12_namesOf_130 : decode cX12_namesOf 130 = .ok (.aload_n 0, 1) := by decide +kernel
theorem dX12_namesOf_131 : decode cX12_namesOf 131 = .ok (.iconst 5, 1) := by decide +kernel
theorem dX12_namesOf_132 : decode cX12_namesOf 132 = .ok (.aload_n 0, 1) := by decide +kernel
theorem dX12_namesOf_133 : decode cX12_namesOf 133 = .ok (.getfield 78, 3) := by decide +kernel
theorem dX12_namesOf_136 : decode cX12_namesOf 136 = .ok (.iload_n 3, 1) := by decide +kernel
theorem dX12_namesOf_137 : decode cX12_namesOf 137 = .ok (.iaload, 1) := by decide +kernel
theorem dX12_namesOf_138 : decode cX12_namesOf 138 = .ok (.invokevirtual 502, 3) := by decide +kernel
theorem dX12_namesOf_59 : decode cX12_namesOf 59 = .ok (.iload 5, 2) := by decide +kernel
theorem dX12_namesOf_61 : decode cX12_namesOf 61 = .ok (.ifCond .ne 45, 3) := by decide +kernel
theorem dX12_namesOf_106 : decode cX12_namesOf 106 = .ok (.iconst 1, 1) := by decide +kernel
theorem dX12_namesOf_107 : decode cX12_namesOf 107 = .ok (.goto 4, 3) := by decide +kernel
theorem dX12_namesOf_111 : decode cX12_namesOf 111 = .ok (.istore 5, 2) := by decide +kernel
theorem dX12_namesOf_113 : decode cX12_namesOf 113 = .ok (.aload_n 0, 1) := by decide +kernel
theorem dX12_namesOf_114 : decode cX12_namesOf 114 = .ok (.getfield 81, 3) := by decide +kernel
theorem dX12_namesOf_117 : decode cX12_namesOf 117 = .ok (.iload 6, 2) := by decide +kernel
theorem dX12_namesOf_119 : decode cX12_namesOf 119 = .ok (.iaload, 1) := by decide +kernel
theorem dX12_namesOf_120 : decode cX12_namesOf 120 = .ok (.istore 6, 2) := by decide +kernel
theorem dX12_namesOf_122 : decode cX12_namesOf 122 = .ok (.goto (-69), 3) := by decide +kernel
theorem dX12_namesOf_64 : decode cX12_namesOf 64 = .ok (.aload_n 0, 1) := by decide +kernel
theorem dX12_namesOf_65 : decode cX12_namesOf 65 = .ok (.getfield 25, 3) := by decide +kernel
theorem dX12_namesOf_68 : decode cX12_namesOf 68 = .ok (.aload_n 0, 1) := by decide +kernel
theorem dX12_namesOf_69 : decode cX12_namesOf 69 = .ok (.getfield 78, 3) := by decide +kernel
theorem dX12_namesOf_72 : decode cX12_namesOf 72 = .ok (.iload 6, 2) := by decide +kernel
theorem dX12_namesOf_74 : decode cX12_namesOf 74 = .ok (.iaload, 1) := by decide +kernel
theorem dX12_namesOf_75 : decode cX12_namesOf 75 = .ok (.iaload, 1) := by decide +kernel
theorem dX12_namesOf_76 : decode cX12_namesOf 76 = .ok (.aload_n 0, 1) := by decide +kernel
theorem dX12_namesOf_77 : decode cX12_namesOf 77 = .ok (.getfield 25, 3) := by decide +kernel
theorem dX12_namesOf_80 : decode cX12_namesOf 80 = .ok (.aload_n 0, 1) := by decide +kernel
theorem dX12_namesOf_81 : decode cX12_namesOf 81 = .ok (.getfield 78, 3) := by decide +kernel
theorem dX12_namesOf_84 : decode cX12_namesOf 84 = .ok (.iload_n 3, 1) := by decide +kernel
theorem dX12_namesOf_85 : decode cX12_namesOf 85 = .ok (.iaload, 1) := by decide +kernel
theorem dX12_namesOf_86 : decode cX12_namesOf 86 = .ok (.iaload, 1) := by decide +kernel
theorem dX12_namesOf_87 : decode cX12_namesOf 87 = .ok (.if_icmp .ne 23, 3) := by decide +kernel
theorem dX12_namesOf_110 : decode cX12_namesOf 110 = .ok (.iconst 0, 1) := by decide +kernel
theorem dX12_namesOf_90 : decode cX12_namesOf 90 = .ok (.iload 4, 2) := by decide +kernel
theorem dX12_namesOf_92 : decode cX12_namesOf 92 = .ok (.iconst (-1), 1) := by decide +kernel
theorem dX12_namesOf_93 : decode cX12_namesOf 93 = .ok (.if_icmp .eq 17, 3) := by decide +kernel
theorem dX12_namesOf_96 : decode cX12_namesOf 96 = .ok (.aload_n 0, 1) := by decide +kernel
theorem dX12_namesOf_97 : decode cX12_namesOf 97 = .ok (.getfield 90, 3) := by decide +kernel
theorem dX12_namesOf_100 : decode cX12_namesOf 100 = .ok (.iload 4, 2) := by decide +kernel
theorem dX12_namesOf_102 : decode cX12_namesOf 102 = .ok (.baload, 1) := by decide +kernel
theorem dX12_namesOf_103 : decode cX12_namesOf 103 = .ok (.ifCond .eq 7, 3) := by decide +kernel
theorem dX12_namesOf_25 : decode cX12_namesOf 25 = .ok (.aload_n 0, 1) := by decide +kernel
theorem dX12_namesOf_26 : decode cX12_namesOf 26 = .ok (.getfield 90, 3) := by decide +kernel
theorem dX12_namesOf_29 : decode cX12_namesOf 29 = .ok (.iload 4, 2) := by decide +kernel
theorem dX12_namesOf_31 : decode cX12_namesOf 31 = .ok (.baload, 1) := by decide +kernel
theorem dX12_namesOf_32 : decode cX12_namesOf 32 = .ok (.iload_n 2, 1) := by decide +kernel
theorem dX12_namesOf_33 : decode cX12_namesOf 33 = .ok (.if_icmp .eq 14, 3) := by decide +kernel
theorem dX12_namesOf_36 : decode cX12_namesOf 36 = .ok (.aload_n 0, 1) := by decide +kernel
theorem dX12_namesOf_37 : decode cX12_namesOf 37 = .ok (.iconst 5, 1) := by decide +kernel
theorem dX12_namesOf_38 : decode cX12_namesOf 38 = .ok (.aload_n 0, 1) := by decide +kernel
theorem dX12_namesOf_39 : decode cX12_namesOf 39 = .ok (.getfield 78, 3) := by decide +kernel
theorem dX12_namesOf_42 : decode cX12_namesOf 42 = .ok (.iload_n 3, 1) := by decide +kernel
theorem dX12_namesOf_43 : decode cX12_namesOf 43 = .ok (.iaload, 1) := by decide +kernel
theorem dX12_namesOf_44 : decode cX12_namesOf 44 = .ok (.invokevirtual 502, 3) := by decide +kernel
theorem hV_X12_known : yX12_known.cls = RX12 ∧ yX12_known.cls ≠ "java/lang/invoke/MethodHandle" ∧ yX12_known.cls ≠ "java/lang/invoke/VarHandle" ∧ (parseMethodDescriptor yX12_known.desc).map (fun d => d.parameters.length) = some 1 := by decide +kernel
set_option maxHeartbeats 6000000 in
set_option maxRecDepth 100000 in
/-- namesOf(first, wantsInterface) -/
theorem R_namesOf (l : Launch) (G : pT) (h0 : Nat) (a : Nat → Nat) (F : Nat → Int32) (B : Nat → Nat → Int32) (vf : Int32) (bb : Int32) (dc : Nat) (lz : Nat) (T : Nat) (rw : Nat) (ra : Int32) (f : Nat → Int32) (V : Nat → Int32) (lt0 : Nat → Int32) (ln : Nat → Int32) (dI : Nat → Int32) (hvo : OrY vf lz) (hlr : lsRow lt0 ln lz T) (hT : T ≤ 5000) (hlz : lz ≤ 5000) (hdc : dc ≤ 37) (hrw : rw ≤ 15) : PM l G pX0 yX12_namesOf cX12_namesOf 7 none ({ frames := 4, cells := 0, slots := 0, locals := 105 }) [.ref h0, .int vf, .int bb] (mW G h0 a (upd (upd (upd F 35 (nI dc)) 69 ra) 70 (nI rw)) (updA (updA (updA (updA (updA B 5 V) 22 lt0) 23 ln) 24 f) 26 dI)) (fun (v : Option Value) (u : Nat × Int32) => v = none ∧ (rw ≤ 15 * u.1) ∧ (u.1 ≤ 15) ∧ (If (u.1 = 0) (ChnA f V lt0 ln dI dc lz T bb vf))) (fun u => (mW G h0 a (upd (upd (upd F 35 (nI dc)) 69 u.2) 70 (nI u.1)) (updA (updA (updA (updA (updA B 5 V) 22 lt0) 23 ln) 24 f) 26 dI))) := by
  intro sz
  refine Met.ofW (cc := cX12_namesOf) (maxL := 7) (ret := none) (by decide) rfl ?_
  intro p e s m args below meth c s₁ B9 hml hv
  obtain ⟨rfl, hsz, hP, hD0, hE, hX⟩ := hv
  have hx := B9.exec
  have hb := B9.bytes
  have hr := B9.returns
  have hts := atoms_spec (ws := Cond.code yX12_namesOf cX12_namesOf 7 none :: pw) B9.pre
  have hq : ∀ w ∈ pw, w.before _ s = true := fun w h => hts w (List.mem_cons_of_mem _ h)
  have hown : s.vm.findClass RX12 = some m.cls := findClass_of_methodNamed B9.named
  have hlocks := B9.notSynchronized
  subst hsz
  have hD := hD0.self (sz := s.heap.size)
  have hA : ∀ q : Nat, s.heap.size ≤ q → va_A (mW G h0 a (upd (upd (upd F 35 (nI dc)) 69 ra) 70 (nI rw)) (updA (updA (updA (updA (updA B 5 V) 22 lt0) 23 ln) 24 f) 26 dI)) s.heap.size q := fun q h => Or.inr h
  have hP : va_P G.1 pCl (mW G h0 a (upd (upd (upd F 35 (nI dc)) 69 ra) 70 (nI rw)) (updA (updA (updA (updA (updA B 5 V) 22 lt0) 23 ln) 24 f) 26 dI)) s.heap := hP
  generalize va_A (mW G h0 a (upd (upd (upd F 35 (nI dc)) 69 ra) 70 (nI rw)) (updA (updA (updA (updA (updA B 5 V) 22 lt0) 23 ln) 24 f) 26 dI)) s.heap.size = A at hD hE hA ⊢
  have hS : va_S A s.heap s.heap [] := va_S.rf
  have hl := lv_entry ([.ref h0, .int vf, .int bb]) (n := 7) (Nat.le_of_ble_eq_true rfl)
  rw [lg_entry_eq]
  generalize (lg_sl ([.ref h0, .int vf, .int bb]) ++ List.replicate (7 - (lg_sl ([.ref h0, .int vf, .int bb])).length) Slot.unset).toArray = ls at hl ⊢
  have hl : lv_has ls 7 [(0, .ref h0), (1, .int vf), (2, .int bb)] := hl
  refine lv_iload_n hx hb dX12_namesOf_0 rfl (lv_at hl 1 rfl) ?_
  refine lv_istore_n (lv' := [(3, .int vf), (0, .ref h0), (1, .int vf), (2, .int bb)]) hx hb dX12_namesOf_1 rfl hl (by decide) rfl (fun ls hl => ?_)
  have loop_o : ∀ (n_o : Nat) (j : Nat) (rw2 : Nat) (ra2 : Int32) (H : Heap) (locs : List Loc) (ls : Array Slot), j ≤ lz → lz + 1 ≤ j + n_o → (rw ≤ 15 * rw2) → (rw2 ≤ 15) → (If (rw2 = 0) (Chn f V lt0 ln dI dc lz T bb vf j)) → va_P G.1 pCl (mW G h0 a (upd (upd (upd F 35 (nI dc)) 69 ra2) 70 (nI rw2)) (updA (updA (updA (updA (updA B 5 V) 22 lt0) 23 ln) 24 f) 26 dI)) H → va_D A (mW G h0 a (upd (upd (upd F 35 (nI dc)) 69 ra2) 70 (nI rw2)) (updA (updA (updA (updA (updA B 5 V) 22 lt0) 23 ln) 24 f) 26 dI)) → va_S A s.heap H locs → lv_has ls 7 [(3, .int (itr ln vf j)), (2, .int bb), (1, .int vf), (0, .ref h0)] → W p l e (headSpec (Cond.code yX12_namesOf cX12_namesOf 7 none :: pw) ({ frames := 4, cells := 0, slots := 0, locals := 105 } : Room)).room s m ([.ref h0, .int vf, .int bb] : List Value).toArray below meth c H locs 0 0 (MQ below (pQ G A (fun (v : Option Value) (u : Nat × Int32) => v = none ∧ (rw ≤ 15 * u.1) ∧ (u.1 ≤ 15) ∧ (If (u.1 = 0) (ChnA f V lt0 ln dI dc lz T bb vf))) (fun u => (mW G h0 a (upd (upd (upd F 35 (nI dc)) 69 u.2) 70 (nI u.1)) (updA (updA (updA (updA (updA B 5 V) 22 lt0) 23 ln) 24 f) 26 dI)))) ([.ref h0, .int vf, .int bb] : List Value).toArray s ({ frames := 4, cells := 0, slots := 0, locals := 105 } : Room).cells ({ frames := 4, cells := 0, slots := 0, locals := 105 } : Room).slots A) (F0 m 2 ls []) := by
    intro n_o
    induction n_o with
    | zero => intro j rw2 ra2 H locs ls hk_o hn_o; omega
    | succ n_o ih_o =>
      intro j rw2 ra2 H locs ls hk_o hn_o hw1 hw2 hch hP hD hS hl
      refine lv_iload_n hx hb dX12_namesOf_2 rfl (lv_at hl 0 rfl) ?_
      refine lv_iconst (v := (-1)) hx hb dX12_namesOf_3 (by decide) ?_
      refine lv_icmp_eq (tgt := 151) hx hb dX12_namesOf_4 (by decide) (fun c1 => ?_) (fun c1 => ?_)
      · have hz2 : rw ≤ 15 * rw2 := (by omega)
        have hz3 : rw2 ≤ 15 := (by omega)
        have hz4 : If (rw2 = 0) (ChnA f V lt0 ln dI dc lz T bb vf) := (fun _ => Chn.all (hch (by omega)) c1)
        have hP : va_P G.1 pCl (mW G h0 a (upd (upd (upd F 35 (nI dc)) 69 ra2) 70 (nI rw2)) (updA (updA (updA (updA (updA B 5 V) 22 lt0) 23 ln) 24 f) 26 dI)) _ := hP
        have hD : va_D A (mW G h0 a (upd (upd (upd F 35 (nI dc)) 69 ra2) 70 (nI rw2)) (updA (updA (updA (updA (updA B 5 V) 22 lt0) 23 ln) 24 f) 26 dI)) := mW_D hD
        exact W.vret hx hb hr (fun t9 ht9 hW9 => ⟨⟨_, (rw2, ra2), rfl, ⟨rfl, hz2, hz3, hz4⟩, by rw [ht9]; exact hP, hD⟩, hS.F ht9⟩) hS.2.2 dX12_namesOf_151
      · obtain ⟨pp, epp, hpp1, hpp2⟩ := (itr_or hlr hvo hlz j).resolve_left c1
        rw [epp] at hl
        refine lv_aload_n hx hb dX12_namesOf_7 rfl (lv_at hl 3 rfl) ?_
        refine lv_aload_n hx hb dX12_namesOf_8 rfl (lv_at hl 3 rfl) ?_
        refine r_get (v := .ref (a 22)) hx hb hown hq hE hP 32 78 tFX12_32 (by decide) pw_1453 rfl dX12_namesOf_9 ?_
        refine lv_iload_n hx hb dX12_namesOf_12 rfl (lv_at hl 0 rfl) ?_
        refine r_ldi (f := lt0) (j := pp) hx hb hE hP 22 (ma_22 G a _) rfl (by omega) (by decide) dX12_namesOf_13 ?_
        obtain ⟨t5, h6, e7⟩ := (hlr pp (by omega)).1
        refine lv_topi (fun x8 e9 => ?_)
        obtain rfl : x8 = nI t5 := e9.trans e7
        have hP : va_P G.1 pCl (mW G h0 a (upd (upd (upd (upd (upd (upd F 35 (nI dc)) 69 ra2) 70 (nI rw2)) 35 (nI dc)) 69 ra2) 70 (nI rw2)) (updA (updA (updA (updA (updA (updA (updA B 5 V) 22 lt0) 23 ln) 24 f) 26 dI) 5 V) 24 f)) _ := mW_to (F := F) (l1 := [(35, (nI dc)), (69, ra2), (70, (nI rw2))]) (l2 := [(35, (nI dc)), (69, ra2), (70, (nI rw2)), (35, (nI dc)), (69, ra2), (70, (nI rw2))]) (V := [(nI dc), ra2, (nI rw2), (nI dc), ra2, (nI rw2), (nI dc), ra2, (nI rw2)]) rfl rfl (show (updA (updA (updA (updA (updA B 5 V) 22 lt0) 23 ln) 24 f) 26 dI) = (updA (updA (updA (updA (updA (updA (updA B 5 V) 22 lt0) 23 ln) 24 f) 26 dI) 5 V) 24 f) from updsA_eq2 (F := B) (l1 := [(5, V), (22, lt0), (23, ln), (24, f), (26, dI)]) (l2 := [(5, V), (22, lt0), (23, ln), (24, f), (26, dI), (5, V), (24, f)]) (V := [V, lt0, ln, f, dI, V, lt0, ln, f, dI, V, f]) rfl rfl) hP
        have hD : va_D A (mW G h0 a (upd (upd (upd (upd (upd (upd F 35 (nI dc)) 69 ra2) 70 (nI rw2)) 35 (nI dc)) 69 ra2) 70 (nI rw2)) (updA (updA (updA (updA (updA (updA (updA B 5 V) 22 lt0) 23 ln) 24 f) 26 dI) 5 V) 24 f)) := mW_D hD
        refine pc_V0 (G := G) (As := [.int (nI t5)]) (rest := []) hx hb hml hown hq hE hX pX0_al hP hD hS hA hl.1 (R_known l G h0 a (upd (upd (upd F 35 (nI dc)) 69 ra2) 70 (nI rw2)) (updA (updA (updA (updA (updA B 5 V) 22 lt0) 23 ln) 24 f) 26 dI) t5 dc rw2 ra2 f V (by omega) (by omega) (by omega)) (gV pw_1753 pw_1754 pw_1755 pw_1523 pw_1745) hV_X12_known 0 9 rfl rfl rfl rfl (Nat.le_of_ble_eq_true rfl) dX12_namesOf_14 ⟨Nat.le_of_ble_eq_true rfl, Nat.le_of_ble_eq_true rfl⟩ ⟨Nat.le_of_ble_eq_true rfl, Nat.le_of_ble_eq_true rfl⟩ (fun v12 u10 H locs hw11 hP hD hS => ?_)
        obtain ⟨rw13, ra14⟩ := u10
        obtain ⟨hw11, h15, h16, h17⟩ := hw11
        replace h15 : rw2 ≤ 15 * rw13 := h15
        replace h16 : rw13 ≤ 15 := h16
        replace h17 : If (rw13 = 0) (¬ dOf f (V t5) dc 0 = -1) := h17
        obtain rfl : v12 = some (.int (dOf f (V t5) dc 0)) := hw11
        have hP : va_P G.1 pCl (mW G h0 a (upd (upd (upd F 35 (nI dc)) 69 ra14) 70 (nI rw13)) (updA (updA (updA (updA (updA B 5 V) 22 lt0) 23 ln) 24 f) 26 dI)) _ := mW_to (F := F) (l1 := [(35, (nI dc)), (69, ra2), (70, (nI rw2)), (35, (nI dc)), (69, ra14), (70, (nI rw13))]) (l2 := [(35, (nI dc)), (69, ra14), (70, (nI rw13))]) (V := [(nI dc), ra14, (nI rw13), (nI dc), ra14, (nI rw13), (nI dc), ra14, (nI rw13)]) rfl rfl (show (updA (updA (updA (updA (updA (updA (updA B 5 V) 22 lt0) 23 ln) 24 f) 26 dI) 5 V) 24 f) = (updA (updA (updA (updA (updA B 5 V) 22 lt0) 23 ln) 24 f) 26 dI) from updsA_eq2 (F := B) (l1 := [(5, V), (22, lt0), (23, ln), (24, f), (26, dI), (5, V), (24, f)]) (l2 := [(5, V), (22, lt0), (23, ln), (24, f), (26, dI)]) (V := [V, lt0, ln, f, dI, V, f, V, lt0, ln, f, dI]) rfl rfl) hP
        have hD : va_D A (mW G h0 a (upd (upd (upd F 35 (nI dc)) 69 ra14) 70 (nI rw13)) (updA (updA (updA (updA (updA B 5 V) 22 lt0) 23 ln) 24 f) 26 dI)) := mW_D hD
        refine W.widen (k := 0) (n := 0) (Nat.le_of_ble_eq_true rfl) (Nat.le_of_ble_eq_true rfl) ?_
        refine W.eq (g2 := F0 m 17 ls [.int (dOf f (V t5) dc 0)]) rfl ?_
        refine lv_istore (lv' := [(4, .int (dOf f (V t5) dc 0)), (3, .int (nI pp)), (2, .int bb), (1, .int vf), (0, .ref h0)]) hx hb dX12_namesOf_17 hl (by decide) rfl (fun ls hl => ?_)
        refine lv_iload hx hb dX12_namesOf_19 (lv_at hl 0 rfl) ?_
        refine lv_iconst (v := (-1)) hx hb dX12_namesOf_21 (by decide) ?_
        refine lv_icmp_eq (tgt := 47) hx hb dX12_namesOf_22 (by decide) (fun c18 => ?_) (fun c18 => ?_)
        · refine lv_iconst (v := 0) hx hb dX12_namesOf_47 (by decide) ?_
          refine lv_istore (lv' := [(5, .int 0), (4, .int (dOf f (V t5) dc 0)), (3, .int (nI pp)), (2, .int bb), (1, .int vf), (0, .ref h0)]) hx hb dX12_namesOf_48 hl (by decide) rfl (fun ls hl => ?_)
          refine lv_iload_n hx hb dX12_namesOf_50 rfl (lv_at hl 4 rfl) ?_
          refine lv_istore (lv' := [(6, .int vf), (5, .int 0), (4, .int (dOf f (V t5) dc 0)), (3, .int (nI pp)), (2, .int bb), (1, .int vf), (0, .ref h0)]) hx hb dX12_namesOf_51 hl (by decide) rfl (fun ls hl => ?_)
          have loop_i : ∀ (n_i : Nat) (i2 : Nat) (rwA : Nat) (tw : Nat) (raA : Int32) (dd : Int32) (H : Heap) (locs : List Loc) (ls : Array Slot), i2 ≤ j → j + 1 ≤ i2 + n_i → (rw2 ≤ 15 * rwA) → (rwA ≤ 15) → (tw ≤ 1) → (OrY dd dc) → (If (rwA = 0) (gdM f V lt0 dI dc lz T bb (nI pp))) → va_P G.1 pCl (mW G h0 a (upd (upd (upd F 35 (nI dc)) 69 raA) 70 (nI rwA)) (updA (updA (updA (updA (updA B 5 V) 22 lt0) 23 ln) 24 f) 26 dI)) H → va_D A (mW G h0 a (upd (upd (upd F 35 (nI dc)) 69 raA) 70 (nI rwA)) (updA (updA (updA (updA (updA B 5 V) 22 lt0) 23 ln) 24 f) 26 dI)) → va_S A s.heap H locs → lv_has ls 7 [(6, .int (itr ln vf i2)), (5, .int (nI tw)), (4, .int dd), (3, .int (nI pp)), (2, .int bb), (1, .int vf), (0, .ref h0)] → W p l e (headSpec (Cond.code yX12_namesOf cX12_namesOf 7 none :: pw) ({ frames := 4, cells := 0, slots := 0, locals := 105 } : Room)).room s m ([.ref h0, .int vf, .int bb] : List Value).toArray below meth c H locs 0 0 (MQ below (pQ G A (fun (v : Option Value) (u : Nat × Int32) => v = none ∧ (rw ≤ 15 * u.1) ∧ (u.1 ≤ 15) ∧ (If (u.1 = 0) (ChnA f V lt0 ln dI dc lz T bb vf))) (fun u => (mW G h0 a (upd (upd (upd F 35 (nI dc)) 69 u.2) 70 (nI u.1)) (updA (updA (updA (updA (updA B 5 V) 22 lt0) 23 ln) 24 f) 26 dI)))) ([.ref h0, .int vf, .int bb] : List Value).toArray s ({ frames := 4, cells := 0, slots := 0, locals := 105 } : Room).cells ({ frames := 4, cells := 0, slots := 0, locals := 105 } : Room).slots A) (F0 m 53 ls []) := by
            intro n_i
            induction n_i with
            | zero => intro i2 rwA tw raA dd H locs ls hk_i hn_i; omega
            | succ n_i ih_i =>
              intro i2 rwA tw raA dd H locs ls hk_i hn_i hu1 hu2 hu3 hd4 hg hP hD hS hl
              refine lv_iload hx hb dX12_namesOf_53 (lv_at hl 0 rfl) ?_
              refine lv_iload_n hx hb dX12_namesOf_55 rfl (lv_at hl 3 rfl) ?_
              refine lv_icmp_eq (tgt := 125) hx hb dX12_namesOf_56 (by decide) (fun c19 => ?_) (fun c19 => ?_)
              · refine lv_iload hx hb dX12_namesOf_125 (lv_at hl 1 rfl) ?_
                refine lv_if_eq (tgt := 141) hx hb dX12_namesOf_127 (by decide) (fun c20 => ?_) (fun c20 => ?_)
                · have n21 : tw = 0 := (nI_eq (a := tw) (b := 0) (by omega) (by omega)).mp c20
                  refine lv_aload_n hx hb dX12_namesOf_141 rfl (lv_at hl 6 rfl) ?_
                  refine r_get (v := .ref (a 23)) hx hb hown hq hE hP 33 81 tFX12_33 (by decide) pw_1454 rfl dX12_namesOf_142 ?_
                  refine lv_iload_n hx hb dX12_namesOf_145 rfl (lv_at hl 3 rfl) ?_
                  refine r_ldi (f := ln) (j := pp) hx hb hE hP 23 (ma_23 G a _) rfl (by omega) (by decide) dX12_namesOf_146 ?_
                  refine lv_topi (fun x22 e23 => ?_)
                  obtain rfl : x22 = itr ln vf (j + 1) := e23.trans (itr_s epp (by omega)).symm
                  refine lv_istore_n (lv' := [(3, .int (itr ln vf (j + 1))), (6, .int (itr ln vf i2)), (5, .int (nI tw)), (4, .int dd), (2, .int bb), (1, .int vf), (0, .ref h0)]) hx hb dX12_namesOf_147 rfl hl (by decide) rfl (fun ls hl => ?_)
                  refine lv_goto (tgt := 2) hx hb dX12_namesOf_148 (by decide) ?_
                  have hP : va_P G.1 pCl (mW G h0 a (upd (upd (upd F 35 (nI dc)) 69 raA) 70 (nI rwA)) (updA (updA (updA (updA (updA B 5 V) 22 lt0) 23 ln) 24 f) 26 dI)) _ := hP
                  have hD : va_D A (mW G h0 a (upd (upd (upd F 35 (nI dc)) 69 raA) 70 (nI rwA)) (updA (updA (updA (updA (updA B 5 V) 22 lt0) 23 ln) 24 f) 26 dI)) := mW_D hD
                  exact ih_o (j + 1) rwA raA _ _ _ (by omega) (by omega) (by omega) (by omega) (fun _ => Chn.succ (hch (by omega)) (by rw [epp]; exact hg (by omega))) hP hD hS (lv_sub hl [0, 4, 5, 6] rfl)
                · have n24 : ¬ (tw = 0) := fun h9 => c20 ((nI_eq (a := tw) (b := 0) (by omega) (by omega)).mpr h9)
                  refine lv_aload_n hx hb dX12_namesOf_130 rfl (lv_at hl 6 rfl) ?_
                  refine lv_iconst (v := 5) hx hb dX12_namesOf_131 (by decide) ?_
                  refine lv_aload_n hx hb dX12_namesOf_132 rfl (lv_at hl 6 rfl) ?_
                  refine r_get (v := .ref (a 22)) hx hb hown hq hE hP 32 78 tFX12_32 (by decide) pw_1453 rfl dX12_namesOf_133 ?_
                  refine lv_iload_n hx hb dX12_namesOf_136 rfl (lv_at hl 3 rfl) ?_
                  refine r_ldi (f := lt0) (j := pp) hx hb hE hP 22 (ma_22 G a _) rfl (by omega) (by decide) dX12_namesOf_137 ?_
                  obtain ⟨t25, h26, e27⟩ := (hlr pp (by omega)).1
                  refine lv_topi (fun x28 e29 => ?_)
                  obtain rfl : x28 = nI t25 := e29.trans e27
                  have hP : va_P G.1 pCl (mW G h0 a (upd (upd (upd (upd (upd F 35 (nI dc)) 69 raA) 70 (nI rwA)) 69 raA) 70 (nI rwA)) (updA (updA (updA (updA (updA B 5 V) 22 lt0) 23 ln) 24 f) 26 dI)) _ := mW_to (F := F) (l1 := [(35, (nI dc)), (69, raA), (70, (nI rwA))]) (l2 := [(35, (nI dc)), (69, raA), (70, (nI rwA)), (69, raA), (70, (nI rwA))]) (V := [(nI dc), raA, (nI rwA), (nI dc), raA, (nI rwA), raA, (nI rwA)]) rfl rfl rfl hP
                  have hD : va_D A (mW G h0 a (upd (upd (upd (upd (upd F 35 (nI dc)) 69 raA) 70 (nI rwA)) 69 raA) 70 (nI rwA)) (updA (updA (updA (updA (updA B 5 V) 22 lt0) 23 ln) 24 f) 26 dI)) := mW_D hD
                  refine pc_V0 (G := G) (As := [.int (nI 5), .int (nI t25)]) (rest := []) hx hb hml hown hq hE hX pX0_al hP hD hS hA hl.1 (R_note l G h0 a (upd (upd (upd F 35 (nI dc)) 69 raA) 70 (nI rwA)) (updA (updA (updA (updA (updA B 5 V) 22 lt0) 23 ln) 24 f) 26 dI) 5 t25 rwA raA (by omega) (by omega) (by omega)) (gV pw_1749 pw_1750 pw_1751 pw_1523 pw_1740) hV_X12_note 0 9 rfl rfl rfl rfl (Nat.le_of_ble_eq_true rfl) dX12_namesOf_138 ⟨Nat.le_of_ble_eq_true rfl, Nat.le_of_ble_eq_true rfl⟩ ⟨Nat.le_of_ble_eq_true rfl, Nat.le_of_ble_eq_true rfl⟩ (fun v32 u30 H locs hw31 hP hD hS => ?_)
                  obtain ⟨rw33, ra34⟩ := u30
                  obtain ⟨hw31, h35, h36⟩ := hw31
                  replace h35 : 0 < rw33 := h35
                  replace h36 : rw33 ≤ 15 := h36
                  obtain rfl : v32 = none := hw31
                  have hP : va_P G.1 pCl (mW G h0 a (upd (upd (upd F 35 (nI dc)) 69 ra34) 70 (nI rw33)) (updA (updA (updA (updA (updA B 5 V) 22 lt0) 23 ln) 24 f) 26 dI)) _ := mW_to (F := F) (l1 := [(35, (nI dc)), (69, raA), (70, (nI rwA)), (69, ra34), (70, (nI rw33))]) (l2 := [(35, (nI dc)), (69, ra34), (70, (nI rw33))]) (V := [(nI dc), ra34, (nI rw33), ra34, (nI rw33), (nI dc), ra34, (nI rw33)]) rfl rfl rfl hP
                  have hD : va_D A (mW G h0 a (upd (upd (upd F 35 (nI dc)) 69 ra34) 70 (nI rw33)) (updA (updA (updA (updA (updA B 5 V) 22 lt0) 23 ln) 24 f) 26 dI)) := mW_D hD
                  refine W.widen (k := 0) (n := 0) (Nat.le_of_ble_eq_true rfl) (Nat.le_of_ble_eq_true rfl) ?_
                  refine W.eq (g2 := F0 m 141 ls []) rfl ?_
                  refine lv_aload_n hx hb dX12_namesOf_141 rfl (lv_at hl 6 rfl) ?_
                  refine r_get (v := .ref (a 23)) hx hb hown hq hE hP 33 81 tFX12_33 (by decide) pw_1454 rfl dX12_namesOf_142 ?_
                  refine lv_iload_n hx hb dX12_namesOf_145 rfl (lv_at hl 3 rfl) ?_
                  refine r_ldi (f := ln) (j := pp) hx hb hE hP 23 (ma_23 G a _) rfl (by omega) (by decide) dX12_namesOf_146 ?_
                  refine lv_topi (fun x37 e38 => ?_)
                  obtain rfl : x37 = itr ln vf (j + 1) := e38.trans (itr_s epp (by omega)).symm
                  refine lv_istore_n (lv' := [(3, .int (itr ln vf (j + 1))), (6, .int (itr ln vf i2)), (5, .int (nI tw)), (4, .int dd), (2, .int bb), (1, .int vf), (0, .ref h0)]) hx hb dX12_namesOf_147 rfl hl (by decide) rfl (fun ls hl => ?_)
                  refine lv_goto (tgt := 2) hx hb dX12_namesOf_148 (by decide) ?_
                  have hP : va_P G.1 pCl (mW G h0 a (upd (upd (upd F 35 (nI dc)) 69 ra34) 70 (nI rw33)) (updA (updA (updA (updA (updA B 5 V) 22 lt0) 23 ln) 24 f) 26 dI)) _ := hP
                  have hD : va_D A (mW G h0 a (upd (upd (upd F 35 (nI dc)) 69 ra34) 70 (nI rw33)) (updA (updA (updA (updA (updA B 5 V) 22 lt0) 23 ln) 24 f) 26 dI)) := mW_D hD
                  exact ih_o (j + 1) rw33 ra34 _ _ _ (by omega) (by omega) (by omega) (by omega) (fun _ => Chn.succ (hch (by omega)) (by rw [epp]; exact hg (by omega))) hP hD hS (lv_sub hl [0, 4, 5, 6] rfl)
              · have hij : i2 < j := Nat.lt_of_le_of_ne hk_i (fun e => c19 (by rw [e]; exact epp))
                obtain ⟨oo, eoo, ho1, ho2⟩ := (itr_or hlr hvo hlz i2).resolve_left (fun e => nI_m1 (n := pp) (by omega) (epp.symm.trans (itr_m1 e j (by omega))))
                rw [eoo] at hl
                refine lv_iload hx hb dX12_namesOf_59 (lv_at hl 1 rfl) ?_
                refine lv_if_ne (tgt := 106) hx hb dX12_namesOf_61 (by decide) (fun c39 => ?_) (fun c39 => ?_)
                · have n40 : ¬ (tw = 0) := fun h9 => c39 ((nI_eq (a := tw) (b := 0) (by omega) (by omega)).mpr h9)
                  refine lv_iconst (v := 1) hx hb dX12_namesOf_106 (by decide) ?_
                  refine lv_goto (tgt := 111) hx hb dX12_namesOf_107 (by decide) ?_
                  refine lv_istore (lv' := [(5, .int 1), (6, .int (nI oo)), (4, .int dd), (3, .int (nI pp)), (2, .int bb), (1, .int vf), (0, .ref h0)]) hx hb dX12_namesOf_111 hl (by decide) rfl (fun ls hl => ?_)
                  refine lv_aload_n hx hb dX12_namesOf_113 rfl (lv_at hl 6 rfl) ?_
                  refine r_get (v := .ref (a 23)) hx hb hown hq hE hP 33 81 tFX12_33 (by decide) pw_1454 rfl dX12_namesOf_114 ?_
                  refine lv_iload hx hb dX12_namesOf_117 (lv_at hl 1 rfl) ?_
                  refine r_ldi (f := ln) (j := oo) hx hb hE hP 23 (ma_23 G a _) rfl (by omega) (by decide) dX12_namesOf_119 ?_
                  refine lv_topi (fun x41 e42 => ?_)
                  obtain rfl : x41 = itr ln vf (i2 + 1) := e42.trans (itr_s eoo (by omega)).symm
                  refine lv_istore (lv' := [(6, .int (itr ln vf (i2 + 1))), (5, .int 1), (4, .int dd), (3, .int (nI pp)), (2, .int bb), (1, .int vf), (0, .ref h0)]) hx hb dX12_namesOf_120 hl (by decide) rfl (fun ls hl => ?_)
                  refine lv_goto (tgt := 53) hx hb dX12_namesOf_122 (by decide) ?_
                  have hP : va_P G.1 pCl (mW G h0 a (upd (upd (upd F 35 (nI dc)) 69 raA) 70 (nI rwA)) (updA (updA (updA (updA (updA B 5 V) 22 lt0) 23 ln) 24 f) 26 dI)) _ := hP
                  have hD : va_D A (mW G h0 a (upd (upd (upd F 35 (nI dc)) 69 raA) 70 (nI rwA)) (updA (updA (updA (updA (updA B 5 V) 22 lt0) 23 ln) 24 f) 26 dI)) := mW_D hD
                  exact ih_i (i2 + 1) rwA 1 raA dd _ _ _ (by omega) (by omega) (by omega) (by omega) (by omega) hd4 hg hP hD hS (lv_sub hl [0, 1, 2, 3, 4, 5, 6] rfl)
                · have n43 : tw = 0 := (nI_eq (a := tw) (b := 0) (by omega) (by omega)).mp c39
                  refine lv_aload_n hx hb dX12_namesOf_64 rfl (lv_at hl 6 rfl) ?_
                  refine r_get (v := .ref (a 5)) hx hb hown hq hE hP 8 25 tFX12_8 (by decide) pw_1435 rfl dX12_namesOf_65 ?_
                  refine lv_aload_n hx hb dX12_namesOf_68 rfl (lv_at hl 6 rfl) ?_
                  refine r_get (v := .ref (a 22)) hx hb hown hq hE hP 32 78 tFX12_32 (by decide) pw_1453 rfl dX12_namesOf_69 ?_
                  refine lv_iload hx hb dX12_namesOf_72 (lv_at hl 0 rfl) ?_
                  refine r_ldi (f := lt0) (j := oo) hx hb hE hP 22 (ma_22 G a _) rfl (by omega) (by decide) dX12_namesOf_74 ?_
                  obtain ⟨t44, h45, e46⟩ := (hlr oo (by omega)).1
                  refine lv_topi (fun x47 e48 => ?_)
                  obtain rfl : x47 = nI t44 := e48.trans e46
                  refine r_ldi (f := V) (j := t44) hx hb hE hP 5 (ma_5 G a _) rfl (by omega) (by decide) dX12_namesOf_75 ?_
                  refine lv_aload_n hx hb dX12_namesOf_76 rfl (lv_at hl 6 rfl) ?_
                  refine r_get (v := .ref (a 5)) hx hb hown hq hE hP 8 25 tFX12_8 (by decide) pw_1435 rfl dX12_namesOf_77 ?_
                  refine lv_aload_n hx hb dX12_namesOf_80 rfl (lv_at hl 6 rfl) ?_
                  refine r_get (v := .ref (a 22)) hx hb hown hq hE hP 32 78 tFX12_32 (by decide) pw_1453 rfl dX12_namesOf_81 ?_
                  refine lv_iload_n hx hb dX12_namesOf_84 rfl (lv_at hl 3 rfl) ?_
                  refine r_ldi (f := lt0) (j := pp) hx hb hE hP 22 (ma_22 G a _) rfl (by omega) (by decide) dX12_namesOf_85 ?_
                  obtain ⟨t49, h50, e51⟩ := (hlr pp (by omega)).1
                  refine lv_topi (fun x52 e53 => ?_)
                  obtain rfl : x52 = nI t49 := e53.trans e51
                  refine r_ldi (f := V) (j := t49) hx hb hE hP 5 (ma_5 G a _) rfl (by omega) (by decide) dX12_namesOf_86 ?_
                  refine lv_icmp_ne (tgt := 110) hx hb dX12_namesOf_87 (by decide) (fun c54 => ?_) (fun c54 => ?_)
                  · refine lv_iconst (v := 0) hx hb dX12_namesOf_110 (by decide) ?_
                    refine lv_istore (lv' := [(5, .int 0), (6, .int (nI oo)), (4, .int dd), (3, .int (nI pp)), (2, .int bb), (1, .int vf), (0, .ref h0)]) hx hb dX12_namesOf_111 hl (by decide) rfl (fun ls hl => ?_)
                    refine lv_aload_n hx hb dX12_namesOf_113 rfl (lv_at hl 6 rfl) ?_
                    refine r_get (v := .ref (a 23)) hx hb hown hq hE hP 33 81 tFX12_33 (by decide) pw_1454 rfl dX12_namesOf_114 ?_
                    refine lv_iload hx hb dX12_namesOf_117 (lv_at hl 1 rfl) ?_
                    refine r_ldi (f := ln) (j := oo) hx hb hE hP 23 (ma_23 G a _) rfl (by omega) (by decide) dX12_namesOf_119 ?_
                    refine lv_topi (fun x55 e56 => ?_)
                    obtain rfl : x55 = itr ln vf (i2 + 1) := e56.trans (itr_s eoo (by omega)).symm
                    refine lv_istore (lv' := [(6, .int (itr ln vf (i2 + 1))), (5, .int 0), (4, .int dd), (3, .int (nI pp)), (2, .int bb), (1, .int vf), (0, .ref h0)]) hx hb dX12_namesOf_120 hl (by decide) rfl (fun ls hl => ?_)
                    refine lv_goto (tgt := 53) hx hb dX12_namesOf_122 (by decide) ?_
                    have hP : va_P G.1 pCl (mW G h0 a (upd (upd (upd F 35 (nI dc)) 69 raA) 70 (nI rwA)) (updA (updA (updA (updA (updA B 5 V) 22 lt0) 23 ln) 24 f) 26 dI)) _ := hP
                    have hD : va_D A (mW G h0 a (upd (upd (upd F 35 (nI dc)) 69 raA) 70 (nI rwA)) (updA (updA (updA (updA (updA B 5 V) 22 lt0) 23 ln) 24 f) 26 dI)) := mW_D hD
                    exact ih_i (i2 + 1) rwA 0 raA dd _ _ _ (by omega) (by omega) (by omega) (by omega) (by omega) hd4 hg hP hD hS (lv_sub hl [0, 1, 2, 3, 4, 5, 6] rfl)
                  · refine lv_iload hx hb dX12_namesOf_90 (lv_at hl 2 rfl) ?_
                    refine lv_iconst (v := (-1)) hx hb dX12_namesOf_92 (by decide) ?_
                    refine lv_icmp_eq (tgt := 110) hx hb dX12_namesOf_93 (by decide) (fun c57 => ?_) (fun c57 => ?_)
                    · refine lv_iconst (v := 0) hx hb dX12_namesOf_110 (by decide) ?_
                      refine lv_istore (lv' := [(5, .int 0), (6, .int (nI oo)), (4, .int dd), (3, .int (nI pp)), (2, .int bb), (1, .int vf), (0, .ref h0)]) hx hb dX12_namesOf_111 hl (by decide) rfl (fun ls hl => ?_)
                      refine lv_aload_n hx hb dX12_namesOf_113 rfl (lv_at hl 6 rfl) ?_
                      refine r_get (v := .ref (a 23)) hx hb hown hq hE hP 33 81 tFX12_33 (by decide) pw_1454 rfl dX12_namesOf_114 ?_
                      refine lv_iload hx hb dX12_namesOf_117 (lv_at hl 1 rfl) ?_
                      refine r_ldi (f := ln) (j := oo) hx hb hE hP 23 (ma_23 G a _) rfl (by omega) (by decide) dX12_namesOf_119 ?_
                      refine lv_topi (fun x58 e59 => ?_)
                      obtain rfl : x58 = itr ln vf (i2 + 1) := e59.trans (itr_s eoo (by omega)).symm
                      refine lv_istore (lv' := [(6, .int (itr ln vf (i2 + 1))), (5, .int 0), (4, .int dd), (3, .int (nI pp)), (2, .int bb), (1, .int vf), (0, .ref h0)]) hx hb dX12_namesOf_120 hl (by decide) rfl (fun ls hl => ?_)
                      refine lv_goto (tgt := 53) hx hb dX12_namesOf_122 (by decide) ?_
                      have hP : va_P G.1 pCl (mW G h0 a (upd (upd (upd F 35 (nI dc)) 69 raA) 70 (nI rwA)) (updA (updA (updA (updA (updA B 5 V) 22 lt0) 23 ln) 24 f) 26 dI)) _ := hP
                      have hD : va_D A (mW G h0 a (upd (upd (upd F 35 (nI dc)) 69 raA) 70 (nI rwA)) (updA (updA (updA (updA (updA B 5 V) 22 lt0) 23 ln) 24 f) 26 dI)) := mW_D hD
                      exact ih_i (i2 + 1) rwA 0 raA dd _ _ _ (by omega) (by omega) (by omega) (by omega) (by omega) hd4 hg hP hD hS (lv_sub hl [0, 1, 2, 3, 4, 5, 6] rfl)
                    · obtain ⟨dq, rfl, hdq⟩ := Or.resolve_left hd4 c57
                      refine lv_aload_n hx hb dX12_namesOf_96 rfl (lv_at hl 6 rfl) ?_
                      refine r_get (v := .ref (a 26)) hx hb hown hq hE hP 38 90 tFX12_38 (by decide) pw_1457 rfl dX12_namesOf_97 ?_
                      refine lv_iload hx hb dX12_namesOf_100 (lv_at hl 2 rfl) ?_
                      refine r_ldz (f := dI) (j := dq) hx hb hE hP 26 (ma_26 G a _) rfl (by omega) (by decide) dX12_namesOf_102 ?_
                      refine lv_if_eq (tgt := 110) hx hb dX12_namesOf_103 (by decide) (fun c60 => ?_) (fun c60 => ?_)
                      · refine lv_iconst (v := 0) hx hb dX12_namesOf_110 (by decide) ?_
                        refine lv_istore (lv' := [(5, .int 0), (6, .int (nI oo)), (4, .int (nI dq)), (3, .int (nI pp)), (2, .int bb), (1, .int vf), (0, .ref h0)]) hx hb dX12_namesOf_111 hl (by decide) rfl (fun ls hl => ?_)
                        refine lv_aload_n hx hb dX12_namesOf_113 rfl (lv_at hl 6 rfl) ?_
                        refine r_get (v := .ref (a 23)) hx hb hown hq hE hP 33 81 tFX12_33 (by decide) pw_1454 rfl dX12_namesOf_114 ?_
                        refine lv_iload hx hb dX12_namesOf_117 (lv_at hl 1 rfl) ?_
                        refine r_ldi (f := ln) (j := oo) hx hb hE hP 23 (ma_23 G a _) rfl (by omega) (by decide) dX12_namesOf_119 ?_
                        refine lv_topi (fun x61 e62 => ?_)
                        obtain rfl : x61 = itr ln vf (i2 + 1) := e62.trans (itr_s eoo (by omega)).symm
                        refine lv_istore (lv' := [(6, .int (itr ln vf (i2 + 1))), (5, .int 0), (4, .int (nI dq)), (3, .int (nI pp)), (2, .int bb), (1, .int vf), (0, .ref h0)]) hx hb dX12_namesOf_120 hl (by decide) rfl (fun ls hl => ?_)
                        refine lv_goto (tgt := 53) hx hb dX12_namesOf_122 (by decide) ?_
                        have hP : va_P G.1 pCl (mW G h0 a (upd (upd (upd F 35 (nI dc)) 69 raA) 70 (nI rwA)) (updA (updA (updA (updA (updA B 5 V) 22 lt0) 23 ln) 24 f) 26 dI)) _ := hP
                        have hD : va_D A (mW G h0 a (upd (upd (upd F 35 (nI dc)) 69 raA) 70 (nI rwA)) (updA (updA (updA (updA (updA B 5 V) 22 lt0) 23 ln) 24 f) 26 dI)) := mW_D hD
                        exact ih_i (i2 + 1) rwA 0 raA (nI dq) _ _ _ (by omega) (by omega) (by omega) (by omega) (by omega) (Or.inr ⟨dq, rfl, by omega⟩) hg hP hD hS (lv_sub hl [0, 1, 2, 3, 4, 5, 6] rfl)
                      · refine lv_iconst (v := 1) hx hb dX12_namesOf_106 (by decide) ?_
                        refine lv_goto (tgt := 111) hx hb dX12_namesOf_107 (by decide) ?_
                        refine lv_istore (lv' := [(5, .int 1), (6, .int (nI oo)), (4, .int (nI dq)), (3, .int (nI pp)), (2, .int bb), (1, .int vf), (0, .ref h0)]) hx hb dX12_namesOf_111 hl (by decide) rfl (fun ls hl => ?_)
                        refine lv_aload_n hx hb dX12_namesOf_113 rfl (lv_at hl 6 rfl) ?_
                        refine r_get (v := .ref (a 23)) hx hb hown hq hE hP 33 81 tFX12_33 (by decide) pw_1454 rfl dX12_namesOf_114 ?_
                        refine lv_iload hx hb dX12_namesOf_117 (lv_at hl 1 rfl) ?_
                        refine r_ldi (f := ln) (j := oo) hx hb hE hP 23 (ma_23 G a _) rfl (by omega) (by decide) dX12_namesOf_119 ?_
                        refine lv_topi (fun x63 e64 => ?_)
                        obtain rfl : x63 = itr ln vf (i2 + 1) := e64.trans (itr_s eoo (by omega)).symm
                        refine lv_istore (lv' := [(6, .int (itr ln vf (i2 + 1))), (5, .int 1), (4, .int (nI dq)), (3, .int (nI pp)), (2, .int bb), (1, .int vf), (0, .ref h0)]) hx hb dX12_namesOf_120 hl (by decide) rfl (fun ls hl => ?_)
                        refine lv_goto (tgt := 53) hx hb dX12_namesOf_122 (by decide) ?_
                        have hP : va_P G.1 pCl (mW G h0 a (upd (upd (upd F 35 (nI dc)) 69 raA) 70 (nI rwA)) (updA (updA (updA (updA (updA B 5 V) 22 lt0) 23 ln) 24 f) 26 dI)) _ := hP
                        have hD : va_D A (mW G h0 a (upd (upd (upd F 35 (nI dc)) 69 raA) 70 (nI rwA)) (updA (updA (updA (updA (updA B 5 V) 22 lt0) 23 ln) 24 f) 26 dI)) := mW_D hD
                        exact ih_i (i2 + 1) rwA 1 raA (nI dq) _ _ _ (by omega) (by omega) (by omega) (by omega) (by omega) (Or.inr ⟨dq, rfl, by omega⟩) hg hP hD hS (lv_sub hl [0, 1, 2, 3, 4, 5, 6] rfl)
          have hP : va_P G.1 pCl (mW G h0 a (upd (upd (upd F 35 (nI dc)) 69 ra14) 70 (nI rw13)) (updA (updA (updA (updA (updA B 5 V) 22 lt0) 23 ln) 24 f) 26 dI)) _ := hP
          have hD : va_D A (mW G h0 a (upd (upd (upd F 35 (nI dc)) 69 ra14) 70 (nI rw13)) (updA (updA (updA (updA (updA B 5 V) 22 lt0) 23 ln) 24 f) 26 dI)) := mW_D hD
          exact loop_i (j + 1) 0 rw13 0 ra14 (dOf f (V t5) dc 0) _ _ _ (by omega) (by omega) (by omega) (by omega) (by omega) (Or.inl c18) (fun e => absurd c18 (h17 e)) hP hD hS (lv_sub hl [0, 1, 2, 3, 4, 5, 6] rfl)
        · obtain ⟨d65, e66, h67, h68, h69⟩ := (dOf_or dc 0).resolve_left c18
          rw [e66] at hl
          refine lv_aload_n hx hb dX12_namesOf_25 rfl (lv_at hl 4 rfl) ?_
          refine r_get (v := .ref (a 26)) hx hb hown hq hE hP 38 90 tFX12_38 (by decide) pw_1457 rfl dX12_namesOf_26 ?_
          refine lv_iload hx hb dX12_namesOf_29 (lv_at hl 0 rfl) ?_
          refine r_ldz (f := dI) (j := d65) hx hb hE hP 26 (ma_26 G a _) rfl (by omega) (by decide) dX12_namesOf_31 ?_
          refine lv_iload_n hx hb dX12_namesOf_32 rfl (lv_at hl 2 rfl) ?_
          refine lv_icmp_eq (tgt := 47) hx hb dX12_namesOf_33 (by decide) (fun c70 => ?_) (fun c70 => ?_)
          · refine lv_iconst (v := 0) hx hb dX12_namesOf_47 (by decide) ?_
            refine lv_istore (lv' := [(5, .int 0), (4, .int (nI d65)), (3, .int (nI pp)), (2, .int bb), (1, .int vf), (0, .ref h0)]) hx hb dX12_namesOf_48 hl (by decide) rfl (fun ls hl => ?_)
            refine lv_iload_n hx hb dX12_namesOf_50 rfl (lv_at hl 4 rfl) ?_
            refine lv_istore (lv' := [(6, .int vf), (5, .int 0), (4, .int (nI d65)), (3, .int (nI pp)), (2, .int bb), (1, .int vf), (0, .ref h0)]) hx hb dX12_namesOf_51 hl (by decide) rfl (fun ls hl => ?_)
            have loop_i : ∀ (n_i : Nat) (i2 : Nat) (rwA : Nat) (tw : Nat) (raA : Int32) (dd : Int32) (H : Heap) (locs : List Loc) (ls : Array Slot), i2 ≤ j → j + 1 ≤ i2 + n_i → (rw2 ≤ 15 * rwA) → (rwA ≤ 15) → (tw ≤ 1) → (OrY dd dc) → (If (rwA = 0) (gdM f V lt0 dI dc lz T bb (nI pp))) → va_P G.1 pCl (mW G h0 a (upd (upd (upd F 35 (nI dc)) 69 raA) 70 (nI rwA)) (updA (updA (updA (updA (updA B 5 V) 22 lt0) 23 ln) 24 f) 26 dI)) H → va_D A (mW G h0 a (upd (upd (upd F 35 (nI dc)) 69 raA) 70 (nI rwA)) (updA (updA (updA (updA (updA B 5 V) 22 lt0) 23 ln) 24 f) 26 dI)) → va_S A s.heap H locs → lv_has ls 7 [(6, .int (itr ln vf i2)), (5, .int (nI tw)), (4, .int dd), (3, .int (nI pp)), (2, .int bb), (1, .int vf), (0, .ref h0)] → W p l e (headSpec (Cond.code yX12_namesOf cX12_namesOf 7 none :: pw) ({ frames := 4, cells := 0, slots := 0, locals := 105 } : Room)).room s m ([.ref h0, .int vf, .int bb] : List Value).toArray below meth c H locs 0 0 (MQ below (pQ G A (fun (v : Option Value) (u : Nat × Int32) => v = none ∧ (rw ≤ 15 * u.1) ∧ (u.1 ≤ 15) ∧ (If (u.1 = 0) (ChnA f V lt0 ln dI dc lz T bb vf))) (fun u => (mW G h0 a (upd (upd (upd F 35 (nI dc)) 69 u.2) 70 (nI u.1)) (updA (updA (updA (updA (updA B 5 V) 22 lt0) 23 ln) 24 f) 26 dI)))) ([.ref h0, .int vf, .int bb] : List Value).toArray s ({ frames := 4, cells := 0, slots := 0, locals := 105 } : Room).cells ({ frames := 4, cells := 0, slots := 0, locals := 105 } : Room).slots A) (F0 m 53 ls []) := by
              intro n_i
              induction n_i with
              | zero => intro i2 rwA tw raA dd H locs ls hk_i hn_i; omega
              | succ n_i ih_i =>
                intro i2 rwA tw raA dd H locs ls hk_i hn_i hu1 hu2 hu3 hd4 hg hP hD hS hl
                refine lv_iload hx hb dX12_namesOf_53 (lv_at hl 0 rfl) ?_
                refine lv_iload_n hx hb dX12_namesOf_55 rfl (lv_at hl 3 rfl) ?_
                refine lv_icmp_eq (tgt := 125) hx hb dX12_namesOf_56 (by decide) (fun c71 => ?_) (fun c71 => ?_)
                · refine lv_iload hx hb dX12_namesOf_125 (lv_at hl 1 rfl) ?_
                  refine lv_if_eq (tgt := 141) hx hb dX12_namesOf_127 (by decide) (fun c72 => ?_) (fun c72 => ?_)
                  · have n73 : tw = 0 := (nI_eq (a := tw) (b := 0) (by omega) (by omega)).mp c72
                    refine lv_aload_n hx hb dX12_namesOf_141 rfl (lv_at hl 6 rfl) ?_
                    refine r_get (v := .ref (a 23)) hx hb hown hq hE hP 33 81 tFX12_33 (by decide) pw_1454 rfl dX12_namesOf_142 ?_
                    refine lv_iload_n hx hb dX12_namesOf_145 rfl (lv_at hl 3 rfl) ?_
                    refine r_ldi (f := ln) (j := pp) hx hb hE hP 23 (ma_23 G a _) rfl (by omega) (by decide) dX12_namesOf_146 ?_
                    refine lv_topi (fun x74 e75 => ?_)
                    obtain rfl : x74 = itr ln vf (j + 1) := e75.trans (itr_s epp (by omega)).symm
                    refine lv_istore_n (lv' := [(3, .int (itr ln vf (j + 1))), (6, .int (itr ln vf i2)), (5, .int (nI tw)), (4, .int dd), (2, .int bb), (1, .int vf), (0, .ref h0)]) hx hb dX12_namesOf_147 rfl hl (by decide) rfl (fun ls hl => ?_)
                    refine lv_goto (tgt := 2) hx hb dX12_namesOf_148 (by decide) ?_
                    have hP : va_P G.1 pCl (mW G h0 a (upd (upd (upd F 35 (nI dc)) 69 raA) 70 (nI rwA)) (updA (updA (updA (updA (updA B 5 V) 22 lt0) 23 ln) 24 f) 26 dI)) _ := hP
                    have hD : va_D A (mW G h0 a (upd (upd (upd F 35 (nI dc)) 69 raA) 70 (nI rwA)) (updA (updA (updA (updA (updA B 5 V) 22 lt0) 23 ln) 24 f) 26 dI)) := mW_D hD
                    exact ih_o (j + 1) rwA raA _ _ _ (by omega) (by omega) (by omega) (by omega) (fun _ => Chn.succ (hch (by omega)) (by rw [epp]; exact hg (by omega))) hP hD hS (lv_sub hl [0, 4, 5, 6] rfl)
                  · have n76 : ¬ (tw = 0) := fun h9 => c72 ((nI_eq (a := tw) (b := 0) (by omega) (by omega)).mpr h9)
                    refine lv_aload_n hx hb dX12_namesOf_130 rfl (lv_at hl 6 rfl) ?_
                    refine lv_iconst (v := 5) hx hb dX12_namesOf_131 (by decide) ?_
                    refine lv_aload_n hx hb dX12_namesOf_132 rfl (lv_at hl 6 rfl) ?_
                    refine r_get (v := .ref (a 22)) hx hb hown hq hE hP 32 78 tFX12_32 (by decide) pw_1453 rfl dX12_namesOf_133 ?_
                    refine lv_iload_n hx hb dX12_namesOf_136 rfl (lv_at hl 3 rfl) ?_
                    refine r_ldi (f := lt0) (j := pp) hx hb hE hP 22 (ma_22 G a _) rfl (by omega) (by decide) dX12_namesOf_137 ?_
                    obtain ⟨t77, h78, e79⟩ := (hlr pp (by omega)).1
                    refine lv_topi (fun x80 e81 => ?_)
                    obtain rfl : x80 = nI t77 := e81.trans e79
                    have hP : va_P G.1 pCl (mW G h0 a (upd (upd (upd (upd (upd F 35 (nI dc)) 69 raA) 70 (nI rwA)) 69 raA) 70 (nI rwA)) (updA (updA (updA (updA (updA B 5 V) 22 lt0) 23 ln) 24 f) 26 dI)) _ := mW_to (F := F) (l1 := [(35, (nI dc)), (69, raA), (70, (nI rwA))]) (l2 := [(35, (nI dc)), (69, raA), (70, (nI rwA)), (69, raA), (70, (nI rwA))]) (V := [(nI dc), raA, (nI rwA), (nI dc), raA, (nI rwA), raA, (nI rwA)]) rfl rfl rfl hP
                    have hD : va_D A (mW G h0 a (upd (upd (upd (upd (upd F 35 (nI dc)) 69 raA) 70 (nI rwA)) 69 raA) 70 (nI rwA)) (updA (updA (updA (updA (updA B 5 V) 22 lt0) 23 ln) 24 f) 26 dI)) := mW_D hD
                    refine pc_V0 (G := G) (As := [.int (nI 5), .int (nI t77)]) (rest := []) hx hb hml hown hq hE hX pX0_al hP hD hS hA hl.1 (R_note l G h0 a (upd (upd (upd F 35 (nI dc)) 69 raA) 70 (nI rwA)) (updA (updA (updA (updA (updA B 5 V) 22 lt0) 23 ln) 24 f) 26 dI) 5 t77 rwA raA (by omega) (by omega) (by omega)) (gV pw_1749 pw_1750 pw_1751 pw_1523 pw_1740) hV_X12_note 0 9 rfl rfl rfl rfl (Nat.le_of_ble_eq_true rfl) dX12_namesOf_138 ⟨Nat.le_of_ble_eq_true rfl, Nat.le_of_ble_eq_true rfl⟩ ⟨Nat.le_of_ble_eq_true rfl, Nat.le_of_ble_eq_true rfl⟩ (fun v84 u82 H locs hw83 hP hD hS => ?_)
                    obtain ⟨rw85, ra86⟩ := u82
                    obtain ⟨hw83, h87, h88⟩ := hw83
                    replace h87 : 0 < rw85 := h87
                    replace h88 : rw85 ≤ 15 := h88
                    obtain rfl : v84 = none := hw83
                    have hP : va_P G.1 pCl (mW G h0 a (upd (upd (upd F 35 (nI dc)) 69 ra86) 70 (nI rw85)) (updA (updA (updA (updA (updA B 5 V) 22 lt0) 23 ln) 24 f) 26 dI)) _ := mW_to (F := F) (l1 := [(35, (nI dc)), (69, raA), (70, (nI rwA)), (69, ra86), (70, (nI rw85))]) (l2 := [(35, (nI dc)), (69, ra86), (70, (nI rw85))]) (V := [(nI dc), ra86, (nI rw85), ra86, (nI rw85), (nI dc), ra86, (nI rw85)]) rfl rfl rfl hP
                    have hD : va_D A (mW G h0 a (upd (upd (upd F 35 (nI dc)) 69 ra86) 70 (nI rw85)) (updA (updA (updA (updA (updA B 5 V) 22 lt0) 23 ln) 24 f) 26 dI)) := mW_D hD
                    refine W.widen (k := 0) (n := 0) (Nat.le_of_ble_eq_true rfl) (Nat.le_of_ble_eq_true rfl) ?_
                    refine W.eq (g2 := F0 m 141 ls []) rfl ?_
                    refine lv_aload_n hx hb dX12_namesOf_141 rfl (lv_at hl 6 rfl) ?_
                    refine r_get (v := .ref (a 23)) hx hb hown hq hE hP 33 81 tFX12_33 (by decide) pw_1454 rfl dX12_namesOf_142 ?_
                    refine lv_iload_n hx hb dX12_namesOf_145 rfl (lv_at hl 3 rfl) ?_
                    refine r_ldi (f := ln) (j := pp) hx hb hE hP 23 (ma_23 G a _) rfl (by omega) (by decide) dX12_namesOf_146 ?_
                    refine lv_topi (fun x89 e90 => ?_)
                    obtain rfl : x89 = itr ln vf (j + 1) := e90.trans (itr_s epp (by omega)).symm
                    refine lv_istore_n (lv' := [(3, .int (itr ln vf (j + 1))), (6, .int (itr ln vf i2)), (5, .int (nI tw)), (4, .int dd), (2, .int bb), (1, .int vf), (0, .ref h0)]) hx hb dX12_namesOf_147 rfl hl (by decide) rfl (fun ls hl => ?_)
                    refine lv_goto (tgt := 2) hx hb dX12_namesOf_148 (by decide) ?_
                    have hP : va_P G.1 pCl (mW G h0 a (upd (upd (upd F 35 (nI dc)) 69 ra86) 70 (nI rw85)) (updA (updA (updA (updA (updA B 5 V) 22 lt0) 23 ln) 24 f) 26 dI)) _ := hP
                    have hD : va_D A (mW G h0 a (upd (upd (upd F 35 (nI dc)) 69 ra86) 70 (nI rw85)) (updA (updA (updA (updA (updA B 5 V) 22 lt0) 23 ln) 24 f) 26 dI)) := mW_D hD
                    exact ih_o (j + 1) rw85 ra86 _ _ _ (by omega) (by omega) (by omega) (by omega) (fun _ => Chn.succ (hch (by omega)) (by rw [epp]; exact hg (by omega))) hP hD hS (lv_sub hl [0, 4, 5, 6] rfl)
                · have hij : i2 < j := Nat.lt_of_le_of_ne hk_i (fun e => c71 (by rw [e]; exact epp))
                  obtain ⟨oo, eoo, ho1, ho2⟩ := (itr_or hlr hvo hlz i2).resolve_left (fun e => nI_m1 (n := pp) (by omega) (epp.symm.trans (itr_m1 e j (by omega))))
                  rw [eoo] at hl
                  refine lv_iload hx hb dX12_namesOf_59 (lv_at hl 1 rfl) ?_
                  refine lv_if_ne (tgt := 106) hx hb dX12_namesOf_61 (by decide) (fun c91 => ?_) (fun c91 => ?_)
                  · have n92 : ¬ (tw = 0) := fun h9 => c91 ((nI_eq (a := tw) (b := 0) (by omega) (by omega)).mpr h9)
                    refine lv_iconst (v := 1) hx hb dX12_namesOf_106 (by decide) ?_
                    refine lv_goto (tgt := 111) hx hb dX12_namesOf_107 (by decide) ?_
                    refine lv_istore (lv' := [(5, .int 1), (6, .int (nI oo)), (4, .int dd), (3, .int (nI pp)), (2, .int bb), (1, .int vf), (0, .ref h0)]) hx hb dX12_namesOf_111 hl (by decide) rfl (fun ls hl => ?_)
                    refine lv_aload_n hx hb dX12_namesOf_113 rfl (lv_at hl 6 rfl) ?_
                    refine r_get (v := .ref (a 23)) hx hb hown hq hE hP 33 81 tFX12_33 (by decide) pw_1454 rfl dX12_namesOf_114 ?_
                    refine lv_iload hx hb dX12_namesOf_117 (lv_at hl 1 rfl) ?_
                    refine r_ldi (f := ln) (j := oo) hx hb hE hP 23 (ma_23 G a _) rfl (by omega) (by decide) dX12_namesOf_119 ?_
                    refine lv_topi (fun x93 e94 => ?_)
                    obtain rfl : x93 = itr ln vf (i2 + 1) := e94.trans (itr_s eoo (by omega)).symm
                    refine lv_istore (lv' := [(6, .int (itr ln vf (i2 + 1))), (5, .int 1), (4, .int dd), (3, .int (nI pp)), (2, .int bb), (1, .int vf), (0, .ref h0)]) hx hb dX12_namesOf_120 hl (by decide) rfl (fun ls hl => ?_)
                    refine lv_goto (tgt := 53) hx hb dX12_namesOf_122 (by decide) ?_
                    have hP : va_P G.1 pCl (mW G h0 a (upd (upd (upd F 35 (nI dc)) 69 raA) 70 (nI rwA)) (updA (updA (updA (updA (updA B 5 V) 22 lt0) 23 ln) 24 f) 26 dI)) _ := hP
                    have hD : va_D A (mW G h0 a (upd (upd (upd F 35 (nI dc)) 69 raA) 70 (nI rwA)) (updA (updA (updA (updA (updA B 5 V) 22 lt0) 23 ln) 24 f) 26 dI)) := mW_D hD
                    exact ih_i (i2 + 1) rwA 1 raA dd _ _ _ (by omega) (by omega) (by omega) (by omega) (by omega) hd4 hg hP hD hS (lv_sub hl [0, 1, 2, 3, 4, 5, 6] rfl)
                  · have n95 : tw = 0 := (nI_eq (a := tw) (b := 0) (by omega) (by omega)).mp c91
                    refine lv_aload_n hx hb dX12_namesOf_64 rfl (lv_at hl 6 rfl) ?_
                    refine r_get (v := .ref (a 5)) hx hb hown hq hE hP 8 25 tFX12_8 (by decide) pw_1435 rfl dX12_namesOf_65 ?_
                    refine lv_aload_n hx hb dX12_namesOf_68 rfl (lv_at hl 6 rfl) ?_
                    refine r_get (v := .ref (a 22)) hx hb hown hq hE hP 32 78 tFX12_32 (by decide) pw_1453 rfl dX12_namesOf_69 ?_
                    refine lv_iload hx hb dX12_namesOf_72 (lv_at hl 0 rfl) ?_
                    refine r_ldi (f := lt0) (j := oo) hx hb hE hP 22 (ma_22 G a _) rfl (by omega) (by decide) dX12_namesOf_74 ?_
                    obtain ⟨t96, h97, e98⟩ := (hlr oo (by omega)).1
                    refine lv_topi (fun x99 e100 => ?_)
                    obtain rfl : x99 = nI t96 := e100.trans e98
                    refine r_ldi (f := V) (j := t96) hx hb hE hP 5 (ma_5 G a _) rfl (by omega) (by decide) dX12_namesOf_75 ?_
                    refine lv_aload_n hx hb dX12_namesOf_76 rfl (lv_at hl 6 rfl) ?_
                    refine r_get (v := .ref (a 5)) hx hb hown hq hE hP 8 25 tFX12_8 (by decide) pw_1435 rfl dX12_namesOf_77 ?_
                    refine lv_aload_n hx hb dX12_namesOf_80 rfl (lv_at hl 6 rfl) ?_
                    refine r_get (v := .ref (a 22)) hx hb hown hq hE hP 32 78 tFX12_32 (by decide) pw_1453 rfl dX12_namesOf_81 ?_
                    refine lv_iload_n hx hb dX12_namesOf_84 rfl (lv_at hl 3 rfl) ?_
                    refine r_ldi (f := lt0) (j := pp) hx hb hE hP 22 (ma_22 G a _) rfl (by omega) (by decide) dX12_namesOf_85 ?_
                    obtain ⟨t101, h102, e103⟩ := (hlr pp (by omega)).1
                    refine lv_topi (fun x104 e105 => ?_)
                    obtain rfl : x104 = nI t101 := e105.trans e103
                    refine r_ldi (f := V) (j := t101) hx hb hE hP 5 (ma_5 G a _) rfl (by omega) (by decide) dX12_namesOf_86 ?_
                    refine lv_icmp_ne (tgt := 110) hx hb dX12_namesOf_87 (by decide) (fun c106 => ?_) (fun c106 => ?_)
                    · refine lv_iconst (v := 0) hx hb dX12_namesOf_110 (by decide) ?_
                      refine lv_istore (lv' := [(5, .int 0), (6, .int (nI oo)), (4, .int dd), (3, .int (nI pp)), (2, .int bb), (1, .int vf), (0, .ref h0)]) hx hb dX12_namesOf_111 hl (by decide) rfl (fun ls hl => ?_)
                      refine lv_aload_n hx hb dX12_namesOf_113 rfl (lv_at hl 6 rfl) ?_
                      refine r_get (v := .ref (a 23)) hx hb hown hq hE hP 33 81 tFX12_33 (by decide) pw_1454 rfl dX12_namesOf_114 ?_
                      refine lv_iload hx hb dX12_namesOf_117 (lv_at hl 1 rfl) ?_
                      refine r_ldi (f := ln) (j := oo) hx hb hE hP 23 (ma_23 G a _) rfl (by omega) (by decide) dX12_namesOf_119 ?_
                      refine lv_topi (fun x107 e108 => ?_)
                      obtain rfl : x107 = itr ln vf (i2 + 1) := e108.trans (itr_s eoo (by omega)).symm
                      refine lv_istore (lv' := [(6, .int (itr ln vf (i2 + 1))), (5, .int 0), (4, .int dd), (3, .int (nI pp)), (2, .int bb), (1, .int vf), (0, .ref h0)]) hx hb dX12_namesOf_120 hl (by decide) rfl (fun ls hl => ?_)
                      refine lv_goto (tgt := 53) hx hb dX12_namesOf_122 (by decide) ?_
                      have hP : va_P G.1 pCl (mW G h0 a (upd (upd (upd F 35 (nI dc)) 69 raA) 70 (nI rwA)) (updA (updA (updA (updA (updA B 5 V) 22 lt0) 23 ln) 24 f) 26 dI)) _ := hP
                      have hD : va_D A (mW G h0 a (upd (upd (upd F 35 (nI dc)) 69 raA) 70 (nI rwA)) (updA (updA (updA (updA (updA B 5 V) 22 lt0) 23 ln) 24 f) 26 dI)) := mW_D hD
                      exact ih_i (i2 + 1) rwA 0 raA dd _ _ _ (by omega) (by omega) (by omega) (by omega) (by omega) hd4 hg hP hD hS (lv_sub hl [0, 1, 2, 3, 4, 5, 6] rfl)
                    · refine lv_iload hx hb dX12_namesOf_90 (lv_at hl 2 rfl) ?_
                      refine lv_iconst (v := (-1)) hx hb dX12_namesOf_92 (by decide) ?_
                      refine lv_icmp_eq (tgt := 110) hx hb dX12_namesOf_93 (by decide) (fun c109 => ?_) (fun c109 => ?_)
                      · refine lv_iconst (v := 0) hx hb dX12_namesOf_110 (by decide) ?_
                        refine lv_istore (lv' := [(5, .int 0), (6, .int (nI oo)), (4, .int dd), (3, .int (nI pp)), (2, .int bb), (1, .int vf), (0, .ref h0)]) hx hb dX12_namesOf_111 hl (by decide) rfl (fun ls hl => ?_)
                        refine lv_aload_n hx hb dX12_namesOf_113 rfl (lv_at hl 6 rfl) ?_
                        refine r_get (v := .ref (a 23)) hx hb hown hq hE hP 33 81 tFX12_33 (by decide) pw_1454 rfl dX12_namesOf_114 ?_
                        refine lv_iload hx hb dX12_namesOf_117 (lv_at hl 1 rfl) ?_
                        refine r_ldi (f := ln) (j := oo) hx hb hE hP 23 (ma_23 G a _) rfl (by omega) (by decide) dX12_namesOf_119 ?_
                        refine lv_topi (fun x110 e111 => ?_)
                        obtain rfl : x110 = itr ln vf (i2 + 1) := e111.trans (itr_s eoo (by omega)).symm
                        refine lv_istore (lv' := [(6, .int (itr ln vf (i2 + 1))), (5, .int 0), (4, .int dd), (3, .int (nI pp)), (2, .int bb), (1, .int vf), (0, .ref h0)]) hx hb dX12_namesOf_120 hl (by decide) rfl (fun ls hl => ?_)
                        refine lv_goto (tgt := 53) hx hb dX12_namesOf_122 (by decide) ?_
                        have hP : va_P G.1 pCl (mW G h0 a (upd (upd (upd F 35 (nI dc)) 69 raA) 70 (nI rwA)) (updA (updA (updA (updA (updA B 5 V) 22 lt0) 23 ln) 24 f) 26 dI)) _ := hP
                        have hD : va_D A (mW G h0 a (upd (upd (upd F 35 (nI dc)) 69 raA) 70 (nI rwA)) (updA (updA (updA (updA (updA B 5 V) 22 lt0) 23 ln) 24 f) 26 dI)) := mW_D hD
                        exact ih_i (i2 + 1) rwA 0 raA dd _ _ _ (by omega) (by omega) (by omega) (by omega) (by omega) hd4 hg hP hD hS (lv_sub hl [0, 1, 2, 3, 4, 5, 6] rfl)
                      · obtain ⟨dq, rfl, hdq⟩ := Or.resolve_left hd4 c109
                        refine lv_aload_n hx hb dX12_namesOf_96 rfl (lv_at hl 6 rfl) ?_
                        refine r_get (v := .ref (a 26)) hx hb hown hq hE hP 38 90 tFX12_38 (by decide) pw_1457 rfl dX12_namesOf_97 ?_
                        refine lv_iload hx hb dX12_namesOf_100 (lv_at hl 2 rfl) ?_
                        refine r_ldz (f := dI) (j := dq) hx hb hE hP 26 (ma_26 G a _) rfl (by omega) (by decide) dX12_namesOf_102 ?_
                        refine lv_if_eq (tgt := 110) hx hb dX12_namesOf_103 (by decide) (fun c112 => ?_) (fun c112 => ?_)
                        · refine lv_iconst (v := 0) hx hb dX12_namesOf_110 (by decide) ?_
                          refine lv_istore (lv' := [(5, .int 0), (6, .int (nI oo)), (4, .int (nI dq)), (3, .int (nI pp)), (2, .int bb), (1, .int vf), (0, .ref h0)]) hx hb dX12_namesOf_111 hl (by decide) rfl (fun ls hl => ?_)
                          refine lv_aload_n hx hb dX12_namesOf_113 rfl (lv_at hl 6 rfl) ?_
                          refine r_get (v := .ref (a 23)) hx hb hown hq hE hP 33 81 tFX12_33 (by decide) pw_1454 rfl dX12_namesOf_114 ?_
                          refine lv_iload hx hb dX12_namesOf_117 (lv_at hl 1 rfl) ?_
                          refine r_ldi (f := ln) (j := oo) hx hb hE hP 23 (ma_23 G a _) rfl (by omega) (by decide) dX12_namesOf_119 ?_
                          refine lv_topi (fun x113 e114 => ?_)
                          obtain rfl : x113 = itr ln vf (i2 + 1) := e114.trans (itr_s eoo (by omega)).symm
                          refine lv_istore (lv' := [(6, .int (itr ln vf (i2 + 1))), (5, .int 0), (4, .int (nI dq)), (3, .int (nI pp)), (2, .int bb), (1, .int vf), (0, .ref h0)]) hx hb dX12_namesOf_120 hl (by decide) rfl (fun ls hl => ?_)
                          refine lv_goto (tgt := 53) hx hb dX12_namesOf_122 (by decide) ?_
                          have hP : va_P G.1 pCl (mW G h0 a (upd (upd (upd F 35 (nI dc)) 69 raA) 70 (nI rwA)) (updA (updA (updA (updA (updA B 5 V) 22 lt0) 23 ln) 24 f) 26 dI)) _ := hP
                          have hD : va_D A (mW G h0 a (upd (upd (upd F 35 (nI dc)) 69 raA) 70 (nI rwA)) (updA (updA (updA (updA (updA B 5 V) 22 lt0) 23 ln) 24 f) 26 dI)) := mW_D hD
                          exact ih_i (i2 + 1) rwA 0 raA (nI dq) _ _ _ (by omega) (by omega) (by omega) (by omega) (by omega) (Or.inr ⟨dq, rfl, by omega⟩) hg hP hD hS (lv_sub hl [0, 1, 2, 3, 4, 5, 6] rfl)
                        · refine lv_iconst (v := 1) hx hb dX12_namesOf_106 (by decide) ?_
                          refine lv_goto (tgt := 111) hx hb dX12_namesOf_107 (by decide) ?_
                          refine lv_istore (lv' := [(5, .int 1), (6, .int (nI oo)), (4, .int (nI dq)), (3, .int (nI pp)), (2, .int bb), (1, .int vf), (0, .ref h0)]) hx hb dX12_namesOf_111 hl (by decide) rfl (fun ls hl => ?_)
                          refine lv_aload_n hx hb dX12_namesOf_113 rfl (lv_at hl 6 rfl) ?_
                          refine r_get (v := .ref (a 23)) hx hb hown hq hE hP 33 81 tFX12_33 (by decide) pw_1454 rfl dX12_namesOf_114 ?_
                          refine lv_iload hx hb dX12_namesOf_117 (lv_at hl 1 rfl) ?_
                          refine r_ldi (f := ln) (j := oo) hx hb hE hP 23 (ma_23 G a _) rfl (by omega) (by decide) dX12_namesOf_119 ?_
                          refine lv_topi (fun x115 e116 => ?_)
                          obtain rfl : x115 = itr ln vf (i2 + 1) := e116.trans (itr_s eoo (by omega)).symm
                          refine lv_istore (lv' := [(6, .int (itr ln vf (i2 + 1))), (5, .int 1), (4, .int (nI dq)), (3, .int (nI pp)), (2, .int bb), (1, .int vf), (0, .ref h0)]) hx hb dX12_namesOf_120 hl (by decide) rfl (fun ls hl => ?_)
                          refine lv_goto (tgt := 53) hx hb dX12_namesOf_122 (by decide) ?_
                          have hP : va_P G.1 pCl (mW G h0 a (upd (upd (upd F 35 (nI dc)) 69 raA) 70 (nI rwA)) (updA (updA (updA (updA (updA B 5 V) 22 lt0) 23 ln) 24 f) 26 dI)) _ := hP
                          have hD : va_D A (mW G h0 a (upd (upd (upd F 35 (nI dc)) 69 raA) 70 (nI rwA)) (updA (updA (updA (updA (updA B 5 V) 22 lt0) 23 ln) 24 f) 26 dI)) := mW_D hD
                          exact ih_i (i2 + 1) rwA 1 raA (nI dq) _ _ _ (by omega) (by omega) (by omega) (by omega) (by omega) (Or.inr ⟨dq, rfl, by omega⟩) hg hP hD hS (lv_sub hl [0, 1, 2, 3, 4, 5, 6] rfl)
            have hP : va_P G.1 pCl (mW G h0 a (upd (upd (upd F 35 (nI dc)) 69 ra14) 70 (nI rw13)) (updA (updA (updA (updA (updA B 5 V) 22 lt0) 23 ln) 24 f) 26 dI)) _ := hP
            have hD : va_D A (mW G h0 a (upd (upd (upd F 35 (nI dc)) 69 ra14) 70 (nI rw13)) (updA (updA (updA (updA (updA B 5 V) 22 lt0) 23 ln) 24 f) 26 dI)) := mW_D hD
            exact loop_i (j + 1) 0 rw13 0 ra14 (nI d65) _ _ _ (by omega) (by omega) (by omega) (by omega) (by omega) (Or.inr ⟨d65, rfl, by omega⟩) (fun _ => Or.inr ⟨pp, t5, d65, rfl, hpp2, e7, h6, e66, by omega, c70⟩) hP hD hS (lv_sub hl [0, 1, 2, 3, 4, 5, 6] rfl)
          · refine lv_aload_n hx hb dX12_namesOf_36 rfl (lv_at hl 4 rfl) ?_
            refine lv_iconst (v := 5) hx hb dX12_namesOf_37 (by decide) ?_
            refine lv_aload_n hx hb dX12_namesOf_38 rfl (lv_at hl 4 rfl) ?_
            refine r_get (v := .ref (a 22)) hx hb hown hq hE hP 32 78 tFX12_32 (by decide) pw_1453 rfl dX12_namesOf_39 ?_
            refine lv_iload_n hx hb dX12_namesOf_42 rfl (lv_at hl 1 rfl) ?_
            refine r_ldi (f := lt0) (j := pp) hx hb hE hP 22 (ma_22 G a _) rfl (by omega) (by decide) dX12_namesOf_43 ?_
            obtain ⟨t117, h118, e119⟩ := (hlr pp (by omega)).1
            refine lv_topi (fun x120 e121 => ?_)
            obtain rfl : x120 = nI t117 := e121.trans e119
            have hP : va_P G.1 pCl (mW G h0 a (upd (upd (upd (upd (upd F 35 (nI dc)) 69 ra14) 70 (nI rw13)) 69 ra14) 70 (nI rw13)) (updA (updA (updA (updA (updA B 5 V) 22 lt0) 23 ln) 24 f) 26 dI)) _ := mW_to (F := F) (l1 := [(35, (nI dc)), (69, ra14), (70, (nI rw13))]) (l2 := [(35, (nI dc)), (69, ra14), (70, (nI rw13)), (69, ra14), (70, (nI rw13))]) (V := [(nI dc), ra14, (nI rw13), (nI dc), ra14, (nI rw13), ra14, (nI rw13)]) rfl rfl rfl hP
            have hD : va_D A (mW G h0 a (upd (upd (upd (upd (upd F 35 (nI dc)) 69 ra14) 70 (nI rw13)) 69 ra14) 70 (nI rw13)) (updA (updA (updA (updA (updA B 5 V) 22 lt0) 23 ln) 24 f) 26 dI)) := mW_D hD
            refine pc_V0 (G := G) (As := [.int (nI 5), .int (nI t117)]) (rest := []) hx hb hml hown hq hE hX pX0_al hP hD hS hA hl.1 (R_note l G h0 a (upd (upd (upd F 35 (nI dc)) 69 ra14) 70 (nI rw13)) (updA (updA (updA (updA (updA B 5 V) 22 lt0) 23 ln) 24 f) 26 dI) 5 t117 rw13 ra14 (by omega) (by omega) (by omega)) (gV pw_1749 pw_1750 pw_1751 pw_1523 pw_1740) hV_X12_note 0 9 rfl rfl rfl rfl (Nat.le_of_ble_eq_true rfl) dX12_namesOf_44 ⟨Nat.le_of_ble_eq_true rfl, Nat.le_of_ble_eq_true rfl⟩ ⟨Nat.le_of_ble_eq_true rfl, Nat.le_of_ble_eq_true rfl⟩ (fun v124 u122 H locs hw123 hP hD hS => ?_)
            obtain ⟨rw125, ra126⟩ := u122
            obtain ⟨hw123, h127, h128⟩ := hw123
            replace h127 : 0 < rw125 := h127
            replace h128 : rw125 ≤ 15 := h128
            obtain rfl : v124 = none := hw123
            have hP : va_P G.1 pCl (mW G h0 a (upd (upd (upd F 35 (nI dc)) 69 ra126) 70 (nI rw125)) (updA (updA (updA (updA (updA B 5 V) 22 lt0) 23 ln) 24 f) 26 dI)) _ := mW_to (F := F) (l1 := [(35, (nI dc)), (69, ra14), (70, (nI rw13)), (69, ra126), (70, (nI rw125))]) (l2 := [(35, (nI dc)), (69, ra126), (70, (nI rw125))]) (V := [(nI dc), ra126, (nI rw125), ra126, (nI rw125), (nI dc), ra126, (nI rw125)]) rfl rfl rfl hP
            have hD : va_D A (mW G h0 a (upd (upd (upd F 35 (nI dc)) 69 ra126) 70 (nI rw125)) (updA (updA (updA (updA (updA B 5 V) 22 lt0) 23 ln) 24 f) 26 dI)) := mW_D hD
            refine W.widen (k := 0) (n := 0) (Nat.le_of_ble_eq_true rfl) (Nat.le_of_ble_eq_true rfl) ?_
            refine W.eq (g2 := F0 m 47 ls []) rfl ?_
            refine lv_iconst (v := 0) hx hb dX12_namesOf_47 (by decide) ?_
            refine lv_istore (lv' := [(5, .int 0), (4, .int (nI d65)), (3, .int (nI pp)), (2, .int bb), (1, .int vf), (0, .ref h0)]) hx hb dX12_namesOf_48 hl (by decide) rfl (fun ls hl => ?_)
            refine lv_iload_n hx hb dX12_namesOf_50 rfl (lv_at hl 4 rfl) ?_
            refine lv_istore (lv' := [(6, .int vf), (5, .int 0), (4, .int (nI d65)), (3, .int (nI pp)), (2, .int bb), (1, .int vf), (0, .ref h0)]) hx hb dX12_namesOf_51 hl (by decide) rfl (fun ls hl => ?_)
            have loop_i : ∀ (n_i : Nat) (i2 : Nat) (rwA : Nat) (tw : Nat) (raA : Int32) (dd : Int32) (H : Heap) (locs : List Loc) (ls : Array Slot), i2 ≤ j → j + 1 ≤ i2 + n_i → (rw2 ≤ 15 * rwA) → (rwA ≤ 15) → (tw ≤ 1) → (OrY dd dc) → (If (rwA = 0) (gdM f V lt0 dI dc lz T bb (nI pp))) → va_P G.1 pCl (mW G h0 a (upd (upd (upd F 35 (nI dc)) 69 raA) 70 (nI rwA)) (updA (updA (updA (updA (updA B 5 V) 22 lt0) 23 ln) 24 f) 26 dI)) H → va_D A (mW G h0 a (upd (upd (upd F 35 (nI dc)) 69 raA) 70 (nI rwA)) (updA (updA (updA (updA (updA B 5 V) 22 lt0) 23 ln) 24 f) 26 dI)) → va_S A s.heap H locs → lv_has ls 7 [(6, .int (itr ln vf i2)), (5, .int (nI tw)), (4, .int dd), (3, .int (nI pp)), (2, .int bb), (1, .int vf), (0, .ref h0)] → W p l e (headSpec (Cond.code yX12_namesOf cX12_namesOf 7 none :: pw) ({ frames := 4, cells := 0, slots := 0, locals := 105 } : Room)).room s m ([.ref h0, .int vf, .int bb] : List Value).toArray below meth c H locs 0 0 (MQ below (pQ G A (fun (v : Option Value) (u : Nat × Int32) => v = none ∧ (rw ≤ 15 * u.1) ∧ (u.1 ≤ 15) ∧ (If (u.1 = 0) (ChnA f V lt0 ln dI dc lz T bb vf))) (fun u => (mW G h0 a (upd (upd (upd F 35 (nI dc)) 69 u.2) 70 (nI u.1)) (updA (updA (updA (updA (updA B 5 V) 22 lt0) 23 ln) 24 f) 26 dI)))) ([.ref h0, .int vf, .int bb] : List Value).toArray s ({ frames := 4, cells := 0, slots := 0, locals := 105 } : Room).cells ({ frames := 4, cells := 0, slots := 0, locals := 105 } : Room).slots A) (F0 m 53 ls []) := by
              intro n_i
              induction n_i with
              | zero => intro i2 rwA tw raA dd H locs ls hk_i hn_i; omega
              | succ n_i ih_i =>
                intro i2 rwA tw raA dd H locs ls hk_i hn_i hu1 hu2 hu3 hd4 hg hP hD hS hl
                refine lv_iload hx hb dX12_namesOf_53 (lv_at hl 0 rfl) ?_
                refine lv_iload_n hx hb dX12_namesOf_55 rfl (lv_at hl 3 rfl) ?_
                refine lv_icmp_eq (tgt := 125) hx hb dX12_namesOf_56 (by decide) (fun c129 => ?_) (fun c129 => ?_)
                · refine lv_iload hx hb dX12_namesOf_125 (lv_at hl 1 rfl) ?_
                  refine lv_if_eq (tgt := 141) hx hb dX12_namesOf_127 (by decide) (fun c130 => ?_) (fun c130 => ?_)
                  · have n131 : tw = 0 := (nI_eq (a := tw) (b := 0) (by omega) (by omega)).mp c130
                    refine lv_aload_n hx hb dX12_namesOf_141 rfl (lv_at hl 6 rfl) ?_
                    refine r_get (v := .ref (a 23)) hx hb hown hq hE hP 33 81 tFX12_33 (by decide) pw_1454 rfl dX12_namesOf_142 ?_
                    refine lv_iload_n hx hb dX12_namesOf_145 rfl (lv_at hl 3 rfl) ?_
                    refine r_ldi (f := ln) (j := pp) hx hb hE hP 23 (ma_23 G a _) rfl (by omega) (by decide) dX12_namesOf_146 ?_
                    refine lv_topi (fun x132 e133 => ?_)
                    obtain rfl : x132 = itr ln vf (j + 1) := e133.trans (itr_s epp (by omega)).symm
                    refine lv_istore_n (lv' := [(3, .int (itr ln vf (j + 1))), (6, .int (itr ln vf i2)), (5, .int (nI tw)), (4, .int dd), (2, .int bb), (1, .int vf), (0, .ref h0)]) hx hb dX12_namesOf_147 rfl hl (by decide) rfl (fun ls hl => ?_)
                    refine lv_goto (tgt := 2) hx hb dX12_namesOf_148 (by decide) ?_
                    have hP : va_P G.1 pCl (mW G h0 a (upd (upd (upd F 35 (nI dc)) 69 raA) 70 (nI rwA)) (updA (updA (updA (updA (updA B 5 V) 22 lt0) 23 ln) 24 f) 26 dI)) _ := hP
                    have hD : va_D A (mW G h0 a (upd (upd (upd F 35 (nI dc)) 69 raA) 70 (nI rwA)) (updA (updA (updA (updA (updA B 5 V) 22 lt0) 23 ln) 24 f) 26 dI)) := mW_D hD
                    exact ih_o (j + 1) rwA raA _ _ _ (by omega) (by omega) (by omega) (by omega) (fun _ => Chn.succ (hch (by omega)) (by rw [epp]; exact hg (by omega))) hP hD hS (lv_sub hl [0, 4, 5, 6] rfl)
                  · have n134 : ¬ (tw = 0) := fun h9 => c130 ((nI_eq (a := tw) (b := 0) (by omega) (by omega)).mpr h9)
                    refine lv_aload_n hx hb dX12_namesOf_130 rfl (lv_at hl 6 rfl) ?_
                    refine lv_iconst (v := 5) hx hb dX12_namesOf_131 (by decide) ?_
                    refine lv_aload_n hx hb dX12_namesOf_132 rfl (lv_at hl 6 rfl) ?_
                    refine r_get (v := .ref (a 22)) hx hb hown hq hE hP 32 78 tFX12_32 (by decide) pw_1453 rfl dX12_namesOf_133 ?_
                    refine lv_iload_n hx hb dX12_namesOf_136 rfl (lv_at hl 3 rfl) ?_
                    refine r_ldi (f := lt0) (j := pp) hx hb hE hP 22 (ma_22 G a _) rfl (by omega) (by decide) dX12_namesOf_137 ?_
                    obtain ⟨t135, h136, e137⟩ := (hlr pp (by omega)).1
                    refine lv_topi (fun x138 e139 => ?_)
                    obtain rfl : x138 = nI t135 := e139.trans e137
                    have hP : va_P G.1 pCl (mW G h0 a (upd (upd (upd (upd (upd F 35 (nI dc)) 69 raA) 70 (nI rwA)) 69 raA) 70 (nI rwA)) (updA (updA (updA (updA (updA B 5 V) 22 lt0) 23 ln) 24 f) 26 dI)) _ := mW_to (F := F) (l1 := [(35, (nI dc)), (69, raA), (70, (nI rwA))]) (l2 := [(35, (nI dc)), (69, raA), (70, (nI rwA)), (69, raA), (70, (nI rwA))]) (V := [(nI dc), raA, (nI rwA), (nI dc), raA, (nI rwA), raA, (nI rwA)]) rfl rfl rfl hP
                    have hD : va_D A (mW G h0 a (upd (upd (upd (upd (upd F 35 (nI dc)) 69 raA) 70 (nI rwA)) 69 raA) 70 (nI rwA)) (updA (updA (updA (updA (updA B 5 V) 22 lt0) 23 ln) 24 f) 26 dI)) := mW_D hD
                    refine pc_V0 (G := G) (As := [.int (nI 5), .int (nI t135)]) (rest := []) hx hb hml hown hq hE hX pX0_al hP hD hS hA hl.1 (R_note l G h0 a (upd (upd (upd F 35 (nI dc)) 69 raA) 70 (nI rwA)) (updA (updA (updA (updA (updA B 5 V) 22 lt0) 23 ln) 24 f) 26 dI) 5 t135 rwA raA (by omega) (by omega) (by omega)) (gV pw_1749 pw_1750 pw_1751 pw_1523 pw_1740) hV_X12_note 0 9 rfl rfl rfl rfl (Nat.le_of_ble_eq_true rfl) dX12_namesOf_138 ⟨Nat.le_of_ble_eq_true rfl, Nat.le_of_ble_eq_true rfl⟩ ⟨Nat.le_of_ble_eq_true rfl, Nat.le_of_ble_eq_true rfl⟩ (fun v142 u140 H locs hw141 hP hD hS => ?_)
                    obtain ⟨rw143, ra144⟩ := u140
                    obtain ⟨hw141, h145, h146⟩ := hw141
                    replace h145 : 0 < rw143 := h145
                    replace h146 : rw143 ≤ 15 := h146
                    obtain rfl : v142 = none := hw141
                    have hP : va_P G.1 pCl (mW G h0 a (upd (upd (upd F 35 (nI dc)) 69 ra144) 70 (nI rw143)) (updA (updA (updA (updA (updA B 5 V) 22 lt0) 23 ln) 24 f) 26 dI)) _ := mW_to (F := F) (l1 := [(35, (nI dc)), (69, raA), (70, (nI rwA)), (69, ra144), (70, (nI rw143))]) (l2 := [(35, (nI dc)), (69, ra144), (70, (nI rw143))]) (V := [(nI dc), ra144, (nI rw143), ra144, (nI rw143), (nI dc), ra144, (nI rw143)]) rfl rfl rfl hP
                    have hD : va_D A (mW G h0 a (upd (upd (upd F 35 (nI dc)) 69 ra144) 70 (nI rw143)) (updA (updA (updA (updA (updA B 5 V) 22 lt0) 23 ln) 24 f) 26 dI)) := mW_D hD
                    refine W.widen (k := 0) (n := 0) (Nat.le_of_ble_eq_true rfl) (Nat.le_of_ble_eq_true rfl) ?_
                    refine W.eq (g2 := F0 m 141 ls []) rfl ?_
                    refine lv_aload_n hx hb dX12_namesOf_141 rfl (lv_at hl 6 rfl) ?_
                    refine r_get (v := .ref (a 23)) hx hb hown hq hE hP 33 81 tFX12_33 (by decide) pw_1454 rfl dX12_namesOf_142 ?_
                    refine lv_iload_n hx hb dX12_namesOf_145 rfl (lv_at hl 3 rfl) ?_
                    refine r_ldi (f := ln) (j := pp) hx hb hE hP 23 (ma_23 G a _) rfl (by omega) (by decide) dX12_namesOf_146 ?_
                    refine lv_topi (fun x147 e148 => ?_)
                    obtain rfl : x147 = itr ln vf (j + 1) := e148.trans (itr_s epp (by omega)).symm
                    refine lv_istore_n (lv' := [(3, .int (itr ln vf (j + 1))), (6, .int (itr ln vf i2)), (5, .int (nI tw)), (4, .int dd), (2, .int bb), (1, .int vf), (0, .ref h0)]) hx hb dX12_namesOf_147 rfl hl (by decide) rfl (fun ls hl => ?_)
                    refine lv_goto (tgt := 2) hx hb dX12_namesOf_148 (by decide) ?_
                    have hP : va_P G.1 pCl (mW G h0 a (upd (upd (upd F 35 (nI dc)) 69 ra144) 70 (nI rw143)) (updA (updA (updA (updA (updA B 5 V) 22 lt0) 23 ln) 24 f) 26 dI)) _ := hP
                    have hD : va_D A (mW G h0 a (upd (upd (upd F 35 (nI dc)) 69 ra144) 70 (nI rw143)) (updA (updA (updA (updA (updA B 5 V) 22 lt0) 23 ln) 24 f) 26 dI)) := mW_D hD
                    exact ih_o (j + 1) rw143 ra144 _ _ _ (by omega) (by omega) (by omega) (by omega) (fun _ => Chn.succ (hch (by omega)) (by rw [epp]; exact hg (by omega))) hP hD hS (lv_sub hl [0, 4, 5, 6] rfl)
                · have hij : i2 < j := Nat.lt_of_le_of_ne hk_i (fun e => c129 (by rw [e]; exact epp))
                  obtain ⟨oo, eoo, ho1, ho2⟩ := (itr_or hlr hvo hlz i2).resolve_left (fun e => nI_m1 (n := pp) (by omega) (epp.symm.trans (itr_m1 e j (by omega))))
                  rw [eoo] at hl
                  refine lv_iload hx hb dX12_namesOf_59 (lv_at hl 1 rfl) ?_
                  refine lv_if_ne (tgt := 106) hx hb dX12_namesOf_61 (by decide) (fun c149 => ?_) (fun c149 => ?_)
                  · have n150 : ¬ (tw = 0) := fun h9 => c149 ((nI_eq (a := tw) (b := 0) (by omega) (by omega)).mpr h9)
                    refine lv_iconst (v := 1) hx hb dX12_namesOf_106 (by decide) ?_
                    refine lv_goto (tgt := 111) hx hb dX12_namesOf_107 (by decide) ?_
                    refine lv_istore (lv' := [(5, .int 1), (6, .int (nI oo)), (4, .int dd), (3, .int (nI pp)), (2, .int bb), (1, .int vf), (0, .ref h0)]) hx hb dX12_namesOf_111 hl (by decide) rfl (fun ls hl => ?_)
                    refine lv_aload_n hx hb dX12_namesOf_113 rfl (lv_at hl 6 rfl) ?_
                    refine r_get (v := .ref (a 23)) hx hb hown hq hE hP 33 81 tFX12_33 (by decide) pw_1454 rfl dX12_namesOf_114 ?_
                    refine lv_iload hx hb dX12_namesOf_117 (lv_at hl 1 rfl) ?_
                    refine r_ldi (f := ln) (j := oo) hx hb hE hP 23 (ma_23 G a _) rfl (by omega) (by decide) dX12_namesOf_119 ?_
                    refine lv_topi (fun x151 e152 => ?_)
                    obtain rfl : x151 = itr ln vf (i2 + 1) := e152.trans (itr_s eoo (by omega)).symm
                    refine lv_istore (lv' := [(6, .int (itr ln vf (i2 + 1))), (5, .int 1), (4, .int dd), (3, .int (nI pp)), (2, .int bb), (1, .int vf), (0, .ref h0)]) hx hb dX12_namesOf_120 hl (by decide) rfl (fun ls hl => ?_)
                    refine lv_goto (tgt := 53) hx hb dX12_namesOf_122 (by decide) ?_
                    have hP : va_P G.1 pCl (mW G h0 a (upd (upd (upd F 35 (nI dc)) 69 raA) 70 (nI rwA)) (updA (updA (updA (updA (updA B 5 V) 22 lt0) 23 ln) 24 f) 26 dI)) _ := hP
                    have hD : va_D A (mW G h0 a (upd (upd (upd F 35 (nI dc)) 69 raA) 70 (nI rwA)) (updA (updA (updA (updA (updA B 5 V) 22 lt0) 23 ln) 24 f) 26 dI)) := mW_D hD
                    exact ih_i (i2 + 1) rwA 1 raA dd _ _ _ (by omega) (by omega) (by omega) (by omega) (by omega) hd4 hg hP hD hS (lv_sub hl [0, 1, 2, 3, 4, 5, 6] rfl)
                  · have n153 : tw = 0 := (nI_eq (a := tw) (b := 0) (by omega) (by omega)).mp c149
                    refine lv_aload_n hx hb dX12_namesOf_64 rfl (lv_at hl 6 rfl) ?_
                    refine r_get (v := .ref (a 5)) hx hb hown hq hE hP 8 25 tFX12_8 (by decide) pw_1435 rfl dX12_namesOf_65 ?_
                    refine lv_aload_n hx hb dX12_namesOf_68 rfl (lv_at hl 6 rfl) ?_
                    refine r_get (v := .ref (a 22)) hx hb hown hq hE hP 32 78 tFX12_32 (by decide) pw_1453 rfl dX12_namesOf_69 ?_
                    refine lv_iload hx hb dX12_namesOf_72 (lv_at hl 0 rfl) ?_
                    refine r_ldi (f := lt0) (j := oo) hx hb hE hP 22 (ma_22 G a _) rfl (by omega) (by decide) dX12_namesOf_74 ?_
                    obtain ⟨t154, h155, e156⟩ := (hlr oo (by omega)).1
                    refine lv_topi (fun x157 e158 => ?_)
                    obtain rfl : x157 = nI t154 := e158.trans e156
                    refine r_ldi (f := V) (j := t154) hx hb hE hP 5 (ma_5 G a _) rfl (by omega) (by decide) dX12_namesOf_75 ?_
                    refine lv_aload_n hx hb dX12_namesOf_76 rfl (lv_at hl 6 rfl) ?_
                    refine r_get (v := .ref (a 5)) hx hb hown hq hE hP 8 25 tFX12_8 (by decide) pw_1435 rfl dX12_namesOf_77 ?_
                    refine lv_aload_n hx hb dX12_namesOf_80 rfl (lv_at hl 6 rfl) ?_
                    refine r_get (v := .ref (a 22)) hx hb hown hq hE hP 32 78 tFX12_32 (by decide) pw_1453 rfl dX12_namesOf_81 ?_
                    refine lv_iload_n hx hb dX12_namesOf_84 rfl (lv_at hl 3 rfl) ?_
                    refine r_ldi (f := lt0) (j := pp) hx hb hE hP 22 (ma_22 G a _) rfl (by omega) (by decide) dX12_namesOf_85 ?_
                    obtain ⟨t159, h160, e161⟩ := (hlr pp (by omega)).1
                    refine lv_topi (fun x162 e163 => ?_)
                    obtain rfl : x162 = nI t159 := e163.trans e161
                    refine r_ldi (f := V) (j := t159) hx hb hE hP 5 (ma_5 G a _) rfl (by omega) (by decide) dX12_namesOf_86 ?_
                    refine lv_icmp_ne (tgt := 110) hx hb dX12_namesOf_87 (by decide) (fun c164 => ?_) (fun c164 => ?_)
                    · refine lv_iconst (v := 0) hx hb dX12_namesOf_110 (by decide) ?_
                      refine lv_istore (lv' := [(5, .int 0), (6, .int (nI oo)), (4, .int dd), (3, .int (nI pp)), (2, .int bb), (1, .int vf), (0, .ref h0)]) hx hb dX12_namesOf_111 hl (by decide) rfl (fun ls hl => ?_)
                      refine lv_aload_n hx hb dX12_namesOf_113 rfl (lv_at hl 6 rfl) ?_
                      refine r_get (v := .ref (a 23)) hx hb hown hq hE hP 33 81 tFX12_33 (by decide) pw_1454 rfl dX12_namesOf_114 ?_
                      refine lv_iload hx hb dX12_namesOf_117 (lv_at hl 1 rfl) ?_
                      refine r_ldi (f := ln) (j := oo) hx hb hE hP 23 (ma_23 G a _) rfl (by omega) (by decide) dX12_namesOf_119 ?_
                      refine lv_topi (fun x165 e166 => ?_)
                      obtain rfl : x165 = itr ln vf (i2 + 1) := e166.trans (itr_s eoo (by omega)).symm
                      refine lv_istore (lv' := [(6, .int (itr ln vf (i2 + 1))), (5, .int 0), (4, .int dd), (3, .int (nI pp)), (2, .int bb), (1, .int vf), (0, .ref h0)]) hx hb dX12_namesOf_120 hl (by decide) rfl (fun ls hl => ?_)
                      refine lv_goto (tgt := 53) hx hb dX12_namesOf_122 (by decide) ?_
                      have hP : va_P G.1 pCl (mW G h0 a (upd (upd (upd F 35 (nI dc)) 69 raA) 70 (nI rwA)) (updA (updA (updA (updA (updA B 5 V) 22 lt0) 23 ln) 24 f) 26 dI)) _ := hP
                      have hD : va_D A (mW G h0 a (upd (upd (upd F 35 (nI dc)) 69 raA) 70 (nI rwA)) (updA (updA (updA (updA (updA B 5 V) 22 lt0) 23 ln) 24 f) 26 dI)) := mW_D hD
                      exact ih_i (i2 + 1) rwA 0 raA dd _ _ _ (by omega) (by omega) (by omega) (by omega) (by omega) hd4 hg hP hD hS (lv_sub hl [0, 1, 2, 3, 4, 5, 6] rfl)
                    · refine lv_iload hx hb dX12_namesOf_90 (lv_at hl 2 rfl) ?_
                      refine lv_iconst (v := (-1)) hx hb dX12_namesOf_92 (by decide) ?_
                      refine lv_icmp_eq (tgt := 110) hx hb dX12_namesOf_93 (by decide) (fun c167 => ?_) (fun c167 => ?_)
                      · refine lv_iconst (v := 0) hx hb dX12_namesOf_110 (by decide) ?_
                        refine lv_istore (lv' := [(5, .int 0), (6, .int (nI oo)), (4, .int dd), (3, .int (nI pp)), (2, .int bb), (1, .int vf), (0, .ref h0)]) hx hb dX12_namesOf_111 hl (by decide) rfl (fun ls hl => ?_)
                        refine lv_aload_n hx hb dX12_namesOf_113 rfl (lv_at hl 6 rfl) ?_
                        refine r_get (v := .ref (a 23)) hx hb hown hq hE hP 33 81 tFX12_33 (by decide) pw_1454 rfl dX12_namesOf_114 ?_
                        refine lv_iload hx hb dX12_namesOf_117 (lv_at hl 1 rfl) ?_
                        refine r_ldi (f := ln) (j := oo) hx hb hE hP 23 (ma_23 G a _) rfl (by omega) (by decide) dX12_namesOf_119 ?_
                        refine lv_topi (fun x168 e169 => ?_)
                        obtain rfl : x168 = itr ln vf (i2 + 1) := e169.trans (itr_s eoo (by omega)).symm
                        refine lv_istore (lv' := [(6, .int (itr ln vf (i2 + 1))), (5, .int 0), (4, .int dd), (3, .int (nI pp)), (2, .int bb), (1, .int vf), (0, .ref h0)]) hx hb dX12_namesOf_120 hl (by decide) rfl (fun ls hl => ?_)
                        refine lv_goto (tgt := 53) hx hb dX12_namesOf_122 (by decide) ?_
                        have hP : va_P G.1 pCl (mW G h0 a (upd (upd (upd F 35 (nI dc)) 69 raA) 70 (nI rwA)) (updA (updA (updA (updA (updA B 5 V) 22 lt0) 23 ln) 24 f) 26 dI)) _ := hP
                        have hD : va_D A (mW G h0 a (upd (upd (upd F 35 (nI dc)) 69 raA) 70 (nI rwA)) (updA (updA (updA (updA (updA B 5 V) 22 lt0) 23 ln) 24 f) 26 dI)) := mW_D hD
                        exact ih_i (i2 + 1) rwA 0 raA dd _ _ _ (by omega) (by omega) (by omega) (by omega) (by omega) hd4 hg hP hD hS (lv_sub hl [0, 1, 2, 3, 4, 5, 6] rfl)
                      · obtain ⟨dq, rfl, hdq⟩ := Or.resolve_left hd4 c167
                        refine lv_aload_n hx hb dX12_namesOf_96 rfl (lv_at hl 6 rfl) ?_
                        refine r_get (v := .ref (a 26)) hx hb hown hq hE hP 38 90 tFX12_38 (by decide) pw_1457 rfl dX12_namesOf_97 ?_
                        refine lv_iload hx hb dX12_namesOf_100 (lv_at hl 2 rfl) ?_
                        refine r_ldz (f := dI) (j := dq) hx hb hE hP 26 (ma_26 G a _) rfl (by omega) (by decide) dX12_namesOf_102 ?_
                        refine lv_if_eq (tgt := 110) hx hb dX12_namesOf_103 (by decide) (fun c170 => ?_) (fun c170 => ?_)
                        · refine lv_iconst (v := 0) hx hb dX12_namesOf_110 (by decide) ?_
                          refine lv_istore (lv' := [(5, .int 0), (6, .int (nI oo)), (4, .int (nI dq)), (3, .int (nI pp)), (2, .int bb), (1, .int vf), (0, .ref h0)]) hx hb dX12_namesOf_111 hl (by decide) rfl (fun ls hl => ?_)
                          refine lv_aload_n hx hb dX12_namesOf_113 rfl (lv_at hl 6 rfl) ?_
                          refine r_get (v := .ref (a 23)) hx hb hown hq hE hP 33 81 tFX12_33 (by decide) pw_1454 rfl dX12_namesOf_114 ?_
                          refine lv_iload hx hb dX12_namesOf_117 (lv_at hl 1 rfl) ?_
                          refine r_ldi (f := ln) (j := oo) hx hb hE hP 23 (ma_23 G a _) rfl (by omega) (by decide) dX12_namesOf_119 ?_
                          refine lv_topi (fun x171 e172 => ?_)
                          obtain rfl : x171 = itr ln vf (i2 + 1) := e172.trans (itr_s eoo (by omega)).symm
                          refine lv_istore (lv' := [(6, .int (itr ln vf (i2 + 1))), (5, .int 0), (4, .int (nI dq)), (3, .int (nI pp)), (2, .int bb), (1, .int vf), (0, .ref h0)]) hx hb dX12_namesOf_120 hl (by decide) rfl (fun ls hl => ?_)
                          refine lv_goto (tgt := 53) hx hb dX12_namesOf_122 (by decide) ?_
                          have hP : va_P G.1 pCl (mW G h0 a (upd (upd (upd F 35 (nI dc)) 69 raA) 70 (nI rwA)) (updA (updA (updA (updA (updA B 5 V) 22 lt0) 23 ln) 24 f) 26 dI)) _ := hP
                          have hD : va_D A (mW G h0 a (upd (upd (upd F 35 (nI dc)) 69 raA) 70 (nI rwA)) (updA (updA (updA (updA (updA B 5 V) 22 lt0) 23 ln) 24 f) 26 dI)) := mW_D hD
                          exact ih_i (i2 + 1) rwA 0 raA (nI dq) _ _ _ (by omega) (by omega) (by omega) (by omega) (by omega) (Or.inr ⟨dq, rfl, by omega⟩) hg hP hD hS (lv_sub hl [0, 1, 2, 3, 4, 5, 6] rfl)
                        · refine lv_iconst (v := 1) hx hb dX12_namesOf_106 (by decide) ?_
                          refine lv_goto (tgt := 111) hx hb dX12_namesOf_107 (by decide) ?_
                          refine lv_istore (lv' := [(5, .int 1), (6, .int (nI oo)), (4, .int (nI dq)), (3, .int (nI pp)), (2, .int bb), (1, .int vf), (0, .ref h0)]) hx hb dX12_namesOf_111 hl (by decide) rfl (fun ls hl => ?_)
                          refine lv_aload_n hx hb dX12_namesOf_113 rfl (lv_at hl 6 rfl) ?_
                          refine r_get (v := .ref (a 23)) hx hb hown hq hE hP 33 81 tFX12_33 (by decide) pw_1454 rfl dX12_namesOf_114 ?_
                          refine lv_iload hx hb dX12_namesOf_117 (lv_at hl 1 rfl) ?_
                          refine r_ldi (f := ln) (j := oo) hx hb hE hP 23 (ma_23 G a _) rfl (by omega) (by decide) dX12_namesOf_119 ?_
                          refine lv_topi (fun x173 e174 => ?_)
                          obtain rfl : x173 = itr ln vf (i2 + 1) := e174.trans (itr_s eoo (by omega)).symm
                          refine lv_istore (lv' := [(6, .int (itr ln vf (i2 + 1))), (5, .int 1), (4, .int (nI dq)), (3, .int (nI pp)), (2, .int bb), (1, .int vf), (0, .ref h0)]) hx hb dX12_namesOf_120 hl (by decide) rfl (fun ls hl => ?_)
                          refine lv_goto (tgt := 53) hx hb dX12_namesOf_122 (by decide) ?_
                          have hP : va_P G.1 pCl (mW G h0 a (upd (upd (upd F 35 (nI dc)) 69 raA) 70 (nI rwA)) (updA (updA (updA (updA (updA B 5 V) 22 lt0) 23 ln) 24 f) 26 dI)) _ := hP
                          have hD : va_D A (mW G h0 a (upd (upd (upd F 35 (nI dc)) 69 raA) 70 (nI rwA)) (updA (updA (updA (updA (updA B 5 V) 22 lt0) 23 ln) 24 f) 26 dI)) := mW_D hD
                          exact ih_i (i2 + 1) rwA 1 raA (nI dq) _ _ _ (by omega) (by omega) (by omega) (by omega) (by omega) (Or.inr ⟨dq, rfl, by omega⟩) hg hP hD hS (lv_sub hl [0, 1, 2, 3, 4, 5, 6] rfl)
            have hP : va_P G.1 pCl (mW G h0 a (upd (upd (upd F 35 (nI dc)) 69 ra126) 70 (nI rw125)) (updA (updA (updA (updA (updA B 5 V) 22 lt0) 23 ln) 24 f) 26 dI)) _ := hP
            have hD : va_D A (mW G h0 a (upd (upd (upd F 35 (nI dc)) 69 ra126) 70 (nI rw125)) (updA (updA (updA (updA (updA B 5 V) 22 lt0) 23 ln) 24 f) 26 dI)) := mW_D hD
            exact loop_i (j + 1) 0 rw125 0 ra126 (nI d65) _ _ _ (by omega) (by omega) (by omega) (by omega) (by omega) (Or.inr ⟨d65, rfl, by omega⟩) (fun e => absurd e (by omega)) hP hD hS (lv_sub hl [0, 1, 2, 3, 4, 5, 6] rfl)
  have hP : va_P G.1 pCl (mW G h0 a (upd (upd (upd F 35 (nI dc)) 69 ra) 70 (nI rw)) (updA (updA (updA (updA (updA B 5 V) 22 lt0) 23 ln) 24 f) 26 dI)) _ := hP
  have hD : va_D A (mW G h0 a (upd (upd (upd F 35 (nI dc)) 69 ra) 70 (nI rw)) (updA (updA (updA (updA (updA B 5 V) 22 lt0) 23 ln) 24 f) 26 dI)) := mW_D hD
  exact loop_o (lz + 1) 0 rw ra _ _ _ (by omega) (by omega) (by omega) (by omega) (fun _ => Chn.zero) hP hD hS (lv_sub hl [0, 3, 2, 1] rfl)
