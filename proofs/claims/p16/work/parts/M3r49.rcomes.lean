theorem dX12_comes_0 : decode cX12_comes 0 = .ok (.iconst 0, 1) := by decide +kernel
theorem dX12_comes_1 : decode cX12_comes 1 = .ok (.istore 4, 2) := by decide +kernel
theorem dX12_comes_3 : decode cX12_comes 3 = .ok (.iconst 0, 1) := by decide +kernel
theorem dX12_comes_4 : decode cX12_comes 4 = .ok (.istore 5, 2) := by decide +kernel
theorem dX12_comes_6 : decode cX12_comes 6 = .ok (.iload 5, 2) := by decide +kernel
theorem dX12_comes_8 : decode cX12_comes 8 = .ok (.aload_n 0, 1) := by decide +kernel
theorem dX12_comes_9 : decode cX12_comes 9 = .ok (.getfield 537, 3) := by decide +kernel
theorem dX12_comes_12 : decode cX12_comes 12 = .ok (.if_icmp .ge 37, 3) := by decide +kernel
theorem dX12_comes_49 : decode cX12_comes 49 = .ok (.aload_n 0, 1) := by decide +kernel
theorem dX12_comes_50 : decode cX12_comes 50 = .ok (.iload 4, 2) := by decide +kernel
theorem dX12_comes_52 : decode cX12_comes 52 = .ok (.ifCond .ne 16, 3) := by decide +kernel
theorem dX12_comes_68 : decode cX12_comes 68 = .ok (.iconst 0, 1) := by decide +kernel
theorem dX12_comes_69 : decode cX12_comes 69 = .ok (.bipush 14, 2) := by decide +kernel
theorem dX12_comes_71 : decode cX12_comes 71 = .ok (.iload_n 1, 1) := by decide +kernel
theorem dX12_comes_72 : decode cX12_comes 72 = .ok (.invokevirtual 540, 3) := by decide +kernel
theorem dX12_comes_75 : decode cX12_comes 75 = .ok (.ifCond .ne 5, 3) := by decide +kernel
theorem dX12_comes_80 : decode cX12_comes 80 = .ok (.aload_n 0, 1) := by decide +kernel
theorem dX12_comes_81 : decode cX12_comes 81 = .ok (.getfield 156, 3) := by decide +kernel
theorem dX12_comes_84 : decode cX12_comes 84 = .ok (.aload_n 0, 1) := by decide +kernel
theorem dX12_comes_85 : decode cX12_comes 85 = .ok (.getfield 537, 3) := by decide +kernel
theorem dX12_comes_88 : decode cX12_comes 88 = .ok (.aload_n 0, 1) := by decide +kernel
theorem dX12_comes_89 : decode cX12_comes 89 = .ok (.getfield 25, 3) := by decide +kernel
theorem dX12_comes_92 : decode cX12_comes 92 = .ok (.iload_n 1, 1) := by decide +kernel
theorem dX12_comes_93 : decode cX12_comes 93 = .ok (.iaload, 1) := by decide +kernel
theorem dX12_comes_94 : decode cX12_comes 94 = .ok (.iastore, 1) := by decide +kernel
theorem dX12_comes_95 : decode cX12_comes 95 = .ok (.aload_n 0, 1) := by decide +kernel
theorem dX12_comes_96 : decode cX12_comes 96 = .ok (.getfield 159, 3) := by decide +kernel
theorem dX12_comes_99 : decode cX12_comes 99 = .ok (.aload_n 0, 1) := by decide +kernel
theorem dX12_comes_100 : decode cX12_comes 100 = .ok (.getfield 537, 3) := by decide +kernel
theorem dX12_comes_103 : decode cX12_comes 103 = .ok (.iload_n 2, 1) := by decide +kernel
theorem dX12_comes_104 : decode cX12_comes 104 = .ok (.iastore, 1) := by decide +kernel
theorem dX12_comes_105 : decode cX12_comes 105 = .ok (.aload_n 0, 1) := by decide +kernel
theorem dX12_comes_106 : decode cX12_comes 106 = .ok (.dup, 1) := by decide +kernel
theorem dX12_comes_107 : decode cX12_comes 107 = .ok (.getfield 537, 3) := by decide +kernel
theorem dX12_comes_110 : decode cX12_comes 110 = .ok (.iconst 1, 1) := by decide +kernel
theorem dX12_comes_111 : decode cX12_comes 111 = .ok (.iadd, 1) := by decide +kernel
theorem dX12_comes_112 : decode cX12_comes 112 = .ok (.putfield 537, 3) := by decide +kernel
theorem dX12_comes_115 : decode cX12_comes 115 = .ok (.iload_n 3, 1) := by decide +kernel
theorem dX12_comes_116 : decode cX12_comes 116 = .ok (.ifCond .eq 23, 3) := by decide +kernel
theorem dX12_comes_139 : decode cX12_comes 139 = .ok (.aload_n 0, 1) := by decide +kernel
theorem dX12_comes_140 : decode cX12_comes 140 = .ok (.getfield 544, 3) := by decide +kernel
theorem dX12_comes_143 : decode cX12_comes 143 = .ok (.ldc_w 547, 3) := by decide +kernel
theorem dX12_comes_146 : decode cX12_comes 146 = .ok (.iand, 1) := by decide +kernel
theorem dX12_comes_147 : decode cX12_comes 147 = .ok (.ifCond .ne 22, 3) := by decide +kernel
theorem dX12_comes_169 : decode cX12_comes 169 = .ok (.aload_n 0, 1) := by decide +kernel
theorem dX12_comes_170 : decode cX12_comes 170 = .ok (.getfield 537, 3) := by decide +kernel
theorem dX12_comes_173 : decode cX12_comes 173 = .ok (.iconst 1, 1) := by decide +kernel
theorem dX12_comes_174 : decode cX12_comes 174 = .ok (.isub, 1) := by decide +kernel
theorem dX12_comes_175 : decode cX12_comes 175 = .ok (.ireturn, 1) := by decide +kernel
theorem dX12_comes_150 : decode cX12_comes 150 = .ok (.aload_n 0, 1) := by decide +kernel
theorem dX12_comes_151 : decode cX12_comes 151 = .ok (.dup, 1) := by decide +kernel
theorem dX12_comes_152 : decode cX12_comes 152 = .ok (.getfield 544, 3) := by decide +kernel
theorem dX12_comes_155 : decode cX12_comes 155 = .ok (.iconst 1, 1) := by decide +kernel
theorem dX12_comes_156 : decode cX12_comes 156 = .ok (.aload_n 0, 1) := by decide +kernel
theorem dX12_comes_157 : decode cX12_comes 157 = .ok (.getfield 537, 3) := by decide +kernel
theorem dX12_comes_160 : decode cX12_comes 160 = .ok (.iconst 1, 1) := by decide +kernel
theorem dX12_comes_161 : decode cX12_comes 161 = .ok (.isub, 1) := by decide +kernel
theorem dX12_comes_162 : decode cX12_comes 162 = .ok (.ishl, 1) := by decide +kernel
theorem dX12_comes_163 : decode cX12_comes 163 = .ok (.iconst (-1), 1) := by decide +kernel
theorem dX12_comes_164 : decode cX12_comes 164 = .ok (.ixor, 1) := by decide +kernel
theorem dX12_comes_165 : decode cX12_comes 165 = .ok (.iand, 1) := by decide +kernel
theorem dX12_comes_166 : decode cX12_comes 166 = .ok (.putfield 544, 3) := by decide +kernel
theorem dX12_comes_119 : decode cX12_comes 119 = .ok (.aload_n 0, 1) := by decide +kernel
theorem dX12_comes_120 : decode cX12_comes 120 = .ok (.dup, 1) := by decide +kernel
theorem dX12_comes_121 : decode cX12_comes 121 = .ok (.getfield 544, 3) := by decide +kernel
theorem dX12_comes_124 : decode cX12_comes 124 = .ok (.iconst 1, 1) := by decide +kernel
theorem dX12_comes_125 : decode cX12_comes 125 = .ok (.aload_n 0, 1) := by decide +kernel
theorem dX12_comes_126 : decode cX12_comes 126 = .ok (.getfield 537, 3) := by decide +kernel
theorem dX12_comes_129 : decode cX12_comes 129 = .ok (.iconst 1, 1) := by decide +kernel
theorem dX12_comes_130 : decode cX12_comes 130 = .ok (.isub, 1) := by decide +kernel
theorem dX12_comes_131 : decode cX12_comes 131 = .ok (.ishl, 1) := by decide +kernel
theorem dX12_comes_132 : decode cX12_comes 132 = .ok (.ior, 1) := by decide +kernel
theorem dX12_comes_133 : decode cX12_comes 133 = .ok (.putfield 544, 3) := by decide +kernel
theorem dX12_comes_136 : decode cX12_comes 136 = .ok (.goto 33, 3) := by decide +kernel
theorem dX12_comes_78 : decode cX12_comes 78 = .ok (.iconst 0, 1) := by decide +kernel
theorem dX12_comes_79 : decode cX12_comes 79 = .ok (.ireturn, 1) := by decide +kernel
theorem dX12_comes_55 : decode cX12_comes 55 = .ok (.aload_n 0, 1) := by decide +kernel
theorem dX12_comes_56 : decode cX12_comes 56 = .ok (.getfield 537, 3) := by decide +kernel
theorem dX12_comes_59 : decode cX12_comes 59 = .ok (.bipush 30, 2) := by decide +kernel
theorem dX12_comes_61 : decode cX12_comes 61 = .ok (.if_icmp .ge 7, 3) := by decide +kernel
theorem dX12_comes_64 : decode cX12_comes 64 = .ok (.iconst 1, 1) := by decide +kernel
theorem dX12_comes_65 : decode cX12_comes 65 = .ok (.goto 4, 3) := by decide +kernel
theorem dX12_comes_15 : decode cX12_comes 15 = .ok (.iload 4, 2) := by decide +kernel
theorem dX12_comes_17 : decode cX12_comes 17 = .ok (.ifCond .ne 19, 3) := by decide +kernel
theorem dX12_comes_36 : decode cX12_comes 36 = .ok (.iconst 1, 1) := by decide +kernel
theorem dX12_comes_37 : decode cX12_comes 37 = .ok (.goto 4, 3) := by decide +kernel
theorem dX12_comes_41 : decode cX12_comes 41 = .ok (.istore 4, 2) := by decide +kernel
theorem dX12_comes_43 : decode cX12_comes 43 = .ok (.iinc 5 1, 3) := by decide +kernel
theorem dX12_comes_46 : decode cX12_comes 46 = .ok (.goto (-40), 3) := by decide +kernel
theorem dX12_comes_20 : decode cX12_comes 20 = .ok (.aload_n 0, 1) := by decide +kernel
theorem dX12_comes_21 : decode cX12_comes 21 = .ok (.getfield 156, 3) := by decide +kernel
theorem dX12_comes_24 : decode cX12_comes 24 = .ok (.iload 5, 2) := by decide +kernel
theorem dX12_comes_26 : decode cX12_comes 26 = .ok (.iaload, 1) := by decide +kernel
theorem dX12_comes_27 : decode cX12_comes 27 = .ok (.aload_n 0, 1) := by decide +kernel
theorem dX12_comes_28 : decode cX12_comes 28 = .ok (.getfield 25, 3) := by decide +kernel
theorem dX12_comes_31 : decode cX12_comes 31 = .ok (.iload_n 1, 1) := by decide +kernel
theorem dX12_comes_32 : decode cX12_comes 32 = .ok (.iaload, 1) := by decide +kernel
theorem dX12_comes_33 : decode cX12_comes 33 = .ok (.if_icmp .ne 7, 3) := by decide +kernel
theorem dX12_comes_40 : decode cX12_comes 40 = .ok (.iconst 0, 1) := by decide +kernel
theorem hV_X12_judge : yX12_judge.cls = RX12 ∧ yX12_judge.cls ≠ "java/lang/invoke/MethodHandle" ∧ yX12_judge.cls ≠ "java/lang/invoke/VarHandle" ∧ (parseMethodDescriptor yX12_judge.desc).map (fun d => d.parameters.length) = some 3 := by decide +kernel
set_option maxHeartbeats 2000000 in
set_option maxRecDepth 100000 in
/-- comes(token, type, isAssigned) -/
theorem R_comes (l : Launch) (G : pT) (h0 : Nat) (a : Nat → Nat) (F : Nat → Int32) (B : Nat → Nat → Int32) (tk : Nat) (bs : Nat) (sc : Nat) (fa : Nat) (ty : Int32) (dn : Int32) (vt : Nat → Int32) (htk : tk ≤ 5000) (hbs : bs ≤ 1) (hsc : sc ≤ 30) (hfa : fa ≤ 100) : PM l G pX0 yX12_comes cX12_comes 6 (some .int) ({ frames := 4, cells := 0, slots := 0, locals := 105 }) [.ref h0, .int (nI tk), .int ty, .int (nI bs)] (mW G h0 a (upd (upd (upd F 15 (nI fa)) 73 (nI sc)) 77 dn) (updA B 49 vt)) (fun (v : Option Value) (u : Nat × Nat × Nat × Int32 × Int32 × (Nat → Int32) × (Nat → Int32)) => v = some (.int (nI u.1)) ∧ (u.1 ≤ 30) ∧ (fa ≤ u.2.1) ∧ (u.2.1 ≤ fa + 15) ∧ (sc ≤ u.2.2.1) ∧ (u.2.2.1 ≤ 30) ∧ (If (u.2.1 = 0) (u.2.2.1 = sc + 1 ∧ u.1 = sc ∧ u.2.2.2.2.2.2 = upd vt sc ty)) ∧ (If (0 < u.2.1) (u.2.2.1 = sc)) ∧ (If (0 < fa) (u.2.1 = fa))) (fun u => (mW G h0 a (upd (upd (upd (upd F 15 (nI u.2.1)) 16 u.2.2.2.1) 73 (nI u.2.2.1)) 77 u.2.2.2.2.1) (updA (updA B 48 u.2.2.2.2.2.1) 49 u.2.2.2.2.2.2))) := by
  intro sz
  refine Met.ofW (cc := cX12_comes) (maxL := 6) (ret := (some .int)) (by decide) rfl ?_
  intro p e s m args below meth c s₁ B9 hml hv
  obtain ⟨rfl, hsz, hP, hD0, hE, hX⟩ := hv
  have hx := B9.exec
  have hb := B9.bytes
  have hr := B9.returns
  have hts := atoms_spec (ws := Cond.code yX12_comes cX12_comes 6 (some .int) :: pw) B9.pre
  have hq : ∀ w ∈ pw, w.before _ s = true := fun w h => hts w (List.mem_cons_of_mem _ h)
  have hown : s.vm.findClass RX12 = some m.cls := findClass_of_methodNamed B9.named
  have hlocks := B9.notSynchronized
  subst hsz
  have hD := hD0.self (sz := s.heap.size)
  have hA : ∀ q : Nat, s.heap.size ≤ q → va_A (mW G h0 a (upd (upd (upd F 15 (nI fa)) 73 (nI sc)) 77 dn) (updA B 49 vt)) s.heap.size q := fun q h => Or.inr h
  have hP : va_P G.1 pCl (mW G h0 a (upd (upd (upd F 15 (nI fa)) 73 (nI sc)) 77 dn) (updA B 49 vt)) s.heap := hP
  generalize va_A (mW G h0 a (upd (upd (upd F 15 (nI fa)) 73 (nI sc)) 77 dn) (updA B 49 vt)) s.heap.size = A at hD hE hA ⊢
  have hS : va_S A s.heap s.heap [] := va_S.rf
  have hl := lv_entry ([.ref h0, .int (nI tk), .int ty, .int (nI bs)]) (n := 6) (Nat.le_of_ble_eq_true rfl)
  rw [lg_entry_eq]
  generalize (lg_sl ([.ref h0, .int (nI tk), .int ty, .int (nI bs)]) ++ List.replicate (6 - (lg_sl ([.ref h0, .int (nI tk), .int ty, .int (nI bs)])).length) Slot.unset).toArray = ls at hl ⊢
  have hl : lv_has ls 6 [(0, .ref h0), (1, .int (nI tk)), (2, .int ty), (3, .int (nI bs))] := hl
  refine lv_iconst (v := 0) hx hb dX12_comes_0 (by decide) ?_
  refine lv_istore (lv' := [(4, .int 0), (0, .ref h0), (1, .int (nI tk)), (2, .int ty), (3, .int (nI bs))]) hx hb dX12_comes_1 hl (by decide) rfl (fun ls hl => ?_)
  refine lv_iconst (v := 0) hx hb dX12_comes_3 (by decide) ?_
  refine lv_istore (lv' := [(5, .int 0), (4, .int 0), (0, .ref h0), (1, .int (nI tk)), (2, .int ty), (3, .int (nI bs))]) hx hb dX12_comes_4 hl (by decide) rfl (fun ls hl => ?_)
  have loop_o : ∀ (n_o : Nat) (v2 : Nat) (th : Nat) (H : Heap) (locs : List Loc) (ls : Array Slot), v2 ≤ sc → sc + 1 ≤ v2 + n_o → (th ≤ 1) → va_P G.1 pCl (mW G h0 a (upd (upd (upd F 15 (nI fa)) 73 (nI sc)) 77 dn) (updA B 49 vt)) H → va_D A (mW G h0 a (upd (upd (upd F 15 (nI fa)) 73 (nI sc)) 77 dn) (updA B 49 vt)) → va_S A s.heap H locs → lv_has ls 6 [(5, .int (nI v2)), (4, .int (nI th)), (3, .int (nI bs)), (2, .int ty), (1, .int (nI tk)), (0, .ref h0)] → W p l e (headSpec (Cond.code yX12_comes cX12_comes 6 (some .int) :: pw) ({ frames := 4, cells := 0, slots := 0, locals := 105 } : Room)).room s m ([.ref h0, .int (nI tk), .int ty, .int (nI bs)] : List Value).toArray below meth c H locs 0 0 (MQ below (pQ G A (fun (v : Option Value) (u : Nat × Nat × Nat × Int32 × Int32 × (Nat → Int32) × (Nat → Int32)) => v = some (.int (nI u.1)) ∧ (u.1 ≤ 30) ∧ (fa ≤ u.2.1) ∧ (u.2.1 ≤ fa + 15) ∧ (sc ≤ u.2.2.1) ∧ (u.2.2.1 ≤ 30) ∧ (If (u.2.1 = 0) (u.2.2.1 = sc + 1 ∧ u.1 = sc ∧ u.2.2.2.2.2.2 = upd vt sc ty)) ∧ (If (0 < u.2.1) (u.2.2.1 = sc)) ∧ (If (0 < fa) (u.2.1 = fa))) (fun u => (mW G h0 a (upd (upd (upd (upd F 15 (nI u.2.1)) 16 u.2.2.2.1) 73 (nI u.2.2.1)) 77 u.2.2.2.2.1) (updA (updA B 48 u.2.2.2.2.2.1) 49 u.2.2.2.2.2.2)))) ([.ref h0, .int (nI tk), .int ty, .int (nI bs)] : List Value).toArray s ({ frames := 4, cells := 0, slots := 0, locals := 105 } : Room).cells ({ frames := 4, cells := 0, slots := 0, locals := 105 } : Room).slots A) (F0 m 6 ls []) := by
    intro n_o
    induction n_o with
    | zero => intro v2 th H locs ls hk_o hn_o; omega
    | succ n_o ih_o =>
      intro v2 th H locs ls hk_o hn_o hth hP hD hS hl
      refine lv_iload hx hb dX12_comes_6 (lv_at hl 0 rfl) ?_
      refine lv_aload_n hx hb dX12_comes_8 rfl (lv_at hl 5 rfl) ?_
      refine r_get (v := .int (nI sc)) hx hb hown hq hE hP 73 537 tFX12_73 (by decide) pw_1795 rfl dX12_comes_9 ?_
      refine lv_icmp_ge (tgt := 49) hx hb dX12_comes_12 (by decide) (fun c1 => ?_) (fun c1 => ?_)
      · have n2 : sc ≤ v2 := (nI_leI (a := sc) (b := v2) (by omega) (by omega)).mp c1
        refine lv_aload_n hx hb dX12_comes_49 rfl (lv_at hl 5 rfl) ?_
        refine lv_iload hx hb dX12_comes_50 (lv_at hl 1 rfl) ?_
        refine lv_if_ne (tgt := 68) hx hb dX12_comes_52 (by decide) (fun c3 => ?_) (fun c3 => ?_)
        · have n4 : ¬ (th = 0) := fun h9 => c3 ((nI_eq (a := th) (b := 0) (by omega) (by omega)).mpr h9)
          refine lv_iconst (v := 0) hx hb dX12_comes_68 (by decide) ?_
          refine lv_bipush (v := 14) hx hb dX12_comes_69 (by decide) ?_
          refine lv_iload_n hx hb dX12_comes_71 rfl (lv_at hl 4 rfl) ?_
          have hP : va_P G.1 pCl (mW G h0 a (upd (upd (upd (upd F 15 (nI fa)) 73 (nI sc)) 77 dn) 15 (nI fa)) (updA B 49 vt)) _ := mW_to (F := F) (l1 := [(15, (nI fa)), (73, (nI sc)), (77, dn)]) (l2 := [(15, (nI fa)), (73, (nI sc)), (77, dn), (15, (nI fa))]) (V := [(nI fa), (nI sc), dn, (nI fa), (nI sc), dn, (nI fa)]) rfl rfl rfl hP
          have hD : va_D A (mW G h0 a (upd (upd (upd (upd F 15 (nI fa)) 73 (nI sc)) 77 dn) 15 (nI fa)) (updA B 49 vt)) := mW_D hD
          refine pc_V0 (G := G) (As := [.int (nI 0), .int (nI 14), .int (nI tk)]) (rest := []) hx hb hml hown hq hE hX pX0_al hP hD hS hA hl.1 (R_judge l G h0 a (upd (upd (upd F 15 (nI fa)) 73 (nI sc)) 77 dn) (updA B 49 vt) 0 14 tk fa (by omega) (by omega) (by omega) (by omega)) (gV pw_1798 pw_1799 pw_1800 pw_1523 pw_1793) hV_X12_judge 0 9 rfl rfl rfl rfl (Nat.le_of_ble_eq_true rfl) dX12_comes_72 ⟨Nat.le_of_ble_eq_true rfl, Nat.le_of_ble_eq_true rfl⟩ ⟨Nat.le_of_ble_eq_true rfl, Nat.le_of_ble_eq_true rfl⟩ (fun v7 u5 H locs hw6 hP hD hS => ?_)
          obtain ⟨r8, fa9, pl10⟩ := u5
          obtain ⟨hw6, h11, h12, h13, h14, h15, h16, h17, h18⟩ := hw6
          replace h11 : r8 ≤ 1 := h11
          replace h12 : fa ≤ fa9 := h12
          replace h13 : fa9 ≤ fa + 15 := h13
          replace h14 : fa9 + 200 * r8 ≤ 200 := h14
          replace h15 : 1 ≤ r8 + fa9 := h15
          replace h16 : 1 ≤ 0 + fa9 := h16
          replace h17 : If (0 < fa) (fa9 = fa) := h17
          replace h18 : fa9 ≤ fa + 15 * (1 - 0) := h18
          obtain rfl : v7 = some (.int (nI r8)) := hw6
          have hP : va_P G.1 pCl (mW G h0 a (upd (upd (upd (upd F 15 (nI fa9)) 16 pl10) 73 (nI sc)) 77 dn) (updA B 49 vt)) _ := mW_to (F := F) (l1 := [(15, (nI fa)), (73, (nI sc)), (77, dn), (15, (nI fa9)), (16, pl10)]) (l2 := [(15, (nI fa9)), (16, pl10), (73, (nI sc)), (77, dn)]) (V := [(nI fa9), (nI sc), dn, (nI fa9), pl10, (nI fa9), pl10, (nI sc), dn]) rfl rfl rfl hP
          have hD : va_D A (mW G h0 a (upd (upd (upd (upd F 15 (nI fa9)) 16 pl10) 73 (nI sc)) 77 dn) (updA B 49 vt)) := mW_D hD
          refine W.widen (k := 0) (n := 0) (Nat.le_of_ble_eq_true rfl) (Nat.le_of_ble_eq_true rfl) ?_
          refine W.eq (g2 := F0 m 75 ls [.int (nI r8)]) rfl ?_
          refine lv_if_ne (tgt := 80) hx hb dX12_comes_75 (by decide) (fun c19 => ?_) (fun c19 => ?_)
          · have n20 : ¬ (r8 = 0) := fun h9 => c19 ((nI_eq (a := r8) (b := 0) (by omega) (by omega)).mpr h9)
            refine lv_aload_n hx hb dX12_comes_80 rfl (lv_at hl 5 rfl) ?_
            refine r_get (v := .ref (a 48)) hx hb hown hq hE hP 71 156 tFX12_71 (by decide) pw_1479 rfl dX12_comes_81 ?_
            refine lv_aload_n hx hb dX12_comes_84 rfl (lv_at hl 5 rfl) ?_
            refine r_get (v := .int (nI sc)) hx hb hown hq hE hP 73 537 tFX12_73 (by decide) pw_1795 rfl dX12_comes_85 ?_
            refine lv_aload_n hx hb dX12_comes_88 rfl (lv_at hl 5 rfl) ?_
            refine r_get (v := .ref (a 5)) hx hb hown hq hE hP 8 25 tFX12_8 (by decide) pw_1435 rfl dX12_comes_89 ?_
            refine lv_iload_n hx hb dX12_comes_92 rfl (lv_at hl 4 rfl) ?_
            refine r_ldi (f := (B 5)) (j := tk) hx hb hE hP 5 (ma_5 G a _) rfl (by omega) (by decide) dX12_comes_93 ?_
            refine r_sti (f := (B 48)) (j := sc) hx hb hE hP hD hS 48 (ma_48 G a _) rfl (mas_48 G a _) (by omega) (by decide) dX12_comes_94 (fun H locs hP hD hS => ?_)
            refine lv_aload_n hx hb dX12_comes_95 rfl (lv_at hl 5 rfl) ?_
            refine r_get (v := .ref (a 49)) hx hb hown hq hE hP 72 159 tFX12_72 (by decide) pw_1480 rfl dX12_comes_96 ?_
            refine lv_aload_n hx hb dX12_comes_99 rfl (lv_at hl 5 rfl) ?_
            refine r_get (v := .int (nI sc)) hx hb hown hq hE hP 73 537 tFX12_73 (by decide) pw_1795 rfl dX12_comes_100 ?_
            refine lv_iload_n hx hb dX12_comes_103 rfl (lv_at hl 3 rfl) ?_
            refine r_sti (f := vt) (j := sc) hx hb hE hP hD hS 49 (ma_49 G a _) rfl (mas_49 G a _) (by omega) (by decide) dX12_comes_104 (fun H locs hP hD hS => ?_)
            refine lv_aload_n hx hb dX12_comes_105 rfl (lv_at hl 5 rfl) ?_
            refine lv_dup hx hb dX12_comes_106 rfl ?_
            refine r_get (v := .int (nI sc)) hx hb hown hq hE hP 73 537 tFX12_73 (by decide) pw_1795 rfl dX12_comes_107 ?_
            refine lv_iconst (v := 1) hx hb dX12_comes_110 (by decide) ?_
            refine lv_iadd hx hb dX12_comes_111 ?_
            refine lv_topi (fun x21 e22 => ?_)
            obtain rfl : x21 = nI (sc + 1) := e22.trans (nI_add (sc) (1))
            refine r_put (v := (nI (sc + 1))) (ty := .int) hx hb hown hq hE hP hD hS 73 537 tFX12_73 (by decide) pw_1795 (by decide) rfl rfl (ms_73 a _ _) dX12_comes_112 (fun H locs hP hD hS => ?_)
            refine lv_iload_n hx hb dX12_comes_115 rfl (lv_at hl 2 rfl) ?_
            refine lv_if_eq (tgt := 139) hx hb dX12_comes_116 (by decide) (fun c23 => ?_) (fun c23 => ?_)
            · have n24 : bs = 0 := (nI_eq (a := bs) (b := 0) (by omega) (by omega)).mp c23
              refine lv_aload_n hx hb dX12_comes_139 rfl (lv_at hl 5 rfl) ?_
              refine r_get (v := .int dn) hx hb hown hq hE hP 77 544 tFX12_77 (by decide) pw_1796 rfl dX12_comes_140 ?_
              refine lv_ldcw (v := 1073741824) hx hb hown (hq _ pw_1797) dX12_comes_143 ?_
              refine lv_iand hx hb dX12_comes_146 ?_
              refine lv_topi (fun x25 e26 => ?_)
              refine lv_if_ne (tgt := 169) hx hb dX12_comes_147 (by decide) (fun c27 => ?_) (fun c27 => ?_)
              · refine lv_aload_n hx hb dX12_comes_169 rfl (lv_at hl 5 rfl) ?_
                refine r_get (v := .int (nI (sc + 1))) hx hb hown hq hE hP 73 537 tFX12_73 (by decide) pw_1795 rfl dX12_comes_170 ?_
                refine lv_iconst (v := 1) hx hb dX12_comes_173 (by decide) ?_
                refine lv_isub hx hb dX12_comes_174 ?_
                refine lv_topi (fun x28 e29 => ?_)
                obtain rfl : x28 = nI ((sc + 1) - 1) := e29.trans (nI_subN (a := 1) (b := (sc + 1)) (by omega))
                have hz30 : ((sc + 1) - 1) ≤ 30 := (by omega)
                have hz31 : fa ≤ fa9 := (by omega)
                have hz32 : fa9 ≤ fa + 15 := (by omega)
                have hz33 : sc ≤ (sc + 1) := (by omega)
                have hz34 : (sc + 1) ≤ 30 := (by omega)
                have hz35 : If (fa9 = 0) ((sc + 1) = sc + 1 ∧ ((sc + 1) - 1) = sc ∧ (upd vt sc ty) = upd vt sc ty) := (fun e => ⟨by omega, by omega, rfl⟩)
                have hz36 : If (0 < fa9) ((sc + 1) = sc) := (fun e => by omega)
                have hz37 : If (0 < fa) (fa9 = fa) := h17
                have hP : va_P G.1 pCl (mW G h0 a (upd (upd (upd (upd F 15 (nI fa9)) 16 pl10) 73 (nI (sc + 1))) 77 dn) (updA (updA B 48 (upd (B 48) sc ((B 5) tk))) 49 (upd vt sc ty))) _ := mW_to (F := F) (l1 := [(15, (nI fa9)), (16, pl10), (73, (nI sc)), (77, dn), (73, (nI (sc + 1)))]) (l2 := [(15, (nI fa9)), (16, pl10), (73, (nI (sc + 1))), (77, dn)]) (V := [(nI fa9), pl10, (nI (sc + 1)), dn, (nI (sc + 1)), (nI fa9), pl10, (nI (sc + 1)), dn]) rfl rfl (show (updA (updA (updA B 49 vt) 48 (upd (B 48) sc ((B 5) tk))) 49 (upd vt sc ty)) = (updA (updA B 48 (upd (B 48) sc ((B 5) tk))) 49 (upd vt sc ty)) from updsA_eq2 (F := B) (l1 := [(49, vt), (48, (upd (B 48) sc ((B 5) tk))), (49, (upd vt sc ty))]) (l2 := [(48, (upd (B 48) sc ((B 5) tk))), (49, (upd vt sc ty))]) (V := [(upd vt sc ty), (upd (B 48) sc ((B 5) tk)), (upd vt sc ty), (upd (B 48) sc ((B 5) tk)), (upd vt sc ty)]) rfl rfl) hP
                have hD : va_D A (mW G h0 a (upd (upd (upd (upd F 15 (nI fa9)) 16 pl10) 73 (nI (sc + 1))) 77 dn) (updA (updA B 48 (upd (B 48) sc ((B 5) tk))) 49 (upd vt sc ty))) := mW_D hD
                exact W.iret (v := (nI ((sc + 1) - 1))) hx hb hr (fun t9 ht9 hW9 => ⟨⟨_, (((sc + 1) - 1), fa9, (sc + 1), pl10, dn, (upd (B 48) sc ((B 5) tk)), (upd vt sc ty)), rfl, ⟨rfl, hz30, hz31, hz32, hz33, hz34, hz35, hz36, hz37⟩, by rw [ht9]; exact hP, hD⟩, hS.F ht9⟩) hS.2.2 dX12_comes_175
              · refine lv_aload_n hx hb dX12_comes_150 rfl (lv_at hl 5 rfl) ?_
                refine lv_dup hx hb dX12_comes_151 rfl ?_
                refine r_get (v := .int dn) hx hb hown hq hE hP 77 544 tFX12_77 (by decide) pw_1796 rfl dX12_comes_152 ?_
                refine lv_iconst (v := 1) hx hb dX12_comes_155 (by decide) ?_
                refine lv_aload_n hx hb dX12_comes_156 rfl (lv_at hl 5 rfl) ?_
                refine r_get (v := .int (nI (sc + 1))) hx hb hown hq hE hP 73 537 tFX12_73 (by decide) pw_1795 rfl dX12_comes_157 ?_
                refine lv_iconst (v := 1) hx hb dX12_comes_160 (by decide) ?_
                refine lv_isub hx hb dX12_comes_161 ?_
                refine lv_topi (fun x38 e39 => ?_)
                obtain rfl : x38 = nI ((sc + 1) - 1) := e39.trans (nI_subN (a := 1) (b := (sc + 1)) (by omega))
                refine lv_ishl hx hb dX12_comes_162 ?_
                refine lv_topi (fun x40 e41 => ?_)
                refine lv_iconst (v := (-1)) hx hb dX12_comes_163 (by decide) ?_
                refine lv_ixor hx hb dX12_comes_164 ?_
                refine lv_topi (fun x42 e43 => ?_)
                refine lv_iand hx hb dX12_comes_165 ?_
                refine lv_topi (fun x44 e45 => ?_)
                refine r_put (v := x44) (ty := .int) hx hb hown hq hE hP hD hS 77 544 tFX12_77 (by decide) pw_1796 (by decide) rfl rfl (ms_77 a _ _) dX12_comes_166 (fun H locs hP hD hS => ?_)
                refine lv_aload_n hx hb dX12_comes_169 rfl (lv_at hl 5 rfl) ?_
                refine r_get (v := .int (nI (sc + 1))) hx hb hown hq hE hP 73 537 tFX12_73 (by decide) pw_1795 rfl dX12_comes_170 ?_
                refine lv_iconst (v := 1) hx hb dX12_comes_173 (by decide) ?_
                refine lv_isub hx hb dX12_comes_174 ?_
                refine lv_topi (fun x46 e47 => ?_)
                obtain rfl : x46 = nI ((sc + 1) - 1) := e47.trans (nI_subN (a := 1) (b := (sc + 1)) (by omega))
                have hz48 : ((sc + 1) - 1) ≤ 30 := (by omega)
                have hz49 : fa ≤ fa9 := (by omega)
                have hz50 : fa9 ≤ fa + 15 := (by omega)
                have hz51 : sc ≤ (sc + 1) := (by omega)
                have hz52 : (sc + 1) ≤ 30 := (by omega)
                have hz53 : If (fa9 = 0) ((sc + 1) = sc + 1 ∧ ((sc + 1) - 1) = sc ∧ (upd vt sc ty) = upd vt sc ty) := (fun e => ⟨by omega, by omega, rfl⟩)
                have hz54 : If (0 < fa9) ((sc + 1) = sc) := (fun e => by omega)
                have hz55 : If (0 < fa) (fa9 = fa) := h17
                have hP : va_P G.1 pCl (mW G h0 a (upd (upd (upd (upd F 15 (nI fa9)) 16 pl10) 73 (nI (sc + 1))) 77 x44) (updA (updA B 48 (upd (B 48) sc ((B 5) tk))) 49 (upd vt sc ty))) _ := mW_to (F := F) (l1 := [(15, (nI fa9)), (16, pl10), (73, (nI sc)), (77, dn), (73, (nI (sc + 1))), (77, x44)]) (l2 := [(15, (nI fa9)), (16, pl10), (73, (nI (sc + 1))), (77, x44)]) (V := [(nI fa9), pl10, (nI (sc + 1)), x44, (nI (sc + 1)), x44, (nI fa9), pl10, (nI (sc + 1)), x44]) rfl rfl (show (updA (updA (updA B 49 vt) 48 (upd (B 48) sc ((B 5) tk))) 49 (upd vt sc ty)) = (updA (updA B 48 (upd (B 48) sc ((B 5) tk))) 49 (upd vt sc ty)) from updsA_eq2 (F := B) (l1 := [(49, vt), (48, (upd (B 48) sc ((B 5) tk))), (49, (upd vt sc ty))]) (l2 := [(48, (upd (B 48) sc ((B 5) tk))), (49, (upd vt sc ty))]) (V := [(upd vt sc ty), (upd (B 48) sc ((B 5) tk)), (upd vt sc ty), (upd (B 48) sc ((B 5) tk)), (upd vt sc ty)]) rfl rfl) hP
                have hD : va_D A (mW G h0 a (upd (upd (upd (upd F 15 (nI fa9)) 16 pl10) 73 (nI (sc + 1))) 77 x44) (updA (updA B 48 (upd (B 48) sc ((B 5) tk))) 49 (upd vt sc ty))) := mW_D hD
                exact W.iret (v := (nI ((sc + 1) - 1))) hx hb hr (fun t9 ht9 hW9 => ⟨⟨_, (((sc + 1) - 1), fa9, (sc + 1), pl10, x44, (upd (B 48) sc ((B 5) tk)), (upd vt sc ty)), rfl, ⟨rfl, hz48, hz49, hz50, hz51, hz52, hz53, hz54, hz55⟩, by rw [ht9]; exact hP, hD⟩, hS.F ht9⟩) hS.2.2 dX12_comes_175
            · have n56 : ¬ (bs = 0) := fun h9 => c23 ((nI_eq (a := bs) (b := 0) (by omega) (by omega)).mpr h9)
              refine lv_aload_n hx hb dX12_comes_119 rfl (lv_at hl 5 rfl) ?_
              refine lv_dup hx hb dX12_comes_120 rfl ?_
              refine r_get (v := .int dn) hx hb hown hq hE hP 77 544 tFX12_77 (by decide) pw_1796 rfl dX12_comes_121 ?_
              refine lv_iconst (v := 1) hx hb dX12_comes_124 (by decide) ?_
              refine lv_aload_n hx hb dX12_comes_125 rfl (lv_at hl 5 rfl) ?_
              refine r_get (v := .int (nI (sc + 1))) hx hb hown hq hE hP 73 537 tFX12_73 (by decide) pw_1795 rfl dX12_comes_126 ?_
              refine lv_iconst (v := 1) hx hb dX12_comes_129 (by decide) ?_
              refine lv_isub hx hb dX12_comes_130 ?_
              refine lv_topi (fun x57 e58 => ?_)
              obtain rfl : x57 = nI ((sc + 1) - 1) := e58.trans (nI_subN (a := 1) (b := (sc + 1)) (by omega))
              refine lv_ishl hx hb dX12_comes_131 ?_
              refine lv_topi (fun x59 e60 => ?_)
              refine lv_ior hx hb dX12_comes_132 ?_
              refine lv_topi (fun x61 e62 => ?_)
              refine r_put (v := x61) (ty := .int) hx hb hown hq hE hP hD hS 77 544 tFX12_77 (by decide) pw_1796 (by decide) rfl rfl (ms_77 a _ _) dX12_comes_133 (fun H locs hP hD hS => ?_)
              refine lv_goto (tgt := 169) hx hb dX12_comes_136 (by decide) ?_
              refine lv_aload_n hx hb dX12_comes_169 rfl (lv_at hl 5 rfl) ?_
              refine r_get (v := .int (nI (sc + 1))) hx hb hown hq hE hP 73 537 tFX12_73 (by decide) pw_1795 rfl dX12_comes_170 ?_
              refine lv_iconst (v := 1) hx hb dX12_comes_173 (by decide) ?_
              refine lv_isub hx hb dX12_comes_174 ?_
              refine lv_topi (fun x63 e64 => ?_)
              obtain rfl : x63 = nI ((sc + 1) - 1) := e64.trans (nI_subN (a := 1) (b := (sc + 1)) (by omega))
              have hz65 : ((sc + 1) - 1) ≤ 30 := (by omega)
              have hz66 : fa ≤ fa9 := (by omega)
              have hz67 : fa9 ≤ fa + 15 := (by omega)
              have hz68 : sc ≤ (sc + 1) := (by omega)
              have hz69 : (sc + 1) ≤ 30 := (by omega)
              have hz70 : If (fa9 = 0) ((sc + 1) = sc + 1 ∧ ((sc + 1) - 1) = sc ∧ (upd vt sc ty) = upd vt sc ty) := (fun e => ⟨by omega, by omega, rfl⟩)
              have hz71 : If (0 < fa9) ((sc + 1) = sc) := (fun e => by omega)
              have hz72 : If (0 < fa) (fa9 = fa) := h17
              have hP : va_P G.1 pCl (mW G h0 a (upd (upd (upd (upd F 15 (nI fa9)) 16 pl10) 73 (nI (sc + 1))) 77 x61) (updA (updA B 48 (upd (B 48) sc ((B 5) tk))) 49 (upd vt sc ty))) _ := mW_to (F := F) (l1 := [(15, (nI fa9)), (16, pl10), (73, (nI sc)), (77, dn), (73, (nI (sc + 1))), (77, x61)]) (l2 := [(15, (nI fa9)), (16, pl10), (73, (nI (sc + 1))), (77, x61)]) (V := [(nI fa9), pl10, (nI (sc + 1)), x61, (nI (sc + 1)), x61, (nI fa9), pl10, (nI (sc + 1)), x61]) rfl rfl (show (updA (updA (updA B 49 vt) 48 (upd (B 48) sc ((B 5) tk))) 49 (upd vt sc ty)) = (updA (updA B 48 (upd (B 48) sc ((B 5) tk))) 49 (upd vt sc ty)) from updsA_eq2 (F := B) (l1 := [(49, vt), (48, (upd (B 48) sc ((B 5) tk))), (49, (upd vt sc ty))]) (l2 := [(48, (upd (B 48) sc ((B 5) tk))), (49, (upd vt sc ty))]) (V := [(upd vt sc ty), (upd (B 48) sc ((B 5) tk)), (upd vt sc ty), (upd (B 48) sc ((B 5) tk)), (upd vt sc ty)]) rfl rfl) hP
              have hD : va_D A (mW G h0 a (upd (upd (upd (upd F 15 (nI fa9)) 16 pl10) 73 (nI (sc + 1))) 77 x61) (updA (updA B 48 (upd (B 48) sc ((B 5) tk))) 49 (upd vt sc ty))) := mW_D hD
              exact W.iret (v := (nI ((sc + 1) - 1))) hx hb hr (fun t9 ht9 hW9 => ⟨⟨_, (((sc + 1) - 1), fa9, (sc + 1), pl10, x61, (upd (B 48) sc ((B 5) tk)), (upd vt sc ty)), rfl, ⟨rfl, hz65, hz66, hz67, hz68, hz69, hz70, hz71, hz72⟩, by rw [ht9]; exact hP, hD⟩, hS.F ht9⟩) hS.2.2 dX12_comes_175
          · have n73 : r8 = 0 := (nI_eq (a := r8) (b := 0) (by omega) (by omega)).mp c19
            refine lv_iconst (v := 0) hx hb dX12_comes_78 (by decide) ?_
            have hz74 : 0 ≤ 30 := (by omega)
            have hz75 : fa ≤ fa9 := (by omega)
            have hz76 : fa9 ≤ fa + 15 := (by omega)
            have hz77 : sc ≤ sc := (by omega)
            have hz78 : sc ≤ 30 := (by omega)
            have hz79 : If (fa9 = 0) (sc = sc + 1 ∧ 0 = sc ∧ vt = upd vt sc ty) := (fun e => absurd e (by omega))
            have hz80 : If (0 < fa9) (sc = sc) := (fun e => by omega)
            have hz81 : If (0 < fa) (fa9 = fa) := h17
            have hP : va_P G.1 pCl (mW G h0 a (upd (upd (upd (upd F 15 (nI fa9)) 16 pl10) 73 (nI sc)) 77 dn) (updA (updA B 48 (B 48)) 49 vt)) _ := mW_to (F := F) (l1 := [(15, (nI fa9)), (16, pl10), (73, (nI sc)), (77, dn)]) (l2 := [(15, (nI fa9)), (16, pl10), (73, (nI sc)), (77, dn)]) (V := [(nI fa9), pl10, (nI sc), dn, (nI fa9), pl10, (nI sc), dn]) rfl rfl (show (updA B 49 vt) = (updA (updA B 48 (B 48)) 49 vt) from updsA_eq2 (F := B) (l1 := [(49, vt)]) (l2 := [(48, (B 48)), (49, vt)]) (V := [vt, (B 48), vt]) rfl rfl) hP
            have hD : va_D A (mW G h0 a (upd (upd (upd (upd F 15 (nI fa9)) 16 pl10) 73 (nI sc)) 77 dn) (updA (updA B 48 (B 48)) 49 vt)) := mW_D hD
            exact W.iret (v := 0) hx hb hr (fun t9 ht9 hW9 => ⟨⟨_, (0, fa9, sc, pl10, dn, (B 48), vt), rfl, ⟨rfl, hz74, hz75, hz76, hz77, hz78, hz79, hz80, hz81⟩, by rw [ht9]; exact hP, hD⟩, hS.F ht9⟩) hS.2.2 dX12_comes_79
        · have n82 : th = 0 := (nI_eq (a := th) (b := 0) (by omega) (by omega)).mp c3
          refine lv_aload_n hx hb dX12_comes_55 rfl (lv_at hl 5 rfl) ?_
          refine r_get (v := .int (nI sc)) hx hb hown hq hE hP 73 537 tFX12_73 (by decide) pw_1795 rfl dX12_comes_56 ?_
          refine lv_bipush (v := 30) hx hb dX12_comes_59 (by decide) ?_
          refine lv_icmp_ge (tgt := 68) hx hb dX12_comes_61 (by decide) (fun c83 => ?_) (fun c83 => ?_)
          · have n84 : 30 ≤ sc := (nI_leI (a := 30) (b := sc) (by omega) (by omega)).mp c83
            refine lv_iconst (v := 0) hx hb dX12_comes_68 (by decide) ?_
            refine lv_bipush (v := 14) hx hb dX12_comes_69 (by decide) ?_
            refine lv_iload_n hx hb dX12_comes_71 rfl (lv_at hl 4 rfl) ?_
            have hP : va_P G.1 pCl (mW G h0 a (upd (upd (upd (upd F 15 (nI fa)) 73 (nI sc)) 77 dn) 15 (nI fa)) (updA B 49 vt)) _ := mW_to (F := F) (l1 := [(15, (nI fa)), (73, (nI sc)), (77, dn)]) (l2 := [(15, (nI fa)), (73, (nI sc)), (77, dn), (15, (nI fa))]) (V := [(nI fa), (nI sc), dn, (nI fa), (nI sc), dn, (nI fa)]) rfl rfl rfl hP
            have hD : va_D A (mW G h0 a (upd (upd (upd (upd F 15 (nI fa)) 73 (nI sc)) 77 dn) 15 (nI fa)) (updA B 49 vt)) := mW_D hD
            refine pc_V0 (G := G) (As := [.int (nI 0), .int (nI 14), .int (nI tk)]) (rest := []) hx hb hml hown hq hE hX pX0_al hP hD hS hA hl.1 (R_judge l G h0 a (upd (upd (upd F 15 (nI fa)) 73 (nI sc)) 77 dn) (updA B 49 vt) 0 14 tk fa (by omega) (by omega) (by omega) (by omega)) (gV pw_1798 pw_1799 pw_1800 pw_1523 pw_1793) hV_X12_judge 0 9 rfl rfl rfl rfl (Nat.le_of_ble_eq_true rfl) dX12_comes_72 ⟨Nat.le_of_ble_eq_true rfl, Nat.le_of_ble_eq_true rfl⟩ ⟨Nat.le_of_ble_eq_true rfl, Nat.le_of_ble_eq_true rfl⟩ (fun v87 u85 H locs hw86 hP hD hS => ?_)
            obtain ⟨r88, fa89, pl90⟩ := u85
            obtain ⟨hw86, h91, h92, h93, h94, h95, h96, h97, h98⟩ := hw86
            replace h91 : r88 ≤ 1 := h91
            replace h92 : fa ≤ fa89 := h92
            replace h93 : fa89 ≤ fa + 15 := h93
            replace h94 : fa89 + 200 * r88 ≤ 200 := h94
            replace h95 : 1 ≤ r88 + fa89 := h95
            replace h96 : 1 ≤ 0 + fa89 := h96
            replace h97 : If (0 < fa) (fa89 = fa) := h97
            replace h98 : fa89 ≤ fa + 15 * (1 - 0) := h98
            obtain rfl : v87 = some (.int (nI r88)) := hw86
            have hP : va_P G.1 pCl (mW G h0 a (upd (upd (upd (upd F 15 (nI fa89)) 16 pl90) 73 (nI sc)) 77 dn) (updA B 49 vt)) _ := mW_to (F := F) (l1 := [(15, (nI fa)), (73, (nI sc)), (77, dn), (15, (nI fa89)), (16, pl90)]) (l2 := [(15, (nI fa89)), (16, pl90), (73, (nI sc)), (77, dn)]) (V := [(nI fa89), (nI sc), dn, (nI fa89), pl90, (nI fa89), pl90, (nI sc), dn]) rfl rfl rfl hP
            have hD : va_D A (mW G h0 a (upd (upd (upd (upd F 15 (nI fa89)) 16 pl90) 73 (nI sc)) 77 dn) (updA B 49 vt)) := mW_D hD
            refine W.widen (k := 0) (n := 0) (Nat.le_of_ble_eq_true rfl) (Nat.le_of_ble_eq_true rfl) ?_
            refine W.eq (g2 := F0 m 75 ls [.int (nI r88)]) rfl ?_
            refine lv_if_ne (tgt := 80) hx hb dX12_comes_75 (by decide) (fun c99 => ?_) (fun c99 => ?_)
            · have n100 : ¬ (r88 = 0) := fun h9 => c99 ((nI_eq (a := r88) (b := 0) (by omega) (by omega)).mpr h9)
              refine lv_aload_n hx hb dX12_comes_80 rfl (lv_at hl 5 rfl) ?_
              refine r_get (v := .ref (a 48)) hx hb hown hq hE hP 71 156 tFX12_71 (by decide) pw_1479 rfl dX12_comes_81 ?_
              refine lv_aload_n hx hb dX12_comes_84 rfl (lv_at hl 5 rfl) ?_
              refine r_get (v := .int (nI sc)) hx hb hown hq hE hP 73 537 tFX12_73 (by decide) pw_1795 rfl dX12_comes_85 ?_
              refine lv_aload_n hx hb dX12_comes_88 rfl (lv_at hl 5 rfl) ?_
              refine r_get (v := .ref (a 5)) hx hb hown hq hE hP 8 25 tFX12_8 (by decide) pw_1435 rfl dX12_comes_89 ?_
              refine lv_iload_n hx hb dX12_comes_92 rfl (lv_at hl 4 rfl) ?_
              refine r_ldi (f := (B 5)) (j := tk) hx hb hE hP 5 (ma_5 G a _) rfl (by omega) (by decide) dX12_comes_93 ?_
              refine r_sti (f := (B 48)) (j := sc) hx hb hE hP hD hS 48 (ma_48 G a _) rfl (mas_48 G a _) (by omega) (by decide) dX12_comes_94 (fun H locs hP hD hS => ?_)
              refine lv_aload_n hx hb dX12_comes_95 rfl (lv_at hl 5 rfl) ?_
              refine r_get (v := .ref (a 49)) hx hb hown hq hE hP 72 159 tFX12_72 (by decide) pw_1480 rfl dX12_comes_96 ?_
              refine lv_aload_n hx hb dX12_comes_99 rfl (lv_at hl 5 rfl) ?_
              refine r_get (v := .int (nI sc)) hx hb hown hq hE hP 73 537 tFX12_73 (by decide) pw_1795 rfl dX12_comes_100 ?_
              refine lv_iload_n hx hb dX12_comes_103 rfl (lv_at hl 3 rfl) ?_
              refine r_sti (f := vt) (j := sc) hx hb hE hP hD hS 49 (ma_49 G a _) rfl (mas_49 G a _) (by omega) (by decide) dX12_comes_104 (fun H locs hP hD hS => ?_)
              refine lv_aload_n hx hb dX12_comes_105 rfl (lv_at hl 5 rfl) ?_
              refine lv_dup hx hb dX12_comes_106 rfl ?_
              refine r_get (v := .int (nI sc)) hx hb hown hq hE hP 73 537 tFX12_73 (by decide) pw_1795 rfl dX12_comes_107 ?_
              refine lv_iconst (v := 1) hx hb dX12_comes_110 (by decide) ?_
              refine lv_iadd hx hb dX12_comes_111 ?_
              refine lv_topi (fun x101 e102 => ?_)
              obtain rfl : x101 = nI (sc + 1) := e102.trans (nI_add (sc) (1))
              refine r_put (v := (nI (sc + 1))) (ty := .int) hx hb hown hq hE hP hD hS 73 537 tFX12_73 (by decide) pw_1795 (by decide) rfl rfl (ms_73 a _ _) dX12_comes_112 (fun H locs hP hD hS => ?_)
              refine lv_iload_n hx hb dX12_comes_115 rfl (lv_at hl 2 rfl) ?_
              refine lv_if_eq (tgt := 139) hx hb dX12_comes_116 (by decide) (fun c103 => ?_) (fun c103 => ?_)
              · have n104 : bs = 0 := (nI_eq (a := bs) (b := 0) (by omega) (by omega)).mp c103
                refine lv_aload_n hx hb dX12_comes_139 rfl (lv_at hl 5 rfl) ?_
                refine r_get (v := .int dn) hx hb hown hq hE hP 77 544 tFX12_77 (by decide) pw_1796 rfl dX12_comes_140 ?_
                refine lv_ldcw (v := 1073741824) hx hb hown (hq _ pw_1797) dX12_comes_143 ?_
                refine lv_iand hx hb dX12_comes_146 ?_
                refine lv_topi (fun x105 e106 => ?_)
                refine lv_if_ne (tgt := 169) hx hb dX12_comes_147 (by decide) (fun c107 => ?_) (fun c107 => ?_)
                · refine lv_aload_n hx hb dX12_comes_169 rfl (lv_at hl 5 rfl) ?_
                  refine r_get (v := .int (nI (sc + 1))) hx hb hown hq hE hP 73 537 tFX12_73 (by decide) pw_1795 rfl dX12_comes_170 ?_
                  refine lv_iconst (v := 1) hx hb dX12_comes_173 (by decide) ?_
                  refine lv_isub hx hb dX12_comes_174 ?_
                  refine lv_topi (fun x108 e109 => ?_)
                  obtain rfl : x108 = nI ((sc + 1) - 1) := e109.trans (nI_subN (a := 1) (b := (sc + 1)) (by omega))
                  have hz110 : ((sc + 1) - 1) ≤ 30 := (by omega)
                  have hz111 : fa ≤ fa89 := (by omega)
                  have hz112 : fa89 ≤ fa + 15 := (by omega)
                  have hz113 : sc ≤ (sc + 1) := (by omega)
                  have hz114 : (sc + 1) ≤ 30 := (by omega)
                  have hz115 : If (fa89 = 0) ((sc + 1) = sc + 1 ∧ ((sc + 1) - 1) = sc ∧ (upd vt sc ty) = upd vt sc ty) := (fun e => ⟨by omega, by omega, rfl⟩)
                  have hz116 : If (0 < fa89) ((sc + 1) = sc) := (fun e => by omega)
                  have hz117 : If (0 < fa) (fa89 = fa) := h97
                  have hP : va_P G.1 pCl (mW G h0 a (upd (upd (upd (upd F 15 (nI fa89)) 16 pl90) 73 (nI (sc + 1))) 77 dn) (updA (updA B 48 (upd (B 48) sc ((B 5) tk))) 49 (upd vt sc ty))) _ := mW_to (F := F) (l1 := [(15, (nI fa89)), (16, pl90), (73, (nI sc)), (77, dn), (73, (nI (sc + 1)))]) (l2 := [(15, (nI fa89)), (16, pl90), (73, (nI (sc + 1))), (77, dn)]) (V := [(nI fa89), pl90, (nI (sc + 1)), dn, (nI (sc + 1)), (nI fa89), pl90, (nI (sc + 1)), dn]) rfl rfl (show (updA (updA (updA B 49 vt) 48 (upd (B 48) sc ((B 5) tk))) 49 (upd vt sc ty)) = (updA (updA B 48 (upd (B 48) sc ((B 5) tk))) 49 (upd vt sc ty)) from updsA_eq2 (F := B) (l1 := [(49, vt), (48, (upd (B 48) sc ((B 5) tk))), (49, (upd vt sc ty))]) (l2 := [(48, (upd (B 48) sc ((B 5) tk))), (49, (upd vt sc ty))]) (V := [(upd vt sc ty), (upd (B 48) sc ((B 5) tk)), (upd vt sc ty), (upd (B 48) sc ((B 5) tk)), (upd vt sc ty)]) rfl rfl) hP
                  have hD : va_D A (mW G h0 a (upd (upd (upd (upd F 15 (nI fa89)) 16 pl90) 73 (nI (sc + 1))) 77 dn) (updA (updA B 48 (upd (B 48) sc ((B 5) tk))) 49 (upd vt sc ty))) := mW_D hD
                  exact W.iret (v := (nI ((sc + 1) - 1))) hx hb hr (fun t9 ht9 hW9 => ⟨⟨_, (((sc + 1) - 1), fa89, (sc + 1), pl90, dn, (upd (B 48) sc ((B 5) tk)), (upd vt sc ty)), rfl, ⟨rfl, hz110, hz111, hz112, hz113, hz114, hz115, hz116, hz117⟩, by rw [ht9]; exact hP, hD⟩, hS.F ht9⟩) hS.2.2 dX12_comes_175
                · refine lv_aload_n hx hb dX12_comes_150 rfl (lv_at hl 5 rfl) ?_
                  refine lv_dup hx hb dX12_comes_151 rfl ?_
                  refine r_get (v := .int dn) hx hb hown hq hE hP 77 544 tFX12_77 (by decide) pw_1796 rfl dX12_comes_152 ?_
                  refine lv_iconst (v := 1) hx hb dX12_comes_155 (by decide) ?_
                  refine lv_aload_n hx hb dX12_comes_156 rfl (lv_at hl 5 rfl) ?_
                  refine r_get (v := .int (nI (sc + 1))) hx hb hown hq hE hP 73 537 tFX12_73 (by decide) pw_1795 rfl dX12_comes_157 ?_
                  refine lv_iconst (v := 1) hx hb dX12_comes_160 (by decide) ?_
                  refine lv_isub hx hb dX12_comes_161 ?_
                  refine lv_topi (fun x118 e119 => ?_)
                  obtain rfl : x118 = nI ((sc + 1) - 1) := e119.trans (nI_subN (a := 1) (b := (sc + 1)) (by omega))
                  refine lv_ishl hx hb dX12_comes_162 ?_
                  refine lv_topi (fun x120 e121 => ?_)
                  refine lv_iconst (v := (-1)) hx hb dX12_comes_163 (by decide) ?_
                  refine lv_ixor hx hb dX12_comes_164 ?_
                  refine lv_topi (fun x122 e123 => ?_)
                  refine lv_iand hx hb dX12_comes_165 ?_
                  refine lv_topi (fun x124 e125 => ?_)
                  refine r_put (v := x124) (ty := .int) hx hb hown hq hE hP hD hS 77 544 tFX12_77 (by decide) pw_1796 (by decide) rfl rfl (ms_77 a _ _) dX12_comes_166 (fun H locs hP hD hS => ?_)
                  refine lv_aload_n hx hb dX12_comes_169 rfl (lv_at hl 5 rfl) ?_
                  refine r_get (v := .int (nI (sc + 1))) hx hb hown hq hE hP 73 537 tFX12_73 (by decide) pw_1795 rfl dX12_comes_170 ?_
                  refine lv_iconst (v := 1) hx hb dX12_comes_173 (by decide) ?_
                  refine lv_isub hx hb dX12_comes_174 ?_
                  refine lv_topi (fun x126 e127 => ?_)
                  obtain rfl : x126 = nI ((sc + 1) - 1) := e127.trans (nI_subN (a := 1) (b := (sc + 1)) (by omega))
                  have hz128 : ((sc + 1) - 1) ≤ 30 := (by omega)
                  have hz129 : fa ≤ fa89 := (by omega)
                  have hz130 : fa89 ≤ fa + 15 := (by omega)
                  have hz131 : sc ≤ (sc + 1) := (by omega)
                  have hz132 : (sc + 1) ≤ 30 := (by omega)
                  have hz133 : If (fa89 = 0) ((sc + 1) = sc + 1 ∧ ((sc + 1) - 1) = sc ∧ (upd vt sc ty) = upd vt sc ty) := (fun e => ⟨by omega, by omega, rfl⟩)
                  have hz134 : If (0 < fa89) ((sc + 1) = sc) := (fun e => by omega)
                  have hz135 : If (0 < fa) (fa89 = fa) := h97
                  have hP : va_P G.1 pCl (mW G h0 a (upd (upd (upd (upd F 15 (nI fa89)) 16 pl90) 73 (nI (sc + 1))) 77 x124) (updA (updA B 48 (upd (B 48) sc ((B 5) tk))) 49 (upd vt sc ty))) _ := mW_to (F := F) (l1 := [(15, (nI fa89)), (16, pl90), (73, (nI sc)), (77, dn), (73, (nI (sc + 1))), (77, x124)]) (l2 := [(15, (nI fa89)), (16, pl90), (73, (nI (sc + 1))), (77, x124)]) (V := [(nI fa89), pl90, (nI (sc + 1)), x124, (nI (sc + 1)), x124, (nI fa89), pl90, (nI (sc + 1)), x124]) rfl rfl (show (updA (updA (updA B 49 vt) 48 (upd (B 48) sc ((B 5) tk))) 49 (upd vt sc ty)) = (updA (updA B 48 (upd (B 48) sc ((B 5) tk))) 49 (upd vt sc ty)) from updsA_eq2 (F := B) (l1 := [(49, vt), (48, (upd (B 48) sc ((B 5) tk))), (49, (upd vt sc ty))]) (l2 := [(48, (upd (B 48) sc ((B 5) tk))), (49, (upd vt sc ty))]) (V := [(upd vt sc ty), (upd (B 48) sc ((B 5) tk)), (upd vt sc ty), (upd (B 48) sc ((B 5) tk)), (upd vt sc ty)]) rfl rfl) hP
                  have hD : va_D A (mW G h0 a (upd (upd (upd (upd F 15 (nI fa89)) 16 pl90) 73 (nI (sc + 1))) 77 x124) (updA (updA B 48 (upd (B 48) sc ((B 5) tk))) 49 (upd vt sc ty))) := mW_D hD
                  exact W.iret (v := (nI ((sc + 1) - 1))) hx hb hr (fun t9 ht9 hW9 => ⟨⟨_, (((sc + 1) - 1), fa89, (sc + 1), pl90, x124, (upd (B 48) sc ((B 5) tk)), (upd vt sc ty)), rfl, ⟨rfl, hz128, hz129, hz130, hz131, hz132, hz133, hz134, hz135⟩, by rw [ht9]; exact hP, hD⟩, hS.F ht9⟩) hS.2.2 dX12_comes_175
              · have n136 : ¬ (bs = 0) := fun h9 => c103 ((nI_eq (a := bs) (b := 0) (by omega) (by omega)).mpr h9)
                refine lv_aload_n hx hb dX12_comes_119 rfl (lv_at hl 5 rfl) ?_
                refine lv_dup hx hb dX12_comes_120 rfl ?_
                refine r_get (v := .int dn) hx hb hown hq hE hP 77 544 tFX12_77 (by decide) pw_1796 rfl dX12_comes_121 ?_
                refine lv_iconst (v := 1) hx hb dX12_comes_124 (by decide) ?_
                refine lv_aload_n hx hb dX12_comes_125 rfl (lv_at hl 5 rfl) ?_
                refine r_get (v := .int (nI (sc + 1))) hx hb hown hq hE hP 73 537 tFX12_73 (by decide) pw_1795 rfl dX12_comes_126 ?_
                refine lv_iconst (v := 1) hx hb dX12_comes_129 (by decide) ?_
                refine lv_isub hx hb dX12_comes_130 ?_
                refine lv_topi (fun x137 e138 => ?_)
                obtain rfl : x137 = nI ((sc + 1) - 1) := e138.trans (nI_subN (a := 1) (b := (sc + 1)) (by omega))
                refine lv_ishl hx hb dX12_comes_131 ?_
                refine lv_topi (fun x139 e140 => ?_)
                refine lv_ior hx hb dX12_comes_132 ?_
                refine lv_topi (fun x141 e142 => ?_)
                refine r_put (v := x141) (ty := .int) hx hb hown hq hE hP hD hS 77 544 tFX12_77 (by decide) pw_1796 (by decide) rfl rfl (ms_77 a _ _) dX12_comes_133 (fun H locs hP hD hS => ?_)
                refine lv_goto (tgt := 169) hx hb dX12_comes_136 (by decide) ?_
                refine lv_aload_n hx hb dX12_comes_169 rfl (lv_at hl 5 rfl) ?_
                refine r_get (v := .int (nI (sc + 1))) hx hb hown hq hE hP 73 537 tFX12_73 (by decide) pw_1795 rfl dX12_comes_170 ?_
                refine lv_iconst (v := 1) hx hb dX12_comes_173 (by decide) ?_
                refine lv_isub hx hb dX12_comes_174 ?_
                refine lv_topi (fun x143 e144 => ?_)
                obtain rfl : x143 = nI ((sc + 1) - 1) := e144.trans (nI_subN (a := 1) (b := (sc + 1)) (by omega))
                have hz145 : ((sc + 1) - 1) ≤ 30 := (by omega)
                have hz146 : fa ≤ fa89 := (by omega)
                have hz147 : fa89 ≤ fa + 15 := (by omega)
                have hz148 : sc ≤ (sc + 1) := (by omega)
                have hz149 : (sc + 1) ≤ 30 := (by omega)
                have hz150 : If (fa89 = 0) ((sc + 1) = sc + 1 ∧ ((sc + 1) - 1) = sc ∧ (upd vt sc ty) = upd vt sc ty) := (fun e => ⟨by omega, by omega, rfl⟩)
                have hz151 : If (0 < fa89) ((sc + 1) = sc) := (fun e => by omega)
                have hz152 : If (0 < fa) (fa89 = fa) := h97
                have hP : va_P G.1 pCl (mW G h0 a (upd (upd (upd (upd F 15 (nI fa89)) 16 pl90) 73 (nI (sc + 1))) 77 x141) (updA (updA B 48 (upd (B 48) sc ((B 5) tk))) 49 (upd vt sc ty))) _ := mW_to (F := F) (l1 := [(15, (nI fa89)), (16, pl90), (73, (nI sc)), (77, dn), (73, (nI (sc + 1))), (77, x141)]) (l2 := [(15, (nI fa89)), (16, pl90), (73, (nI (sc + 1))), (77, x141)]) (V := [(nI fa89), pl90, (nI (sc + 1)), x141, (nI (sc + 1)), x141, (nI fa89), pl90, (nI (sc + 1)), x141]) rfl rfl (show (updA (updA (updA B 49 vt) 48 (upd (B 48) sc ((B 5) tk))) 49 (upd vt sc ty)) = (updA (updA B 48 (upd (B 48) sc ((B 5) tk))) 49 (upd vt sc ty)) from updsA_eq2 (F := B) (l1 := [(49, vt), (48, (upd (B 48) sc ((B 5) tk))), (49, (upd vt sc ty))]) (l2 := [(48, (upd (B 48) sc ((B 5) tk))), (49, (upd vt sc ty))]) (V := [(upd vt sc ty), (upd (B 48) sc ((B 5) tk)), (upd vt sc ty), (upd (B 48) sc ((B 5) tk)), (upd vt sc ty)]) rfl rfl) hP
                have hD : va_D A (mW G h0 a (upd (upd (upd (upd F 15 (nI fa89)) 16 pl90) 73 (nI (sc + 1))) 77 x141) (updA (updA B 48 (upd (B 48) sc ((B 5) tk))) 49 (upd vt sc ty))) := mW_D hD
                exact W.iret (v := (nI ((sc + 1) - 1))) hx hb hr (fun t9 ht9 hW9 => ⟨⟨_, (((sc + 1) - 1), fa89, (sc + 1), pl90, x141, (upd (B 48) sc ((B 5) tk)), (upd vt sc ty)), rfl, ⟨rfl, hz145, hz146, hz147, hz148, hz149, hz150, hz151, hz152⟩, by rw [ht9]; exact hP, hD⟩, hS.F ht9⟩) hS.2.2 dX12_comes_175
            · have n153 : r88 = 0 := (nI_eq (a := r88) (b := 0) (by omega) (by omega)).mp c99
              refine lv_iconst (v := 0) hx hb dX12_comes_78 (by decide) ?_
              have hz154 : 0 ≤ 30 := (by omega)
              have hz155 : fa ≤ fa89 := (by omega)
              have hz156 : fa89 ≤ fa + 15 := (by omega)
              have hz157 : sc ≤ sc := (by omega)
              have hz158 : sc ≤ 30 := (by omega)
              have hz159 : If (fa89 = 0) (sc = sc + 1 ∧ 0 = sc ∧ vt = upd vt sc ty) := (fun e => absurd e (by omega))
              have hz160 : If (0 < fa89) (sc = sc) := (fun e => by omega)
              have hz161 : If (0 < fa) (fa89 = fa) := h97
              have hP : va_P G.1 pCl (mW G h0 a (upd (upd (upd (upd F 15 (nI fa89)) 16 pl90) 73 (nI sc)) 77 dn) (updA (updA B 48 (B 48)) 49 vt)) _ := mW_to (F := F) (l1 := [(15, (nI fa89)), (16, pl90), (73, (nI sc)), (77, dn)]) (l2 := [(15, (nI fa89)), (16, pl90), (73, (nI sc)), (77, dn)]) (V := [(nI fa89), pl90, (nI sc), dn, (nI fa89), pl90, (nI sc), dn]) rfl rfl (show (updA B 49 vt) = (updA (updA B 48 (B 48)) 49 vt) from updsA_eq2 (F := B) (l1 := [(49, vt)]) (l2 := [(48, (B 48)), (49, vt)]) (V := [vt, (B 48), vt]) rfl rfl) hP
              have hD : va_D A (mW G h0 a (upd (upd (upd (upd F 15 (nI fa89)) 16 pl90) 73 (nI sc)) 77 dn) (updA (updA B 48 (B 48)) 49 vt)) := mW_D hD
              exact W.iret (v := 0) hx hb hr (fun t9 ht9 hW9 => ⟨⟨_, (0, fa89, sc, pl90, dn, (B 48), vt), rfl, ⟨rfl, hz154, hz155, hz156, hz157, hz158, hz159, hz160, hz161⟩, by rw [ht9]; exact hP, hD⟩, hS.F ht9⟩) hS.2.2 dX12_comes_79
          · have n162 : ¬ (30 ≤ sc) := fun h9 => c83 ((nI_leI (a := 30) (b := sc) (by omega) (by omega)).mpr h9)
            refine lv_iconst (v := 1) hx hb dX12_comes_64 (by decide) ?_
            refine lv_goto (tgt := 69) hx hb dX12_comes_65 (by decide) ?_
            refine lv_bipush (v := 14) hx hb dX12_comes_69 (by decide) ?_
            refine lv_iload_n hx hb dX12_comes_71 rfl (lv_at hl 4 rfl) ?_
            have hP : va_P G.1 pCl (mW G h0 a (upd (upd (upd (upd F 15 (nI fa)) 73 (nI sc)) 77 dn) 15 (nI fa)) (updA B 49 vt)) _ := mW_to (F := F) (l1 := [(15, (nI fa)), (73, (nI sc)), (77, dn)]) (l2 := [(15, (nI fa)), (73, (nI sc)), (77, dn), (15, (nI fa))]) (V := [(nI fa), (nI sc), dn, (nI fa), (nI sc), dn, (nI fa)]) rfl rfl rfl hP
            have hD : va_D A (mW G h0 a (upd (upd (upd (upd F 15 (nI fa)) 73 (nI sc)) 77 dn) 15 (nI fa)) (updA B 49 vt)) := mW_D hD
            refine pc_V0 (G := G) (As := [.int (nI 1), .int (nI 14), .int (nI tk)]) (rest := []) hx hb hml hown hq hE hX pX0_al hP hD hS hA hl.1 (R_judge l G h0 a (upd (upd (upd F 15 (nI fa)) 73 (nI sc)) 77 dn) (updA B 49 vt) 1 14 tk fa (by omega) (by omega) (by omega) (by omega)) (gV pw_1798 pw_1799 pw_1800 pw_1523 pw_1793) hV_X12_judge 0 9 rfl rfl rfl rfl (Nat.le_of_ble_eq_true rfl) dX12_comes_72 ⟨Nat.le_of_ble_eq_true rfl, Nat.le_of_ble_eq_true rfl⟩ ⟨Nat.le_of_ble_eq_true rfl, Nat.le_of_ble_eq_true rfl⟩ (fun v165 u163 H locs hw164 hP hD hS => ?_)
            obtain ⟨r166, fa167, pl168⟩ := u163
            obtain ⟨hw164, h169, h170, h171, h172, h173, h174, h175, h176⟩ := hw164
            replace h169 : r166 ≤ 1 := h169
            replace h170 : fa ≤ fa167 := h170
            replace h171 : fa167 ≤ fa + 15 := h171
            replace h172 : fa167 + 200 * r166 ≤ 200 := h172
            replace h173 : 1 ≤ r166 + fa167 := h173
            replace h174 : 1 ≤ 1 + fa167 := h174
            replace h175 : If (0 < fa) (fa167 = fa) := h175
            replace h176 : fa167 ≤ fa + 15 * (1 - 1) := h176
            obtain rfl : v165 = some (.int (nI r166)) := hw164
            have hP : va_P G.1 pCl (mW G h0 a (upd (upd (upd (upd F 15 (nI fa167)) 16 pl168) 73 (nI sc)) 77 dn) (updA B 49 vt)) _ := mW_to (F := F) (l1 := [(15, (nI fa)), (73, (nI sc)), (77, dn), (15, (nI fa167)), (16, pl168)]) (l2 := [(15, (nI fa167)), (16, pl168), (73, (nI sc)), (77, dn)]) (V := [(nI fa167), (nI sc), dn, (nI fa167), pl168, (nI fa167), pl168, (nI sc), dn]) rfl rfl rfl hP
            have hD : va_D A (mW G h0 a (upd (upd (upd (upd F 15 (nI fa167)) 16 pl168) 73 (nI sc)) 77 dn) (updA B 49 vt)) := mW_D hD
            refine W.widen (k := 0) (n := 0) (Nat.le_of_ble_eq_true rfl) (Nat.le_of_ble_eq_true rfl) ?_
            refine W.eq (g2 := F0 m 75 ls [.int (nI r166)]) rfl ?_
            refine lv_if_ne (tgt := 80) hx hb dX12_comes_75 (by decide) (fun c177 => ?_) (fun c177 => ?_)
            · have n178 : ¬ (r166 = 0) := fun h9 => c177 ((nI_eq (a := r166) (b := 0) (by omega) (by omega)).mpr h9)
              refine lv_aload_n hx hb dX12_comes_80 rfl (lv_at hl 5 rfl) ?_
              refine r_get (v := .ref (a 48)) hx hb hown hq hE hP 71 156 tFX12_71 (by decide) pw_1479 rfl dX12_comes_81 ?_
              refine lv_aload_n hx hb dX12_comes_84 rfl (lv_at hl 5 rfl) ?_
              refine r_get (v := .int (nI sc)) hx hb hown hq hE hP 73 537 tFX12_73 (by decide) pw_1795 rfl dX12_comes_85 ?_
              refine lv_aload_n hx hb dX12_comes_88 rfl (lv_at hl 5 rfl) ?_
              refine r_get (v := .ref (a 5)) hx hb hown hq hE hP 8 25 tFX12_8 (by decide) pw_1435 rfl dX12_comes_89 ?_
              refine lv_iload_n hx hb dX12_comes_92 rfl (lv_at hl 4 rfl) ?_
              refine r_ldi (f := (B 5)) (j := tk) hx hb hE hP 5 (ma_5 G a _) rfl (by omega) (by decide) dX12_comes_93 ?_
              refine r_sti (f := (B 48)) (j := sc) hx hb hE hP hD hS 48 (ma_48 G a _) rfl (mas_48 G a _) (by omega) (by decide) dX12_comes_94 (fun H locs hP hD hS => ?_)
              refine lv_aload_n hx hb dX12_comes_95 rfl (lv_at hl 5 rfl) ?_
              refine r_get (v := .ref (a 49)) hx hb hown hq hE hP 72 159 tFX12_72 (by decide) pw_1480 rfl dX12_comes_96 ?_
              refine lv_aload_n hx hb dX12_comes_99 rfl (lv_at hl 5 rfl) ?_
              refine r_get (v := .int (nI sc)) hx hb hown hq hE hP 73 537 tFX12_73 (by decide) pw_1795 rfl dX12_comes_100 ?_
              refine lv_iload_n hx hb dX12_comes_103 rfl (lv_at hl 3 rfl) ?_
              refine r_sti (f := vt) (j := sc) hx hb hE hP hD hS 49 (ma_49 G a _) rfl (mas_49 G a _) (by omega) (by decide) dX12_comes_104 (fun H locs hP hD hS => ?_)
              refine lv_aload_n hx hb dX12_comes_105 rfl (lv_at hl 5 rfl) ?_
              refine lv_dup hx hb dX12_comes_106 rfl ?_
              refine r_get (v := .int (nI sc)) hx hb hown hq hE hP 73 537 tFX12_73 (by decide) pw_1795 rfl dX12_comes_107 ?_
              refine lv_iconst (v := 1) hx hb dX12_comes_110 (by decide) ?_
              refine lv_iadd hx hb dX12_comes_111 ?_
              refine lv_topi (fun x179 e180 => ?_)
              obtain rfl : x179 = nI (sc + 1) := e180.trans (nI_add (sc) (1))
              refine r_put (v := (nI (sc + 1))) (ty := .int) hx hb hown hq hE hP hD hS 73 537 tFX12_73 (by decide) pw_1795 (by decide) rfl rfl (ms_73 a _ _) dX12_comes_112 (fun H locs hP hD hS => ?_)
              refine lv_iload_n hx hb dX12_comes_115 rfl (lv_at hl 2 rfl) ?_
              refine lv_if_eq (tgt := 139) hx hb dX12_comes_116 (by decide) (fun c181 => ?_) (fun c181 => ?_)
              · have n182 : bs = 0 := (nI_eq (a := bs) (b := 0) (by omega) (by omega)).mp c181
                refine lv_aload_n hx hb dX12_comes_139 rfl (lv_at hl 5 rfl) ?_
                refine r_get (v := .int dn) hx hb hown hq hE hP 77 544 tFX12_77 (by decide) pw_1796 rfl dX12_comes_140 ?_
                refine lv_ldcw (v := 1073741824) hx hb hown (hq _ pw_1797) dX12_comes_143 ?_
                refine lv_iand hx hb dX12_comes_146 ?_
                refine lv_topi (fun x183 e184 => ?_)
                refine lv_if_ne (tgt := 169) hx hb dX12_comes_147 (by decide) (fun c185 => ?_) (fun c185 => ?_)
                · refine lv_aload_n hx hb dX12_comes_169 rfl (lv_at hl 5 rfl) ?_
                  refine r_get (v := .int (nI (sc + 1))) hx hb hown hq hE hP 73 537 tFX12_73 (by decide) pw_1795 rfl dX12_comes_170 ?_
                  refine lv_iconst (v := 1) hx hb dX12_comes_173 (by decide) ?_
                  refine lv_isub hx hb dX12_comes_174 ?_
                  refine lv_topi (fun x186 e187 => ?_)
                  obtain rfl : x186 = nI ((sc + 1) - 1) := e187.trans (nI_subN (a := 1) (b := (sc + 1)) (by omega))
                  have hz188 : ((sc + 1) - 1) ≤ 30 := (by omega)
                  have hz189 : fa ≤ fa167 := (by omega)
                  have hz190 : fa167 ≤ fa + 15 := (by omega)
                  have hz191 : sc ≤ (sc + 1) := (by omega)
                  have hz192 : (sc + 1) ≤ 30 := (by omega)
                  have hz193 : If (fa167 = 0) ((sc + 1) = sc + 1 ∧ ((sc + 1) - 1) = sc ∧ (upd vt sc ty) = upd vt sc ty) := (fun e => ⟨by omega, by omega, rfl⟩)
                  have hz194 : If (0 < fa167) ((sc + 1) = sc) := (fun e => by omega)
                  have hz195 : If (0 < fa) (fa167 = fa) := h175
                  have hP : va_P G.1 pCl (mW G h0 a (upd (upd (upd (upd F 15 (nI fa167)) 16 pl168) 73 (nI (sc + 1))) 77 dn) (updA (updA B 48 (upd (B 48) sc ((B 5) tk))) 49 (upd vt sc ty))) _ := mW_to (F := F) (l1 := [(15, (nI fa167)), (16, pl168), (73, (nI sc)), (77, dn), (73, (nI (sc + 1)))]) (l2 := [(15, (nI fa167)), (16, pl168), (73, (nI (sc + 1))), (77, dn)]) (V := [(nI fa167), pl168, (nI (sc + 1)), dn, (nI (sc + 1)), (nI fa167), pl168, (nI (sc + 1)), dn]) rfl rfl (show (updA (updA (updA B 49 vt) 48 (upd (B 48) sc ((B 5) tk))) 49 (upd vt sc ty)) = (updA (updA B 48 (upd (B 48) sc ((B 5) tk))) 49 (upd vt sc ty)) from updsA_eq2 (F := B) (l1 := [(49, vt), (48, (upd (B 48) sc ((B 5) tk))), (49, (upd vt sc ty))]) (l2 := [(48, (upd (B 48) sc ((B 5) tk))), (49, (upd vt sc ty))]) (V := [(upd vt sc ty), (upd (B 48) sc ((B 5) tk)), (upd vt sc ty), (upd (B 48) sc ((B 5) tk)), (upd vt sc ty)]) rfl rfl) hP
                  have hD : va_D A (mW G h0 a (upd (upd (upd (upd F 15 (nI fa167)) 16 pl168) 73 (nI (sc + 1))) 77 dn) (updA (updA B 48 (upd (B 48) sc ((B 5) tk))) 49 (upd vt sc ty))) := mW_D hD
                  exact W.iret (v := (nI ((sc + 1) - 1))) hx hb hr (fun t9 ht9 hW9 => ⟨⟨_, (((sc + 1) - 1), fa167, (sc + 1), pl168, dn, (upd (B 48) sc ((B 5) tk)), (upd vt sc ty)), rfl, ⟨rfl, hz188, hz189, hz190, hz191, hz192, hz193, hz194, hz195⟩, by rw [ht9]; exact hP, hD⟩, hS.F ht9⟩) hS.2.2 dX12_comes_175
                · refine lv_aload_n hx hb dX12_comes_150 rfl (lv_at hl 5 rfl) ?_
                  refine lv_dup hx hb dX12_comes_151 rfl ?_
                  refine r_get (v := .int dn) hx hb hown hq hE hP 77 544 tFX12_77 (by decide) pw_1796 rfl dX12_comes_152 ?_
                  refine lv_iconst (v := 1) hx hb dX12_comes_155 (by decide) ?_
                  refine lv_aload_n hx hb dX12_comes_156 rfl (lv_at hl 5 rfl) ?_
                  refine r_get (v := .int (nI (sc + 1))) hx hb hown hq hE hP 73 537 tFX12_73 (by decide) pw_1795 rfl dX12_comes_157 ?_
                  refine lv_iconst (v := 1) hx hb dX12_comes_160 (by decide) ?_
                  refine lv_isub hx hb dX12_comes_161 ?_
                  refine lv_topi (fun x196 e197 => ?_)
                  obtain rfl : x196 = nI ((sc + 1) - 1) := e197.trans (nI_subN (a := 1) (b := (sc + 1)) (by omega))
                  refine lv_ishl hx hb dX12_comes_162 ?_
                  refine lv_topi (fun x198 e199 => ?_)
                  refine lv_iconst (v := (-1)) hx hb dX12_comes_163 (by decide) ?_
                  refine lv_ixor hx hb dX12_comes_164 ?_
                  refine lv_topi (fun x200 e201 => ?_)
                  refine lv_iand hx hb dX12_comes_165 ?_
                  refine lv_topi (fun x202 e203 => ?_)
                  refine r_put (v := x202) (ty := .int) hx hb hown hq hE hP hD hS 77 544 tFX12_77 (by decide) pw_1796 (by decide) rfl rfl (ms_77 a _ _) dX12_comes_166 (fun H locs hP hD hS => ?_)
                  refine lv_aload_n hx hb dX12_comes_169 rfl (lv_at hl 5 rfl) ?_
                  refine r_get (v := .int (nI (sc + 1))) hx hb hown hq hE hP 73 537 tFX12_73 (by decide) pw_1795 rfl dX12_comes_170 ?_
                  refine lv_iconst (v := 1) hx hb dX12_comes_173 (by decide) ?_
                  refine lv_isub hx hb dX12_comes_174 ?_
                  refine lv_topi (fun x204 e205 => ?_)
                  obtain rfl : x204 = nI ((sc + 1) - 1) := e205.trans (nI_subN (a := 1) (b := (sc + 1)) (by omega))
                  have hz206 : ((sc + 1) - 1) ≤ 30 := (by omega)
                  have hz207 : fa ≤ fa167 := (by omega)
                  have hz208 : fa167 ≤ fa + 15 := (by omega)
                  have hz209 : sc ≤ (sc + 1) := (by omega)
                  have hz210 : (sc + 1) ≤ 30 := (by omega)
                  have hz211 : If (fa167 = 0) ((sc + 1) = sc + 1 ∧ ((sc + 1) - 1) = sc ∧ (upd vt sc ty) = upd vt sc ty) := (fun e => ⟨by omega, by omega, rfl⟩)
                  have hz212 : If (0 < fa167) ((sc + 1) = sc) := (fun e => by omega)
                  have hz213 : If (0 < fa) (fa167 = fa) := h175
                  have hP : va_P G.1 pCl (mW G h0 a (upd (upd (upd (upd F 15 (nI fa167)) 16 pl168) 73 (nI (sc + 1))) 77 x202) (updA (updA B 48 (upd (B 48) sc ((B 5) tk))) 49 (upd vt sc ty))) _ := mW_to (F := F) (l1 := [(15, (nI fa167)), (16, pl168), (73, (nI sc)), (77, dn), (73, (nI (sc + 1))), (77, x202)]) (l2 := [(15, (nI fa167)), (16, pl168), (73, (nI (sc + 1))), (77, x202)]) (V := [(nI fa167), pl168, (nI (sc + 1)), x202, (nI (sc + 1)), x202, (nI fa167), pl168, (nI (sc + 1)), x202]) rfl rfl (show (updA (updA (updA B 49 vt) 48 (upd (B 48) sc ((B 5) tk))) 49 (upd vt sc ty)) = (updA (updA B 48 (upd (B 48) sc ((B 5) tk))) 49 (upd vt sc ty)) from updsA_eq2 (F := B) (l1 := [(49, vt), (48, (upd (B 48) sc ((B 5) tk))), (49, (upd vt sc ty))]) (l2 := [(48, (upd (B 48) sc ((B 5) tk))), (49, (upd vt sc ty))]) (V := [(upd vt sc ty), (upd (B 48) sc ((B 5) tk)), (upd vt sc ty), (upd (B 48) sc ((B 5) tk)), (upd vt sc ty)]) rfl rfl) hP
                  have hD : va_D A (mW G h0 a (upd (upd (upd (upd F 15 (nI fa167)) 16 pl168) 73 (nI (sc + 1))) 77 x202) (updA (updA B 48 (upd (B 48) sc ((B 5) tk))) 49 (upd vt sc ty))) := mW_D hD
                  exact W.iret (v := (nI ((sc + 1) - 1))) hx hb hr (fun t9 ht9 hW9 => ⟨⟨_, (((sc + 1) - 1), fa167, (sc + 1), pl168, x202, (upd (B 48) sc ((B 5) tk)), (upd vt sc ty)), rfl, ⟨rfl, hz206, hz207, hz208, hz209, hz210, hz211, hz212, hz213⟩, by rw [ht9]; exact hP, hD⟩, hS.F ht9⟩) hS.2.2 dX12_comes_175
              · have n214 : ¬ (bs = 0) := fun h9 => c181 ((nI_eq (a := bs) (b := 0) (by omega) (by omega)).mpr h9)
                refine lv_aload_n hx hb dX12_comes_119 rfl (lv_at hl 5 rfl) ?_
                refine lv_dup hx hb dX12_comes_120 rfl ?_
                refine r_get (v := .int dn) hx hb hown hq hE hP 77 544 tFX12_77 (by decide) pw_1796 rfl dX12_comes_121 ?_
                refine lv_iconst (v := 1) hx hb dX12_comes_124 (by decide) ?_
                refine lv_aload_n hx hb dX12_comes_125 rfl (lv_at hl 5 rfl) ?_
                refine r_get (v := .int (nI (sc + 1))) hx hb hown hq hE hP 73 537 tFX12_73 (by decide) pw_1795 rfl dX12_comes_126 ?_
                refine lv_iconst (v := 1) hx hb dX12_comes_129 (by decide) ?_
                refine lv_isub hx hb dX12_comes_130 ?_
                refine lv_topi (fun x215 e216 => ?_)
                obtain rfl : x215 = nI ((sc + 1) - 1) := e216.trans (nI_subN (a := 1) (b := (sc + 1)) (by omega))
                refine lv_ishl hx hb dX12_comes_131 ?_
                refine lv_topi (fun x217 e218 => ?_)
                refine lv_ior hx hb dX12_comes_132 ?_
                refine lv_topi (fun x219 e220 => ?_)
                refine r_put (v := x219) (ty := .int) hx hb hown hq hE hP hD hS 77 544 tFX12_77 (by decide) pw_1796 (by decide) rfl rfl (ms_77 a _ _) dX12_comes_133 (fun H locs hP hD hS => ?_)
                refine lv_goto (tgt := 169) hx hb dX12_comes_136 (by decide) ?_
                refine lv_aload_n hx hb dX12_comes_169 rfl (lv_at hl 5 rfl) ?_
                refine r_get (v := .int (nI (sc + 1))) hx hb hown hq hE hP 73 537 tFX12_73 (by decide) pw_1795 rfl dX12_comes_170 ?_
                refine lv_iconst (v := 1) hx hb dX12_comes_173 (by decide) ?_
                refine lv_isub hx hb dX12_comes_174 ?_
                refine lv_topi (fun x221 e222 => ?_)
                obtain rfl : x221 = nI ((sc + 1) - 1) := e222.trans (nI_subN (a := 1) (b := (sc + 1)) (by omega))
                have hz223 : ((sc + 1) - 1) ≤ 30 := (by omega)
                have hz224 : fa ≤ fa167 := (by omega)
                have hz225 : fa167 ≤ fa + 15 := (by omega)
                have hz226 : sc ≤ (sc + 1) := (by omega)
                have hz227 : (sc + 1) ≤ 30 := (by omega)
                have hz228 : If (fa167 = 0) ((sc + 1) = sc + 1 ∧ ((sc + 1) - 1) = sc ∧ (upd vt sc ty) = upd vt sc ty) := (fun e => ⟨by omega, by omega, rfl⟩)
                have hz229 : If (0 < fa167) ((sc + 1) = sc) := (fun e => by omega)
                have hz230 : If (0 < fa) (fa167 = fa) := h175
                have hP : va_P G.1 pCl (mW G h0 a (upd (upd (upd (upd F 15 (nI fa167)) 16 pl168) 73 (nI (sc + 1))) 77 x219) (updA (updA B 48 (upd (B 48) sc ((B 5) tk))) 49 (upd vt sc ty))) _ := mW_to (F := F) (l1 := [(15, (nI fa167)), (16, pl168), (73, (nI sc)), (77, dn), (73, (nI (sc + 1))), (77, x219)]) (l2 := [(15, (nI fa167)), (16, pl168), (73, (nI (sc + 1))), (77, x219)]) (V := [(nI fa167), pl168, (nI (sc + 1)), x219, (nI (sc + 1)), x219, (nI fa167), pl168, (nI (sc + 1)), x219]) rfl rfl (show (updA (updA (updA B 49 vt) 48 (upd (B 48) sc ((B 5) tk))) 49 (upd vt sc ty)) = (updA (updA B 48 (upd (B 48) sc ((B 5) tk))) 49 (upd vt sc ty)) from updsA_eq2 (F := B) (l1 := [(49, vt), (48, (upd (B 48) sc ((B 5) tk))), (49, (upd vt sc ty))]) (l2 := [(48, (upd (B 48) sc ((B 5) tk))), (49, (upd vt sc ty))]) (V := [(upd vt sc ty), (upd (B 48) sc ((B 5) tk)), (upd vt sc ty), (upd (B 48) sc ((B 5) tk)), (upd vt sc ty)]) rfl rfl) hP
                have hD : va_D A (mW G h0 a (upd (upd (upd (upd F 15 (nI fa167)) 16 pl168) 73 (nI (sc + 1))) 77 x219) (updA (updA B 48 (upd (B 48) sc ((B 5) tk))) 49 (upd vt sc ty))) := mW_D hD
                exact W.iret (v := (nI ((sc + 1) - 1))) hx hb hr (fun t9 ht9 hW9 => ⟨⟨_, (((sc + 1) - 1), fa167, (sc + 1), pl168, x219, (upd (B 48) sc ((B 5) tk)), (upd vt sc ty)), rfl, ⟨rfl, hz223, hz224, hz225, hz226, hz227, hz228, hz229, hz230⟩, by rw [ht9]; exact hP, hD⟩, hS.F ht9⟩) hS.2.2 dX12_comes_175
            · have n231 : r166 = 0 := (nI_eq (a := r166) (b := 0) (by omega) (by omega)).mp c177
              refine lv_iconst (v := 0) hx hb dX12_comes_78 (by decide) ?_
              have hz232 : 0 ≤ 30 := (by omega)
              have hz233 : fa ≤ fa167 := (by omega)
              have hz234 : fa167 ≤ fa + 15 := (by omega)
              have hz235 : sc ≤ sc := (by omega)
              have hz236 : sc ≤ 30 := (by omega)
              have hz237 : If (fa167 = 0) (sc = sc + 1 ∧ 0 = sc ∧ vt = upd vt sc ty) := (fun e => absurd e (by omega))
              have hz238 : If (0 < fa167) (sc = sc) := (fun e => by omega)
              have hz239 : If (0 < fa) (fa167 = fa) := h175
              have hP : va_P G.1 pCl (mW G h0 a (upd (upd (upd (upd F 15 (nI fa167)) 16 pl168) 73 (nI sc)) 77 dn) (updA (updA B 48 (B 48)) 49 vt)) _ := mW_to (F := F) (l1 := [(15, (nI fa167)), (16, pl168), (73, (nI sc)), (77, dn)]) (l2 := [(15, (nI fa167)), (16, pl168), (73, (nI sc)), (77, dn)]) (V := [(nI fa167), pl168, (nI sc), dn, (nI fa167), pl168, (nI sc), dn]) rfl rfl (show (updA B 49 vt) = (updA (updA B 48 (B 48)) 49 vt) from updsA_eq2 (F := B) (l1 := [(49, vt)]) (l2 := [(48, (B 48)), (49, vt)]) (V := [vt, (B 48), vt]) rfl rfl) hP
              have hD : va_D A (mW G h0 a (upd (upd (upd (upd F 15 (nI fa167)) 16 pl168) 73 (nI sc)) 77 dn) (updA (updA B 48 (B 48)) 49 vt)) := mW_D hD
              exact W.iret (v := 0) hx hb hr (fun t9 ht9 hW9 => ⟨⟨_, (0, fa167, sc, pl168, dn, (B 48), vt), rfl, ⟨rfl, hz232, hz233, hz234, hz235, hz236, hz237, hz238, hz239⟩, by rw [ht9]; exact hP, hD⟩, hS.F ht9⟩) hS.2.2 dX12_comes_79
      · have n240 : ¬ (sc ≤ v2) := fun h9 => c1 ((nI_leI (a := sc) (b := v2) (by omega) (by omega)).mpr h9)
        refine lv_iload hx hb dX12_comes_15 (lv_at hl 1 rfl) ?_
        refine lv_if_ne (tgt := 36) hx hb dX12_comes_17 (by decide) (fun c241 => ?_) (fun c241 => ?_)
        · have n242 : ¬ (th = 0) := fun h9 => c241 ((nI_eq (a := th) (b := 0) (by omega) (by omega)).mpr h9)
          refine lv_iconst (v := 1) hx hb dX12_comes_36 (by decide) ?_
          refine lv_goto (tgt := 41) hx hb dX12_comes_37 (by decide) ?_
          refine lv_istore (lv' := [(4, .int 1), (5, .int (nI v2)), (3, .int (nI bs)), (2, .int ty), (1, .int (nI tk)), (0, .ref h0)]) hx hb dX12_comes_41 hl (by decide) rfl (fun ls hl => ?_)
          refine lv_iinc (v := (nI (v2 + 1))) (lv' := [(5, .int (nI (v2 + 1))), (4, .int 1), (3, .int (nI bs)), (2, .int ty), (1, .int (nI tk)), (0, .ref h0)]) hx hb dX12_comes_43 hl (k := 1) rfl (nI_1 v2) (by decide) rfl (fun ls hl => ?_)
          refine lv_goto (tgt := 6) hx hb dX12_comes_46 (by decide) ?_
          have hP : va_P G.1 pCl (mW G h0 a (upd (upd (upd F 15 (nI fa)) 73 (nI sc)) 77 dn) (updA B 49 vt)) _ := hP
          have hD : va_D A (mW G h0 a (upd (upd (upd F 15 (nI fa)) 73 (nI sc)) 77 dn) (updA B 49 vt)) := mW_D hD
          exact ih_o (v2 + 1) 1 _ _ _ (by omega) (by omega) (by omega) hP hD hS (lv_sub hl [0, 1, 2, 3, 4, 5] rfl)
        · have n243 : th = 0 := (nI_eq (a := th) (b := 0) (by omega) (by omega)).mp c241
          refine lv_aload_n hx hb dX12_comes_20 rfl (lv_at hl 5 rfl) ?_
          refine r_get (v := .ref (a 48)) hx hb hown hq hE hP 71 156 tFX12_71 (by decide) pw_1479 rfl dX12_comes_21 ?_
          refine lv_iload hx hb dX12_comes_24 (lv_at hl 0 rfl) ?_
          refine r_ldi (f := (B 48)) (j := v2) hx hb hE hP 48 (ma_48 G a _) rfl (by omega) (by decide) dX12_comes_26 ?_
          refine lv_aload_n hx hb dX12_comes_27 rfl (lv_at hl 5 rfl) ?_
          refine r_get (v := .ref (a 5)) hx hb hown hq hE hP 8 25 tFX12_8 (by decide) pw_1435 rfl dX12_comes_28 ?_
          refine lv_iload_n hx hb dX12_comes_31 rfl (lv_at hl 4 rfl) ?_
          refine r_ldi (f := (B 5)) (j := tk) hx hb hE hP 5 (ma_5 G a _) rfl (by omega) (by decide) dX12_comes_32 ?_
          refine lv_icmp_ne (tgt := 40) hx hb dX12_comes_33 (by decide) (fun c244 => ?_) (fun c244 => ?_)
          · refine lv_iconst (v := 0) hx hb dX12_comes_40 (by decide) ?_
            refine lv_istore (lv' := [(4, .int 0), (5, .int (nI v2)), (3, .int (nI bs)), (2, .int ty), (1, .int (nI tk)), (0, .ref h0)]) hx hb dX12_comes_41 hl (by decide) rfl (fun ls hl => ?_)
            refine lv_iinc (v := (nI (v2 + 1))) (lv' := [(5, .int (nI (v2 + 1))), (4, .int 0), (3, .int (nI bs)), (2, .int ty), (1, .int (nI tk)), (0, .ref h0)]) hx hb dX12_comes_43 hl (k := 1) rfl (nI_1 v2) (by decide) rfl (fun ls hl => ?_)
            refine lv_goto (tgt := 6) hx hb dX12_comes_46 (by decide) ?_
            have hP : va_P G.1 pCl (mW G h0 a (upd (upd (upd F 15 (nI fa)) 73 (nI sc)) 77 dn) (updA B 49 vt)) _ := hP
            have hD : va_D A (mW G h0 a (upd (upd (upd F 15 (nI fa)) 73 (nI sc)) 77 dn) (updA B 49 vt)) := mW_D hD
            exact ih_o (v2 + 1) 0 _ _ _ (by omega) (by omega) (by omega) hP hD hS (lv_sub hl [0, 1, 2, 3, 4, 5] rfl)
          · refine lv_iconst (v := 1) hx hb dX12_comes_36 (by decide) ?_
            refine lv_goto (tgt := 41) hx hb dX12_comes_37 (by decide) ?_
            refine lv_istore (lv' := [(4, .int 1), (5, .int (nI v2)), (3, .int (nI bs)), (2, .int ty), (1, .int (nI tk)), (0, .ref h0)]) hx hb dX12_comes_41 hl (by decide) rfl (fun ls hl => ?_)
            refine lv_iinc (v := (nI (v2 + 1))) (lv' := [(5, .int (nI (v2 + 1))), (4, .int 1), (3, .int (nI bs)), (2, .int ty), (1, .int (nI tk)), (0, .ref h0)]) hx hb dX12_comes_43 hl (k := 1) rfl (nI_1 v2) (by decide) rfl (fun ls hl => ?_)
            refine lv_goto (tgt := 6) hx hb dX12_comes_46 (by decide) ?_
            have hP : va_P G.1 pCl (mW G h0 a (upd (upd (upd F 15 (nI fa)) 73 (nI sc)) 77 dn) (updA B 49 vt)) _ := hP
            have hD : va_D A (mW G h0 a (upd (upd (upd F 15 (nI fa)) 73 (nI sc)) 77 dn) (updA B 49 vt)) := mW_D hD
            exact ih_o (v2 + 1) 1 _ _ _ (by omega) (by omega) (by omega) hP hD hS (lv_sub hl [0, 1, 2, 3, 4, 5] rfl)
  have hP : va_P G.1 pCl (mW G h0 a (upd (upd (upd F 15 (nI fa)) 73 (nI sc)) 77 dn) (updA B 49 vt)) _ := hP
  have hD : va_D A (mW G h0 a (upd (upd (upd F 15 (nI fa)) 73 (nI sc)) 77 dn) (updA B 49 vt)) := mW_D hD
  exact loop_o (sc + 1) 0 0 _ _ _ (by omega) (by omega) (by omega) hP hD hS (lv_sub hl [0, 1, 5, 4, 3, 2] rfl)
