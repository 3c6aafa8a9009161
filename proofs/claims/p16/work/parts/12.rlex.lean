theorem sCh_nar (i : Nat) (hi : i < 19) (k : Nat) (hk : k < sLen.getD i 0) : narrow .char (.int (sCh i k)) = .int (sCh i k) := by
  rw [← sCh_and i hi k hk]
  exact sc_nar _
theorem wLen : sLen.getD 18 0 = 171 := by decide +kernel
theorem wLast : sCh 18 170 = 32 := by decide +kernel
set_option maxHeartbeats 1000000 in
set_option maxRecDepth 100000 in
/-- StringLatin1.charAt of a constant's row -/
theorem c_charAtX1 (l : Launch) (G : pT) (i : Nat) (k : Nat) (hi : i < 19) (hk : k < sLen.getD i 0) : PM l G pX0 yJ1_charAt_3b067 cJ1_charAt_3b067 2 (some .char) ({ frames := 4, cells := 0, slots := 0, locals := 103 }) [.ref (G.2.2.2.1 i), .int (nI k)] [] (fun (v : Option Value) (u : Unit) => v = some (.int (sCh i k))) (fun u => []) := by
  intro sz
  refine Met.ofW (cc := cJ1_charAt_3b067) (maxL := 2) (ret := (some .char)) (by decide) rfl ?_
  intro p e s m args below meth c s₁ B hml hv
  obtain ⟨rfl, hsz, hP, hD0, hE, hX⟩ := hv
  have hx := B.exec
  have hb := B.bytes
  have hr := B.returns
  have hts := atoms_spec (ws := Cond.code yJ1_charAt_3b067 cJ1_charAt_3b067 2 (some .char) :: pw) B.pre
  have hq : ∀ w ∈ pw, w.before _ s = true := fun w h => hts w (List.mem_cons_of_mem _ h)
  have hown : s.vm.findClass RJ1 = some m.cls := findClass_of_methodNamed B.named
  have hlocks := B.notSynchronized
  subst hsz
  have hD := hD0.self (sz := s.heap.size)
  have hA : ∀ q : Nat, s.heap.size ≤ q → va_A [] s.heap.size q := fun q h => Or.inr h
  have hP : va_P G.1 pCl [] s.heap := hP
  generalize va_A [] s.heap.size = A at hD hE hA ⊢
  have hS : va_S A s.heap s.heap [] := va_S.rf
  have hl := lv_entry ([.ref (G.2.2.2.1 i), .int (nI k)]) (n := 2) (Nat.le_of_ble_eq_true rfl)
  rw [lg_entry_eq]
  generalize (lg_sl ([.ref (G.2.2.2.1 i), .int (nI k)]) ++ List.replicate (2 - (lg_sl ([.ref (G.2.2.2.1 i), .int (nI k)])).length) Slot.unset).toArray = ls at hl ⊢
  have hl : lv_has ls 2 [(0, .ref (G.2.2.2.1 i)), (1, .int (nI k))] := hl
  refine lv_iload_n hx hb dJ1_charAt_3b067_0 rfl (lv_at hl 1 rfl) ?_
  refine lv_aload_n hx hb dJ1_charAt_3b067_1 rfl (lv_at hl 0 rfl) ?_
  refine va_tlen (v := (nI (sLen.getD i 0))) hx hb (hE.2.1.1 i hi).2.2.2 hS rfl dJ1_charAt_3b067_2 ?_
  refine pc_S (G := G) (As := [.int (nI k), .int (nI (sLen.getD i 0))]) (rest := []) (wr := []) hx hb hml hown hq hE hX pX0_al hP hD hS hA hl.1 (c_checkIndex l G k ((sLen.getD i 0)) hk (sLen_lt i hi)) (gS pw_1220 pw_1221 pw_1214 pw_1216) hS_J0_checkIndex_df160 [] [] rfl rfl (by decide) (by decide) (by decide) rfl (Nat.le_of_ble_eq_true rfl) dJ1_charAt_3b067_3 ⟨Nat.le_of_ble_eq_true rfl, Nat.le_of_ble_eq_true rfl⟩ ⟨Nat.le_of_ble_eq_true rfl, Nat.le_of_ble_eq_true rfl⟩ (fun v3 u1 H locs hw2 hP hD hS => ?_)
  obtain rfl : v3 = none := hw2
  have hP : va_P G.1 pCl [] H := hP
  have hD : va_D A [] := hD
  refine W.widen (k := 0) (n := 0) (Nat.le_of_ble_eq_true rfl) (Nat.le_of_ble_eq_true rfl) ?_
  refine W.eq (g2 := F0 m 6 ls []) rfl ?_
  refine lv_aload_n hx hb dJ1_charAt_3b067_6 rfl (lv_at hl 0 rfl) ?_
  refine lv_iload_n hx hb dJ1_charAt_3b067_7 rfl (lv_at hl 1 rfl) ?_
  refine va_tb (v := .int ((sByt.getD i []).getD (Int32.toNatClampNeg (nI k)) 0)) hx hb (hE.2.1.1 i hi).2.2.2 hS (vp_in_nI hk (Nat.lt_trans (sLen_lt i hi) (by decide))) rfl dJ1_charAt_3b067_8 ?_
  refine lv_topi (fun x4 e5 => ?_)
  refine lv_sipush (v := 255) hx hb dJ1_charAt_3b067_9 (by decide) ?_
  refine lv_iand hx hb dJ1_charAt_3b067_12 ?_
  refine lv_topi (fun x6 e7 => ?_)
  refine lv_i2c hx hb dJ1_charAt_3b067_13 rfl ?_
  refine lv_topi (fun x8 e9 => ?_)
  refine W.widen (k := 0) (n := 0) (Nat.le_of_ble_eq_true rfl) (Nat.le_of_ble_eq_true rfl) ?_
  exact W.zret (v := x8) hx hb hr (by rw [e9]; exact pk_nc _) (fun t ht hW => ⟨⟨_, (), rfl, (congrArg (fun z => some (Value.int z)) (by rw [e9, e7, sc_c2, e5, nI_clamp (Nat.lt_trans hk (Nat.lt_trans (sLen_lt i hi) (by decide)))]; exact sCh_and i hi k hk)), by rw [ht]; exact hP.sub [] rfl, hD.sub [] (by decide) rfl⟩, hS.F ht⟩) hS.2.2 dJ1_charAt_3b067_14
set_option maxHeartbeats 1000000 in
set_option maxRecDepth 100000 in
/-- charAt(k) of a constant -/
theorem c_charAtX (l : Launch) (G : pT) (i : Nat) (k : Nat) (hi : i < 19) (hk : k < sLen.getD i 0) : PM l G pX0 yJ0_charAt_5068e cJ0_charAt_5068e 2 (some .char) ({ frames := 5, cells := 0, slots := 0, locals := 124 }) [.ref (G.2.2.1 i), .int (nI k)] [] (fun (v : Option Value) (u : Unit) => v = some (.int (sCh i k))) (fun u => []) := by
  intro sz
  refine Met.ofW (cc := cJ0_charAt_5068e) (maxL := 2) (ret := (some .char)) (by decide) rfl ?_
  intro p e s m args below meth c s₁ B hml hv
  obtain ⟨rfl, hsz, hP, hD0, hE, hX⟩ := hv
  have hx := B.exec
  have hb := B.bytes
  have hr := B.returns
  have hts := atoms_spec (ws := Cond.code yJ0_charAt_5068e cJ0_charAt_5068e 2 (some .char) :: pw) B.pre
  have hq : ∀ w ∈ pw, w.before _ s = true := fun w h => hts w (List.mem_cons_of_mem _ h)
  have hown : s.vm.findClass RJ0 = some m.cls := findClass_of_methodNamed B.named
  have hlocks := B.notSynchronized
  subst hsz
  have hD := hD0.self (sz := s.heap.size)
  have hA : ∀ q : Nat, s.heap.size ≤ q → va_A [] s.heap.size q := fun q h => Or.inr h
  have hP : va_P G.1 pCl [] s.heap := hP
  generalize va_A [] s.heap.size = A at hD hE hA ⊢
  have hS : va_S A s.heap s.heap [] := va_S.rf
  have hl := lv_entry ([.ref (G.2.2.1 i), .int (nI k)]) (n := 2) (Nat.le_of_ble_eq_true rfl)
  rw [lg_entry_eq]
  generalize (lg_sl ([.ref (G.2.2.1 i), .int (nI k)]) ++ List.replicate (2 - (lg_sl ([.ref (G.2.2.1 i), .int (nI k)])).length) Slot.unset).toArray = ls at hl ⊢
  have hl : lv_has ls 2 [(0, .ref (G.2.2.1 i)), (1, .int (nI k))] := hl
  refine lv_aload_n hx hb dJ0_charAt_5068e_0 rfl (lv_at hl 0 rfl) ?_
  refine pc_VR (G := G) (As := []) (rest := []) (wr := []) hx hb hml hown hq hE hX pX0_al hP hD hS hA hl.1 (c_isLatin1 l G i hi) (gV pw_1227 pw_1228 pw_1229 pw_1214 pw_1215) hV_J0_isLatin1_aae02 (vk_recv hE.2.1 hi hS) [] [] rfl rfl (by decide) (by decide) (by decide) rfl (Nat.le_of_ble_eq_true rfl) dJ0_charAt_5068e_1 ⟨Nat.le_of_ble_eq_true rfl, Nat.le_of_ble_eq_true rfl⟩ ⟨Nat.le_of_ble_eq_true rfl, Nat.le_of_ble_eq_true rfl⟩ (fun v3 u1 H locs hw2 hP hD hS => ?_)
  obtain rfl : v3 = some (.int 1) := hw2
  have hP : va_P G.1 pCl [] H := hP
  have hD : va_D A [] := hD
  refine W.widen (k := 0) (n := 0) (Nat.le_of_ble_eq_true rfl) (Nat.le_of_ble_eq_true rfl) ?_
  refine W.eq (g2 := F0 m 4 ls [.int 1]) rfl ?_
  refine lv_if_eq (tgt := 16) hx hb dJ0_charAt_5068e_4 (by decide) (fun c4 => absurd c4 (by decide)) (fun c4 => ?_)
  refine lv_aload_n hx hb dJ0_charAt_5068e_7 rfl (lv_at hl 0 rfl) ?_
  refine vk_getf hx hb (hE.2.1.1 i hi).2.2.1 hS hown (hq _ pw_1210) (fun _ h9 => h9) dJ0_charAt_5068e_8 ?_
  refine lv_iload_n hx hb dJ0_charAt_5068e_11 rfl (lv_at hl 1 rfl) ?_
  refine pc_S (G := G) (As := [.ref (G.2.2.2.1 i), .int (nI k)]) (rest := []) (wr := []) hx hb hml hown hq hE hX pX0_al hP hD hS hA hl.1 (c_charAtX1 l G i k hi hk) (gS pw_1230 pw_1231 pw_1232 pw_1219) hS_J1_charAt_3b067 [] [] rfl rfl (by decide) (by decide) (by decide) rfl (Nat.le_of_ble_eq_true rfl) dJ0_charAt_5068e_12 ⟨Nat.le_of_ble_eq_true rfl, Nat.le_of_ble_eq_true rfl⟩ ⟨Nat.le_of_ble_eq_true rfl, Nat.le_of_ble_eq_true rfl⟩ (fun v7 u5 H locs hw6 hP hD hS => ?_)
  obtain rfl : v7 = some (.int (sCh i k)) := hw6
  have hP : va_P G.1 pCl [] H := hP
  have hD : va_D A [] := hD
  refine W.widen (k := 0) (n := 0) (Nat.le_of_ble_eq_true rfl) (Nat.le_of_ble_eq_true rfl) ?_
  refine W.eq (g2 := F0 m 15 ls [.int (sCh i k)]) rfl ?_
  refine W.widen (k := 0) (n := 0) (Nat.le_of_ble_eq_true rfl) (Nat.le_of_ble_eq_true rfl) ?_
  exact W.zret (v := (sCh i k)) hx hb hr (sCh_nar i hi k hk) (fun t ht hW => ⟨⟨_, (), rfl, rfl, by rw [ht]; exact hP.sub [] rfl, hD.sub [] (by decide) rfl⟩, hS.F ht⟩) hS.2.2 dJ0_charAt_5068e_15
theorem dX12_wordOf_0 : decode cX12_wordOf 0 = .ok (.sipush 310, 3) := by decide +kernel
theorem dX12_wordOf_3 : decode cX12_wordOf 3 = .ok (.istore_n 3, 1) := by decide +kernel
theorem dX12_wordOf_4 : decode cX12_wordOf 4 = .ok (.iconst 0, 1) := by decide +kernel
theorem dX12_wordOf_5 : decode cX12_wordOf 5 = .ok (.istore 4, 2) := by decide +kernel
theorem dX12_wordOf_7 : decode cX12_wordOf 7 = .ok (.iload 4, 2) := by decide +kernel
theorem dX12_wordOf_9 : decode cX12_wordOf 9 = .ok (.ldc_w 265, 3) := by decide +kernel
theorem dX12_wordOf_12 : decode cX12_wordOf 12 = .ok (.invokevirtual 267, 3) := by decide +kernel
theorem dX12_wordOf_15 : decode cX12_wordOf 15 = .ok (.if_icmp .ge 97, 3) := by decide +kernel
theorem dX12_wordOf_112 : decode cX12_wordOf 112 = .ok (.iconst 1, 1) := by decide +kernel
theorem dX12_wordOf_113 : decode cX12_wordOf 113 = .ok (.ireturn, 1) := by decide +kernel
theorem dX12_wordOf_18 : decode cX12_wordOf 18 = .ok (.iconst 0, 1) := by decide +kernel
theorem dX12_wordOf_19 : decode cX12_wordOf 19 = .ok (.istore 5, 2) := by decide +kernel
theorem dX12_wordOf_21 : decode cX12_wordOf 21 = .ok (.iload_n 1, 1) := by decide +kernel
theorem dX12_wordOf_22 : decode cX12_wordOf 22 = .ok (.iload 5, 2) := by decide +kernel
theorem dX12_wordOf_24 : decode cX12_wordOf 24 = .ok (.iadd, 1) := by decide +kernel
theorem dX12_wordOf_25 : decode cX12_wordOf 25 = .ok (.iload_n 2, 1) := by decide +kernel
theorem dX12_wordOf_26 : decode cX12_wordOf 26 = .ok (.if_icmp .ge 32, 3) := by decide +kernel
theorem dX12_wordOf_58 : decode cX12_wordOf 58 = .ok (.iload_n 1, 1) := by decide +kernel
theorem dX12_wordOf_59 : decode cX12_wordOf 59 = .ok (.iload 5, 2) := by decide +kernel
theorem dX12_wordOf_61 : decode cX12_wordOf 61 = .ok (.iadd, 1) := by decide +kernel
theorem dX12_wordOf_62 : decode cX12_wordOf 62 = .ok (.iload_n 2, 1) := by decide +kernel
theorem dX12_wordOf_63 : decode cX12_wordOf 63 = .ok (.if_icmp .ne 21, 3) := by decide +kernel
theorem dX12_wordOf_84 : decode cX12_wordOf 84 = .ok (.ldc_w 265, 3) := by decide +kernel
theorem dX12_wordOf_87 : decode cX12_wordOf 87 = .ok (.iload 4, 2) := by decide +kernel
theorem dX12_wordOf_89 : decode cX12_wordOf 89 = .ok (.invokevirtual 273, 3) := by decide +kernel
theorem dX12_wordOf_92 : decode cX12_wordOf 92 = .ok (.bipush 32, 2) := by decide +kernel
theorem dX12_wordOf_94 : decode cX12_wordOf 94 = .ok (.if_icmp .eq 9, 3) := by decide +kernel
theorem dX12_wordOf_103 : decode cX12_wordOf 103 = .ok (.iinc 4 1, 3) := by decide +kernel
theorem dX12_wordOf_106 : decode cX12_wordOf 106 = .ok (.iinc 3 1, 3) := by decide +kernel
theorem dX12_wordOf_109 : decode cX12_wordOf 109 = .ok (.goto (-102), 3) := by decide +kernel
theorem dX12_wordOf_97 : decode cX12_wordOf 97 = .ok (.iinc 4 1, 3) := by decide +kernel
theorem dX12_wordOf_100 : decode cX12_wordOf 100 = .ok (.goto (-16), 3) := by decide +kernel
theorem dX12_wordOf_66 : decode cX12_wordOf 66 = .ok (.ldc_w 265, 3) := by decide +kernel
theorem dX12_wordOf_69 : decode cX12_wordOf 69 = .ok (.iload 4, 2) := by decide +kernel
theorem dX12_wordOf_71 : decode cX12_wordOf 71 = .ok (.iload 5, 2) := by decide +kernel
theorem dX12_wordOf_73 : decode cX12_wordOf 73 = .ok (.iadd, 1) := by decide +kernel
theorem dX12_wordOf_74 : decode cX12_wordOf 74 = .ok (.invokevirtual 273, 3) := by decide +kernel
theorem dX12_wordOf_77 : decode cX12_wordOf 77 = .ok (.bipush 32, 2) := by decide +kernel
theorem dX12_wordOf_79 : decode cX12_wordOf 79 = .ok (.if_icmp .ne 5, 3) := by decide +kernel
theorem dX12_wordOf_82 : decode cX12_wordOf 82 = .ok (.iload_n 3, 1) := by decide +kernel
theorem dX12_wordOf_83 : decode cX12_wordOf 83 = .ok (.ireturn, 1) := by decide +kernel
theorem dX12_wordOf_29 : decode cX12_wordOf 29 = .ok (.ldc_w 265, 3) := by decide +kernel
theorem dX12_wordOf_32 : decode cX12_wordOf 32 = .ok (.iload 4, 2) := by decide +kernel
theorem dX12_wordOf_34 : decode cX12_wordOf 34 = .ok (.iload 5, 2) := by decide +kernel
theorem dX12_wordOf_36 : decode cX12_wordOf 36 = .ok (.iadd, 1) := by decide +kernel
theorem dX12_wordOf_37 : decode cX12_wordOf 37 = .ok (.invokevirtual 273, 3) := by decide +kernel
theorem dX12_wordOf_40 : decode cX12_wordOf 40 = .ok (.aload_n 0, 1) := by decide +kernel
theorem dX12_wordOf_41 : decode cX12_wordOf 41 = .ok (.getfield 13, 3) := by decide +kernel
theorem dX12_wordOf_44 : decode cX12_wordOf 44 = .ok (.iload_n 1, 1) := by decide +kernel
theorem dX12_wordOf_45 : decode cX12_wordOf 45 = .ok (.iload 5, 2) := by decide +kernel
theorem dX12_wordOf_47 : decode cX12_wordOf 47 = .ok (.iadd, 1) := by decide +kernel
theorem dX12_wordOf_48 : decode cX12_wordOf 48 = .ok (.iaload, 1) := by decide +kernel
theorem dX12_wordOf_49 : decode cX12_wordOf 49 = .ok (.if_icmp .ne 9, 3) := by decide +kernel
theorem dX12_wordOf_52 : decode cX12_wordOf 52 = .ok (.iinc 5 1, 3) := by decide +kernel
theorem dX12_wordOf_55 : decode cX12_wordOf 55 = .ok (.goto (-34), 3) := by decide +kernel
set_option maxHeartbeats 2000000 in
set_option maxRecDepth 100000 in
/-- wordOf(from, to) -/
theorem R_wordOf (l : Launch) (G : pT) (h0 : Nat) (a : Nat → Nat) (F : Nat → Int32) (B : Nat → Nat → Int32) (fr : Nat) (tt : Nat) (hft : fr ≤ tt) (htt : tt ≤ 5000) (htx : ∀ j : Nat, fr ≤ j → j < tt → ¬ B 1 j = 32) : PM l G pX0 yX12_wordOf cX12_wordOf 6 (some .int) ({ frames := 6, cells := 0, slots := 0, locals := 145 }) [.ref h0, .int (nI fr), .int (nI tt)] (mW G h0 a F B) (fun (v : Option Value) (u : Int32) => v = some (.int u)) (fun u => (mW G h0 a F B)) := by
  intro sz
  refine Met.ofW (cc := cX12_wordOf) (maxL := 6) (ret := (some .int)) (by decide) rfl ?_
  intro p e s m args below meth c s₁ B9 hml hv
  obtain ⟨rfl, hsz, hP, hD0, hE, hX⟩ := hv
  have hx := B9.exec
  have hb := B9.bytes
  have hr := B9.returns
  have hts := atoms_spec (ws := Cond.code yX12_wordOf cX12_wordOf 6 (some .int) :: pw) B9.pre
  have hq : ∀ w ∈ pw, w.before _ s = true := fun w h => hts w (List.mem_cons_of_mem _ h)
  have hown : s.vm.findClass RX12 = some m.cls := findClass_of_methodNamed B9.named
  have hlocks := B9.notSynchronized
  subst hsz
  have hD := hD0.self (sz := s.heap.size)
  have hA : ∀ q : Nat, s.heap.size ≤ q → va_A (mW G h0 a F B) s.heap.size q := fun q h => Or.inr h
  have hP : va_P G.1 pCl (mW G h0 a F B) s.heap := hP
  generalize va_A (mW G h0 a F B) s.heap.size = A at hD hE hA ⊢
  have hS : va_S A s.heap s.heap [] := va_S.rf
  have hl := lv_entry ([.ref h0, .int (nI fr), .int (nI tt)]) (n := 6) (Nat.le_of_ble_eq_true rfl)
  rw [lg_entry_eq]
  generalize (lg_sl ([.ref h0, .int (nI fr), .int (nI tt)]) ++ List.replicate (6 - (lg_sl ([.ref h0, .int (nI fr), .int (nI tt)])).length) Slot.unset).toArray = ls at hl ⊢
  have hl : lv_has ls 6 [(0, .ref h0), (1, .int (nI fr)), (2, .int (nI tt))] := hl
  refine lv_sipush (v := 310) hx hb dX12_wordOf_0 (by decide) ?_
  refine lv_istore_n (lv' := [(3, .int 310), (0, .ref h0), (1, .int (nI fr)), (2, .int (nI tt))]) hx hb dX12_wordOf_3 rfl hl (by decide) rfl (fun ls hl => ?_)
  refine lv_iconst (v := 0) hx hb dX12_wordOf_4 (by decide) ?_
  refine lv_istore (lv' := [(4, .int 0), (3, .int 310), (0, .ref h0), (1, .int (nI fr)), (2, .int (nI tt))]) hx hb dX12_wordOf_5 hl (by decide) rfl (fun ls hl => ?_)
  have loop_o : ∀ (n_o : Nat) (wd : Nat) (kd : Int32) (H : Heap) (locs : List Loc) (ls : Array Slot), wd ≤ 171 → 171 + 1 ≤ wd + n_o → va_P G.1 pCl (mW G h0 a F B) H → va_D A (mW G h0 a F B) → va_S A s.heap H locs → lv_has ls 6 [(4, .int (nI wd)), (3, .int kd), (0, .ref h0), (1, .int (nI fr)), (2, .int (nI tt))] → W p l e (headSpec (Cond.code yX12_wordOf cX12_wordOf 6 (some .int) :: pw) ({ frames := 6, cells := 0, slots := 0, locals := 145 } : Room)).room s m ([.ref h0, .int (nI fr), .int (nI tt)] : List Value).toArray below meth c H locs 0 0 (MQ below (pQ G A (fun (v : Option Value) (u : Int32) => v = some (.int u)) (fun u => (mW G h0 a F B))) ([.ref h0, .int (nI fr), .int (nI tt)] : List Value).toArray s ({ frames := 6, cells := 0, slots := 0, locals := 145 } : Room).cells ({ frames := 6, cells := 0, slots := 0, locals := 145 } : Room).slots A) (F0 m 7 ls []) := by
    intro n_o
    induction n_o with
    | zero => intro wd kd H locs ls hk_o hn_o; omega
    | succ n_o ih_o =>
      intro wd kd H locs ls hk_o hn_o hP hD hS hl
      refine lv_iload hx hb dX12_wordOf_7 (lv_at hl 0 rfl) ?_
      refine pn_ldcSW (q := G.2.2.1 18) hx hb hown (hE.2.2.1 18 (by decide)) dX12_wordOf_9 ?_
      refine pc_VN (G := G) (As := []) (rest := [.int (nI wd)]) hx hb hml hown hq hE hX pX0_al hP hS hA hl.1 (c_length l G 18 (by decide)) (gV pw_1525 pw_1236 pw_1237 pw_1214 pw_1209) hV_J0_length_8abf5 (vk_recv hE.2.1 (by decide) hS) rfl (Nat.le_of_ble_eq_true rfl) dX12_wordOf_12 ⟨Nat.le_of_ble_eq_true rfl, Nat.le_of_ble_eq_true rfl⟩ ⟨Nat.le_of_ble_eq_true rfl, Nat.le_of_ble_eq_true rfl⟩ (fun v3 u1 H locs hw2 hP hS => ?_)
      obtain rfl : v3 = some (.int (nI 171)) := hw2.trans (by rw [show sLen.getD 18 0 = 171 by decide +kernel])
      refine W.widen (k := 0) (n := 0) (Nat.le_of_ble_eq_true rfl) (Nat.le_of_ble_eq_true rfl) ?_
      refine W.eq (g2 := F0 m 15 ls [.int (nI 171), .int (nI wd)]) rfl ?_
      refine lv_icmp_ge (tgt := 112) hx hb dX12_wordOf_15 (by decide) (fun c4 => ?_) (fun c4 => ?_)
      · have n5 : 171 ≤ wd := (nI_leI (a := 171) (b := wd) (by omega) (by omega)).mp c4
        refine lv_iconst (v := 1) hx hb dX12_wordOf_112 (by decide) ?_
        have hP : va_P G.1 pCl (mW G h0 a F B) _ := hP
        have hD : va_D A (mW G h0 a F B) := mW_D hD
        exact W.iret (v := 1) hx hb hr (fun t9 ht9 hW9 => ⟨⟨_, (1 : Int32), rfl, rfl, by rw [ht9]; exact hP, hD⟩, hS.F ht9⟩) hS.2.2 dX12_wordOf_113
      · have n6 : ¬ (171 ≤ wd) := fun h9 => c4 ((nI_leI (a := 171) (b := wd) (by omega) (by omega)).mpr h9)
        refine lv_iconst (v := 0) hx hb dX12_wordOf_18 (by decide) ?_
        refine lv_istore (lv' := [(5, .int 0), (4, .int (nI wd)), (3, .int kd), (0, .ref h0), (1, .int (nI fr)), (2, .int (nI tt))]) hx hb dX12_wordOf_19 hl (by decide) rfl (fun ls hl => ?_)
        have loop_q : ∀ (n_q : Nat) (q : Nat) (H : Heap) (locs : List Loc) (ls : Array Slot), q ≤ (tt - fr) → (tt - fr) + 1 ≤ q + n_q → (wd + q ≤ 170) → va_P G.1 pCl (mW G h0 a F B) H → va_D A (mW G h0 a F B) → va_S A s.heap H locs → lv_has ls 6 [(5, .int (nI q)), (4, .int (nI wd)), (3, .int kd), (0, .ref h0), (1, .int (nI fr)), (2, .int (nI tt))] → W p l e (headSpec (Cond.code yX12_wordOf cX12_wordOf 6 (some .int) :: pw) ({ frames := 6, cells := 0, slots := 0, locals := 145 } : Room)).room s m ([.ref h0, .int (nI fr), .int (nI tt)] : List Value).toArray below meth c H locs 0 0 (MQ below (pQ G A (fun (v : Option Value) (u : Int32) => v = some (.int u)) (fun u => (mW G h0 a F B))) ([.ref h0, .int (nI fr), .int (nI tt)] : List Value).toArray s ({ frames := 6, cells := 0, slots := 0, locals := 145 } : Room).cells ({ frames := 6, cells := 0, slots := 0, locals := 145 } : Room).slots A) (F0 m 21 ls []) := by
          intro n_q
          induction n_q with
          | zero => intro q H locs ls hk_q hn_q; omega
          | succ n_q ih_q =>
            intro q H locs ls hk_q hn_q hqq hP hD hS hl
            refine lv_iload_n hx hb dX12_wordOf_21 rfl (lv_at hl 4 rfl) ?_
            refine lv_iload hx hb dX12_wordOf_22 (lv_at hl 0 rfl) ?_
            refine lv_iadd hx hb dX12_wordOf_24 ?_
            refine lv_topi (fun x7 e8 => ?_)
            obtain rfl : x7 = nI (fr + q) := e8.trans (nI_add (fr) (q))
            refine lv_iload_n hx hb dX12_wordOf_25 rfl (lv_at hl 5 rfl) ?_
            refine lv_icmp_ge (tgt := 58) hx hb dX12_wordOf_26 (by decide) (fun c9 => ?_) (fun c9 => ?_)
            · have n10 : tt ≤ (fr + q) := (nI_leI (a := tt) (b := (fr + q)) (by omega) (by omega)).mp c9
              refine lv_iload_n hx hb dX12_wordOf_58 rfl (lv_at hl 4 rfl) ?_
              refine lv_iload hx hb dX12_wordOf_59 (lv_at hl 0 rfl) ?_
              refine lv_iadd hx hb dX12_wordOf_61 ?_
              refine lv_topi (fun x11 e12 => ?_)
              obtain rfl : x11 = nI (fr + q) := e12.trans (nI_add (fr) (q))
              refine lv_iload_n hx hb dX12_wordOf_62 rfl (lv_at hl 5 rfl) ?_
              refine lv_icmp_ne (tgt := 84) hx hb dX12_wordOf_63 (by decide) (fun c13 => ?_) (fun c13 => ?_)
              · have n14 : ¬ ((fr + q) = tt) := fun h9 => c13 ((nI_eq (a := (fr + q)) (b := tt) (by omega) (by omega)).mpr h9)
                have loop_w : ∀ (n_w : Nat) (w2 : Nat) (H : Heap) (locs : List Loc) (ls : Array Slot), w2 ≤ 170 → 170 + 1 ≤ w2 + n_w → (wd ≤ w2) → (w2 ≤ 170) → va_P G.1 pCl (mW G h0 a F B) H → va_D A (mW G h0 a F B) → va_S A s.heap H locs → lv_has ls 6 [(4, .int (nI w2)), (3, .int kd), (0, .ref h0), (1, .int (nI fr)), (2, .int (nI tt))] → W p l e (headSpec (Cond.code yX12_wordOf cX12_wordOf 6 (some .int) :: pw) ({ frames := 6, cells := 0, slots := 0, locals := 145 } : Room)).room s m ([.ref h0, .int (nI fr), .int (nI tt)] : List Value).toArray below meth c H locs 0 0 (MQ below (pQ G A (fun (v : Option Value) (u : Int32) => v = some (.int u)) (fun u => (mW G h0 a F B))) ([.ref h0, .int (nI fr), .int (nI tt)] : List Value).toArray s ({ frames := 6, cells := 0, slots := 0, locals := 145 } : Room).cells ({ frames := 6, cells := 0, slots := 0, locals := 145 } : Room).slots A) (F0 m 84 ls []) := by
                  intro n_w
                  induction n_w with
                  | zero => intro w2 H locs ls hk_w hn_w; omega
                  | succ n_w ih_w =>
                    intro w2 H locs ls hk_w hn_w hw1 hw2 hP hD hS hl
                    refine pn_ldcSW (q := G.2.2.1 18) hx hb hown (hE.2.2.1 18 (by decide)) dX12_wordOf_84 ?_
                    refine lv_iload hx hb dX12_wordOf_87 (lv_at hl 0 rfl) ?_
                    refine pc_VN (G := G) (As := [.int (nI w2)]) (rest := []) hx hb hml hown hq hE hX pX0_al hP hS hA hl.1 (c_charAtX l G 18 w2 (by decide) (by rw [wLen]; omega)) (gV pw_1526 pw_1239 pw_1240 pw_1214 pw_1233) hV_J0_charAt_5068e (vk_recv hE.2.1 (by decide) hS) rfl (Nat.le_of_ble_eq_true rfl) dX12_wordOf_89 ⟨Nat.le_of_ble_eq_true rfl, Nat.le_of_ble_eq_true rfl⟩ ⟨Nat.le_of_ble_eq_true rfl, Nat.le_of_ble_eq_true rfl⟩ (fun v17 u15 H locs hw16 hP hS => ?_)
                    obtain rfl : v17 = some (.int (sCh 18 w2)) := hw16
                    refine W.widen (k := 0) (n := 0) (Nat.le_of_ble_eq_true rfl) (Nat.le_of_ble_eq_true rfl) ?_
                    refine W.eq (g2 := F0 m 92 ls [.int (sCh 18 w2)]) rfl ?_
                    refine lv_bipush (v := 32) hx hb dX12_wordOf_92 (by decide) ?_
                    refine lv_icmp_eq (tgt := 103) hx hb dX12_wordOf_94 (by decide) (fun c18 => ?_) (fun c18 => ?_)
                    · refine lv_iinc (v := (nI (w2 + 1))) (lv' := [(4, .int (nI (w2 + 1))), (3, .int kd), (0, .ref h0), (1, .int (nI fr)), (2, .int (nI tt))]) hx hb dX12_wordOf_103 hl (k := 0) rfl (nI_1 w2) (by decide) rfl (fun ls hl => ?_)
                      obtain ⟨x19, e20⟩ : ∃ y : Int32, y = kd + 1 := ⟨_, rfl⟩
                      refine lv_iinc (v := x19) (lv' := [(3, .int x19), (4, .int (nI (w2 + 1))), (0, .ref h0), (1, .int (nI fr)), (2, .int (nI tt))]) hx hb dX12_wordOf_106 hl (k := 1) rfl (by rw [e20]; rfl) (by decide) rfl (fun ls hl => ?_)
                      refine lv_goto (tgt := 7) hx hb dX12_wordOf_109 (by decide) ?_
                      have hP : va_P G.1 pCl (mW G h0 a F B) _ := hP
                      have hD : va_D A (mW G h0 a F B) := mW_D hD
                      exact ih_o (w2 + 1) x19 _ _ _ (by omega) (by omega) hP hD hS (lv_sub hl [1, 0, 2, 3, 4] rfl)
                    · have hne8 : w2 ≠ 170 := fun h9 => c18 (by rw [h9]; exact wLast)
                      refine lv_iinc (v := (nI (w2 + 1))) (lv' := [(4, .int (nI (w2 + 1))), (3, .int kd), (0, .ref h0), (1, .int (nI fr)), (2, .int (nI tt))]) hx hb dX12_wordOf_97 hl (k := 0) rfl (nI_1 w2) (by decide) rfl (fun ls hl => ?_)
                      refine lv_goto (tgt := 84) hx hb dX12_wordOf_100 (by decide) ?_
                      have hP : va_P G.1 pCl (mW G h0 a F B) _ := hP
                      have hD : va_D A (mW G h0 a F B) := mW_D hD
                      exact ih_w (w2 + 1) _ _ _ (by omega) (by omega) (by omega) (by have := hne8; omega) hP hD hS (lv_sub hl [0, 1, 2, 3, 4] rfl)
                have hP : va_P G.1 pCl (mW G h0 a F B) _ := hP
                have hD : va_D A (mW G h0 a F B) := mW_D hD
                exact loop_w (170 + 1) wd _ _ _ (by omega) (by omega) (by omega) (by omega) hP hD hS (lv_sub hl [1, 2, 3, 4, 5] rfl)
              · have n21 : (fr + q) = tt := (nI_eq (a := (fr + q)) (b := tt) (by omega) (by omega)).mp c13
                refine pn_ldcSW (q := G.2.2.1 18) hx hb hown (hE.2.2.1 18 (by decide)) dX12_wordOf_66 ?_
                refine lv_iload hx hb dX12_wordOf_69 (lv_at hl 1 rfl) ?_
                refine lv_iload hx hb dX12_wordOf_71 (lv_at hl 0 rfl) ?_
                refine lv_iadd hx hb dX12_wordOf_73 ?_
                refine lv_topi (fun x22 e23 => ?_)
                obtain rfl : x22 = nI (wd + q) := e23.trans (nI_add (wd) (q))
                refine pc_VN (G := G) (As := [.int (nI (wd + q))]) (rest := []) hx hb hml hown hq hE hX pX0_al hP hS hA hl.1 (c_charAtX l G 18 (wd + q) (by decide) (by rw [wLen]; omega)) (gV pw_1526 pw_1239 pw_1240 pw_1214 pw_1233) hV_J0_charAt_5068e (vk_recv hE.2.1 (by decide) hS) rfl (Nat.le_of_ble_eq_true rfl) dX12_wordOf_74 ⟨Nat.le_of_ble_eq_true rfl, Nat.le_of_ble_eq_true rfl⟩ ⟨Nat.le_of_ble_eq_true rfl, Nat.le_of_ble_eq_true rfl⟩ (fun v26 u24 H locs hw25 hP hS => ?_)
                obtain rfl : v26 = some (.int (sCh 18 (wd + q))) := hw25
                refine W.widen (k := 0) (n := 0) (Nat.le_of_ble_eq_true rfl) (Nat.le_of_ble_eq_true rfl) ?_
                refine W.eq (g2 := F0 m 77 ls [.int (sCh 18 (wd + q))]) rfl ?_
                refine lv_bipush (v := 32) hx hb dX12_wordOf_77 (by decide) ?_
                refine lv_icmp_ne (tgt := 84) hx hb dX12_wordOf_79 (by decide) (fun c27 => ?_) (fun c27 => ?_)
                · have loop_w : ∀ (n_w : Nat) (w2 : Nat) (H : Heap) (locs : List Loc) (ls : Array Slot), w2 ≤ 170 → 170 + 1 ≤ w2 + n_w → (wd ≤ w2) → (w2 ≤ 170) → va_P G.1 pCl (mW G h0 a F B) H → va_D A (mW G h0 a F B) → va_S A s.heap H locs → lv_has ls 6 [(4, .int (nI w2)), (3, .int kd), (0, .ref h0), (1, .int (nI fr)), (2, .int (nI tt))] → W p l e (headSpec (Cond.code yX12_wordOf cX12_wordOf 6 (some .int) :: pw) ({ frames := 6, cells := 0, slots := 0, locals := 145 } : Room)).room s m ([.ref h0, .int (nI fr), .int (nI tt)] : List Value).toArray below meth c H locs 0 0 (MQ below (pQ G A (fun (v : Option Value) (u : Int32) => v = some (.int u)) (fun u => (mW G h0 a F B))) ([.ref h0, .int (nI fr), .int (nI tt)] : List Value).toArray s ({ frames := 6, cells := 0, slots := 0, locals := 145 } : Room).cells ({ frames := 6, cells := 0, slots := 0, locals := 145 } : Room).slots A) (F0 m 84 ls []) := by
                    intro n_w
                    induction n_w with
                    | zero => intro w2 H locs ls hk_w hn_w; omega
                    | succ n_w ih_w =>
                      intro w2 H locs ls hk_w hn_w hw1 hw2 hP hD hS hl
                      refine pn_ldcSW (q := G.2.2.1 18) hx hb hown (hE.2.2.1 18 (by decide)) dX12_wordOf_84 ?_
                      refine lv_iload hx hb dX12_wordOf_87 (lv_at hl 0 rfl) ?_
                      refine pc_VN (G := G) (As := [.int (nI w2)]) (rest := []) hx hb hml hown hq hE hX pX0_al hP hS hA hl.1 (c_charAtX l G 18 w2 (by decide) (by rw [wLen]; omega)) (gV pw_1526 pw_1239 pw_1240 pw_1214 pw_1233) hV_J0_charAt_5068e (vk_recv hE.2.1 (by decide) hS) rfl (Nat.le_of_ble_eq_true rfl) dX12_wordOf_89 ⟨Nat.le_of_ble_eq_true rfl, Nat.le_of_ble_eq_true rfl⟩ ⟨Nat.le_of_ble_eq_true rfl, Nat.le_of_ble_eq_true rfl⟩ (fun v30 u28 H locs hw29 hP hS => ?_)
                      obtain rfl : v30 = some (.int (sCh 18 w2)) := hw29
                      refine W.widen (k := 0) (n := 0) (Nat.le_of_ble_eq_true rfl) (Nat.le_of_ble_eq_true rfl) ?_
                      refine W.eq (g2 := F0 m 92 ls [.int (sCh 18 w2)]) rfl ?_
                      refine lv_bipush (v := 32) hx hb dX12_wordOf_92 (by decide) ?_
                      refine lv_icmp_eq (tgt := 103) hx hb dX12_wordOf_94 (by decide) (fun c31 => ?_) (fun c31 => ?_)
                      · refine lv_iinc (v := (nI (w2 + 1))) (lv' := [(4, .int (nI (w2 + 1))), (3, .int kd), (0, .ref h0), (1, .int (nI fr)), (2, .int (nI tt))]) hx hb dX12_wordOf_103 hl (k := 0) rfl (nI_1 w2) (by decide) rfl (fun ls hl => ?_)
                        obtain ⟨x32, e33⟩ : ∃ y : Int32, y = kd + 1 := ⟨_, rfl⟩
                        refine lv_iinc (v := x32) (lv' := [(3, .int x32), (4, .int (nI (w2 + 1))), (0, .ref h0), (1, .int (nI fr)), (2, .int (nI tt))]) hx hb dX12_wordOf_106 hl (k := 1) rfl (by rw [e33]; rfl) (by decide) rfl (fun ls hl => ?_)
                        refine lv_goto (tgt := 7) hx hb dX12_wordOf_109 (by decide) ?_
                        have hP : va_P G.1 pCl (mW G h0 a F B) _ := hP
                        have hD : va_D A (mW G h0 a F B) := mW_D hD
                        exact ih_o (w2 + 1) x32 _ _ _ (by omega) (by omega) hP hD hS (lv_sub hl [1, 0, 2, 3, 4] rfl)
                      · have hne8 : w2 ≠ 170 := fun h9 => c31 (by rw [h9]; exact wLast)
                        refine lv_iinc (v := (nI (w2 + 1))) (lv' := [(4, .int (nI (w2 + 1))), (3, .int kd), (0, .ref h0), (1, .int (nI fr)), (2, .int (nI tt))]) hx hb dX12_wordOf_97 hl (k := 0) rfl (nI_1 w2) (by decide) rfl (fun ls hl => ?_)
                        refine lv_goto (tgt := 84) hx hb dX12_wordOf_100 (by decide) ?_
                        have hP : va_P G.1 pCl (mW G h0 a F B) _ := hP
                        have hD : va_D A (mW G h0 a F B) := mW_D hD
                        exact ih_w (w2 + 1) _ _ _ (by omega) (by omega) (by omega) (by have := hne8; omega) hP hD hS (lv_sub hl [0, 1, 2, 3, 4] rfl)
                  have hP : va_P G.1 pCl (mW G h0 a F B) _ := hP
                  have hD : va_D A (mW G h0 a F B) := mW_D hD
                  exact loop_w (170 + 1) wd _ _ _ (by omega) (by omega) (by omega) (by omega) hP hD hS (lv_sub hl [1, 2, 3, 4, 5] rfl)
                · refine lv_iload_n hx hb dX12_wordOf_82 rfl (lv_at hl 2 rfl) ?_
                  have hP : va_P G.1 pCl (mW G h0 a F B) _ := hP
                  have hD : va_D A (mW G h0 a F B) := mW_D hD
                  exact W.iret (v := kd) hx hb hr (fun t9 ht9 hW9 => ⟨⟨_, kd, rfl, rfl, by rw [ht9]; exact hP, hD⟩, hS.F ht9⟩) hS.2.2 dX12_wordOf_83
            · have n34 : ¬ (tt ≤ (fr + q)) := fun h9 => c9 ((nI_leI (a := tt) (b := (fr + q)) (by omega) (by omega)).mpr h9)
              refine pn_ldcSW (q := G.2.2.1 18) hx hb hown (hE.2.2.1 18 (by decide)) dX12_wordOf_29 ?_
              refine lv_iload hx hb dX12_wordOf_32 (lv_at hl 1 rfl) ?_
              refine lv_iload hx hb dX12_wordOf_34 (lv_at hl 0 rfl) ?_
              refine lv_iadd hx hb dX12_wordOf_36 ?_
              refine lv_topi (fun x35 e36 => ?_)
              obtain rfl : x35 = nI (wd + q) := e36.trans (nI_add (wd) (q))
              refine pc_VN (G := G) (As := [.int (nI (wd + q))]) (rest := []) hx hb hml hown hq hE hX pX0_al hP hS hA hl.1 (c_charAtX l G 18 (wd + q) (by decide) (by rw [wLen]; omega)) (gV pw_1526 pw_1239 pw_1240 pw_1214 pw_1233) hV_J0_charAt_5068e (vk_recv hE.2.1 (by decide) hS) rfl (Nat.le_of_ble_eq_true rfl) dX12_wordOf_37 ⟨Nat.le_of_ble_eq_true rfl, Nat.le_of_ble_eq_true rfl⟩ ⟨Nat.le_of_ble_eq_true rfl, Nat.le_of_ble_eq_true rfl⟩ (fun v39 u37 H locs hw38 hP hS => ?_)
              obtain rfl : v39 = some (.int (sCh 18 (wd + q))) := hw38
              refine W.widen (k := 0) (n := 0) (Nat.le_of_ble_eq_true rfl) (Nat.le_of_ble_eq_true rfl) ?_
              refine W.eq (g2 := F0 m 40 ls [.int (sCh 18 (wd + q))]) rfl ?_
              refine lv_aload_n hx hb dX12_wordOf_40 rfl (lv_at hl 3 rfl) ?_
              refine r_get (v := .ref (a 1)) hx hb hown hq hE hP 3 13 tFX12_3 (by decide) pw_1431 rfl dX12_wordOf_41 ?_
              refine lv_iload_n hx hb dX12_wordOf_44 rfl (lv_at hl 4 rfl) ?_
              refine lv_iload hx hb dX12_wordOf_45 (lv_at hl 0 rfl) ?_
              refine lv_iadd hx hb dX12_wordOf_47 ?_
              refine lv_topi (fun x40 e41 => ?_)
              obtain rfl : x40 = nI (fr + q) := e41.trans (nI_add (fr) (q))
              refine r_ldi (f := (B 1)) (j := (fr + q)) hx hb hE hP 1 (ma_1 G a _) rfl (by omega) (by decide) dX12_wordOf_48 ?_
              refine lv_topi (fun x42 e43 => ?_)
              refine lv_icmp_ne (tgt := 58) hx hb dX12_wordOf_49 (by decide) (fun c44 => ?_) (fun c44 => ?_)
              · refine lv_iload_n hx hb dX12_wordOf_58 rfl (lv_at hl 4 rfl) ?_
                refine lv_iload hx hb dX12_wordOf_59 (lv_at hl 0 rfl) ?_
                refine lv_iadd hx hb dX12_wordOf_61 ?_
                refine lv_topi (fun x45 e46 => ?_)
                obtain rfl : x45 = nI (fr + q) := e46.trans (nI_add (fr) (q))
                refine lv_iload_n hx hb dX12_wordOf_62 rfl (lv_at hl 5 rfl) ?_
                refine lv_icmp_ne (tgt := 84) hx hb dX12_wordOf_63 (by decide) (fun c47 => ?_) (fun c47 => ?_)
                · have n48 : ¬ ((fr + q) = tt) := fun h9 => c47 ((nI_eq (a := (fr + q)) (b := tt) (by omega) (by omega)).mpr h9)
                  have loop_w : ∀ (n_w : Nat) (w2 : Nat) (H : Heap) (locs : List Loc) (ls : Array Slot), w2 ≤ 170 → 170 + 1 ≤ w2 + n_w → (wd ≤ w2) → (w2 ≤ 170) → va_P G.1 pCl (mW G h0 a F B) H → va_D A (mW G h0 a F B) → va_S A s.heap H locs → lv_has ls 6 [(4, .int (nI w2)), (3, .int kd), (0, .ref h0), (1, .int (nI fr)), (2, .int (nI tt))] → W p l e (headSpec (Cond.code yX12_wordOf cX12_wordOf 6 (some .int) :: pw) ({ frames := 6, cells := 0, slots := 0, locals := 145 } : Room)).room s m ([.ref h0, .int (nI fr), .int (nI tt)] : List Value).toArray below meth c H locs 0 0 (MQ below (pQ G A (fun (v : Option Value) (u : Int32) => v = some (.int u)) (fun u => (mW G h0 a F B))) ([.ref h0, .int (nI fr), .int (nI tt)] : List Value).toArray s ({ frames := 6, cells := 0, slots := 0, locals := 145 } : Room).cells ({ frames := 6, cells := 0, slots := 0, locals := 145 } : Room).slots A) (F0 m 84 ls []) := by
                    intro n_w
                    induction n_w with
                    | zero => intro w2 H locs ls hk_w hn_w; omega
                    | succ n_w ih_w =>
                      intro w2 H locs ls hk_w hn_w hw1 hw2 hP hD hS hl
                      refine pn_ldcSW (q := G.2.2.1 18) hx hb hown (hE.2.2.1 18 (by decide)) dX12_wordOf_84 ?_
                      refine lv_iload hx hb dX12_wordOf_87 (lv_at hl 0 rfl) ?_
                      refine pc_VN (G := G) (As := [.int (nI w2)]) (rest := []) hx hb hml hown hq hE hX pX0_al hP hS hA hl.1 (c_charAtX l G 18 w2 (by decide) (by rw [wLen]; omega)) (gV pw_1526 pw_1239 pw_1240 pw_1214 pw_1233) hV_J0_charAt_5068e (vk_recv hE.2.1 (by decide) hS) rfl (Nat.le_of_ble_eq_true rfl) dX12_wordOf_89 ⟨Nat.le_of_ble_eq_true rfl, Nat.le_of_ble_eq_true rfl⟩ ⟨Nat.le_of_ble_eq_true rfl, Nat.le_of_ble_eq_true rfl⟩ (fun v51 u49 H locs hw50 hP hS => ?_)
                      obtain rfl : v51 = some (.int (sCh 18 w2)) := hw50
                      refine W.widen (k := 0) (n := 0) (Nat.le_of_ble_eq_true rfl) (Nat.le_of_ble_eq_true rfl) ?_
                      refine W.eq (g2 := F0 m 92 ls [.int (sCh 18 w2)]) rfl ?_
                      refine lv_bipush (v := 32) hx hb dX12_wordOf_92 (by decide) ?_
                      refine lv_icmp_eq (tgt := 103) hx hb dX12_wordOf_94 (by decide) (fun c52 => ?_) (fun c52 => ?_)
                      · refine lv_iinc (v := (nI (w2 + 1))) (lv' := [(4, .int (nI (w2 + 1))), (3, .int kd), (0, .ref h0), (1, .int (nI fr)), (2, .int (nI tt))]) hx hb dX12_wordOf_103 hl (k := 0) rfl (nI_1 w2) (by decide) rfl (fun ls hl => ?_)
                        obtain ⟨x53, e54⟩ : ∃ y : Int32, y = kd + 1 := ⟨_, rfl⟩
                        refine lv_iinc (v := x53) (lv' := [(3, .int x53), (4, .int (nI (w2 + 1))), (0, .ref h0), (1, .int (nI fr)), (2, .int (nI tt))]) hx hb dX12_wordOf_106 hl (k := 1) rfl (by rw [e54]; rfl) (by decide) rfl (fun ls hl => ?_)
                        refine lv_goto (tgt := 7) hx hb dX12_wordOf_109 (by decide) ?_
                        have hP : va_P G.1 pCl (mW G h0 a F B) _ := hP
                        have hD : va_D A (mW G h0 a F B) := mW_D hD
                        exact ih_o (w2 + 1) x53 _ _ _ (by omega) (by omega) hP hD hS (lv_sub hl [1, 0, 2, 3, 4] rfl)
                      · have hne8 : w2 ≠ 170 := fun h9 => c52 (by rw [h9]; exact wLast)
                        refine lv_iinc (v := (nI (w2 + 1))) (lv' := [(4, .int (nI (w2 + 1))), (3, .int kd), (0, .ref h0), (1, .int (nI fr)), (2, .int (nI tt))]) hx hb dX12_wordOf_97 hl (k := 0) rfl (nI_1 w2) (by decide) rfl (fun ls hl => ?_)
                        refine lv_goto (tgt := 84) hx hb dX12_wordOf_100 (by decide) ?_
                        have hP : va_P G.1 pCl (mW G h0 a F B) _ := hP
                        have hD : va_D A (mW G h0 a F B) := mW_D hD
                        exact ih_w (w2 + 1) _ _ _ (by omega) (by omega) (by omega) (by have := hne8; omega) hP hD hS (lv_sub hl [0, 1, 2, 3, 4] rfl)
                  have hP : va_P G.1 pCl (mW G h0 a F B) _ := hP
                  have hD : va_D A (mW G h0 a F B) := mW_D hD
                  exact loop_w (170 + 1) wd _ _ _ (by omega) (by omega) (by omega) (by omega) hP hD hS (lv_sub hl [1, 2, 3, 4, 5] rfl)
                · have n55 : (fr + q) = tt := (nI_eq (a := (fr + q)) (b := tt) (by omega) (by omega)).mp c47
                  refine pn_ldcSW (q := G.2.2.1 18) hx hb hown (hE.2.2.1 18 (by decide)) dX12_wordOf_66 ?_
                  refine lv_iload hx hb dX12_wordOf_69 (lv_at hl 1 rfl) ?_
                  refine lv_iload hx hb dX12_wordOf_71 (lv_at hl 0 rfl) ?_
                  refine lv_iadd hx hb dX12_wordOf_73 ?_
                  refine lv_topi (fun x56 e57 => ?_)
                  obtain rfl : x56 = nI (wd + q) := e57.trans (nI_add (wd) (q))
                  refine pc_VN (G := G) (As := [.int (nI (wd + q))]) (rest := []) hx hb hml hown hq hE hX pX0_al hP hS hA hl.1 (c_charAtX l G 18 (wd + q) (by decide) (by rw [wLen]; omega)) (gV pw_1526 pw_1239 pw_1240 pw_1214 pw_1233) hV_J0_charAt_5068e (vk_recv hE.2.1 (by decide) hS) rfl (Nat.le_of_ble_eq_true rfl) dX12_wordOf_74 ⟨Nat.le_of_ble_eq_true rfl, Nat.le_of_ble_eq_true rfl⟩ ⟨Nat.le_of_ble_eq_true rfl, Nat.le_of_ble_eq_true rfl⟩ (fun v60 u58 H locs hw59 hP hS => ?_)
                  obtain rfl : v60 = some (.int (sCh 18 (wd + q))) := hw59
                  refine W.widen (k := 0) (n := 0) (Nat.le_of_ble_eq_true rfl) (Nat.le_of_ble_eq_true rfl) ?_
                  refine W.eq (g2 := F0 m 77 ls [.int (sCh 18 (wd + q))]) rfl ?_
                  refine lv_bipush (v := 32) hx hb dX12_wordOf_77 (by decide) ?_
                  refine lv_icmp_ne (tgt := 84) hx hb dX12_wordOf_79 (by decide) (fun c61 => ?_) (fun c61 => ?_)
                  · have loop_w : ∀ (n_w : Nat) (w2 : Nat) (H : Heap) (locs : List Loc) (ls : Array Slot), w2 ≤ 170 → 170 + 1 ≤ w2 + n_w → (wd ≤ w2) → (w2 ≤ 170) → va_P G.1 pCl (mW G h0 a F B) H → va_D A (mW G h0 a F B) → va_S A s.heap H locs → lv_has ls 6 [(4, .int (nI w2)), (3, .int kd), (0, .ref h0), (1, .int (nI fr)), (2, .int (nI tt))] → W p l e (headSpec (Cond.code yX12_wordOf cX12_wordOf 6 (some .int) :: pw) ({ frames := 6, cells := 0, slots := 0, locals := 145 } : Room)).room s m ([.ref h0, .int (nI fr), .int (nI tt)] : List Value).toArray below meth c H locs 0 0 (MQ below (pQ G A (fun (v : Option Value) (u : Int32) => v = some (.int u)) (fun u => (mW G h0 a F B))) ([.ref h0, .int (nI fr), .int (nI tt)] : List Value).toArray s ({ frames := 6, cells := 0, slots := 0, locals := 145 } : Room).cells ({ frames := 6, cells := 0, slots := 0, locals := 145 } : Room).slots A) (F0 m 84 ls []) := by
                      intro n_w
                      induction n_w with
                      | zero => intro w2 H locs ls hk_w hn_w; omega
                      | succ n_w ih_w =>
                        intro w2 H locs ls hk_w hn_w hw1 hw2 hP hD hS hl
                        refine pn_ldcSW (q := G.2.2.1 18) hx hb hown (hE.2.2.1 18 (by decide)) dX12_wordOf_84 ?_
                        refine lv_iload hx hb dX12_wordOf_87 (lv_at hl 0 rfl) ?_
                        refine pc_VN (G := G) (As := [.int (nI w2)]) (rest := []) hx hb hml hown hq hE hX pX0_al hP hS hA hl.1 (c_charAtX l G 18 w2 (by decide) (by rw [wLen]; omega)) (gV pw_1526 pw_1239 pw_1240 pw_1214 pw_1233) hV_J0_charAt_5068e (vk_recv hE.2.1 (by decide) hS) rfl (Nat.le_of_ble_eq_true rfl) dX12_wordOf_89 ⟨Nat.le_of_ble_eq_true rfl, Nat.le_of_ble_eq_true rfl⟩ ⟨Nat.le_of_ble_eq_true rfl, Nat.le_of_ble_eq_true rfl⟩ (fun v64 u62 H locs hw63 hP hS => ?_)
                        obtain rfl : v64 = some (.int (sCh 18 w2)) := hw63
                        refine W.widen (k := 0) (n := 0) (Nat.le_of_ble_eq_true rfl) (Nat.le_of_ble_eq_true rfl) ?_
                        refine W.eq (g2 := F0 m 92 ls [.int (sCh 18 w2)]) rfl ?_
                        refine lv_bipush (v := 32) hx hb dX12_wordOf_92 (by decide) ?_
                        refine lv_icmp_eq (tgt := 103) hx hb dX12_wordOf_94 (by decide) (fun c65 => ?_) (fun c65 => ?_)
                        · refine lv_iinc (v := (nI (w2 + 1))) (lv' := [(4, .int (nI (w2 + 1))), (3, .int kd), (0, .ref h0), (1, .int (nI fr)), (2, .int (nI tt))]) hx hb dX12_wordOf_103 hl (k := 0) rfl (nI_1 w2) (by decide) rfl (fun ls hl => ?_)
                          obtain ⟨x66, e67⟩ : ∃ y : Int32, y = kd + 1 := ⟨_, rfl⟩
                          refine lv_iinc (v := x66) (lv' := [(3, .int x66), (4, .int (nI (w2 + 1))), (0, .ref h0), (1, .int (nI fr)), (2, .int (nI tt))]) hx hb dX12_wordOf_106 hl (k := 1) rfl (by rw [e67]; rfl) (by decide) rfl (fun ls hl => ?_)
                          refine lv_goto (tgt := 7) hx hb dX12_wordOf_109 (by decide) ?_
                          have hP : va_P G.1 pCl (mW G h0 a F B) _ := hP
                          have hD : va_D A (mW G h0 a F B) := mW_D hD
                          exact ih_o (w2 + 1) x66 _ _ _ (by omega) (by omega) hP hD hS (lv_sub hl [1, 0, 2, 3, 4] rfl)
                        · have hne8 : w2 ≠ 170 := fun h9 => c65 (by rw [h9]; exact wLast)
                          refine lv_iinc (v := (nI (w2 + 1))) (lv' := [(4, .int (nI (w2 + 1))), (3, .int kd), (0, .ref h0), (1, .int (nI fr)), (2, .int (nI tt))]) hx hb dX12_wordOf_97 hl (k := 0) rfl (nI_1 w2) (by decide) rfl (fun ls hl => ?_)
                          refine lv_goto (tgt := 84) hx hb dX12_wordOf_100 (by decide) ?_
                          have hP : va_P G.1 pCl (mW G h0 a F B) _ := hP
                          have hD : va_D A (mW G h0 a F B) := mW_D hD
                          exact ih_w (w2 + 1) _ _ _ (by omega) (by omega) (by omega) (by have := hne8; omega) hP hD hS (lv_sub hl [0, 1, 2, 3, 4] rfl)
                    have hP : va_P G.1 pCl (mW G h0 a F B) _ := hP
                    have hD : va_D A (mW G h0 a F B) := mW_D hD
                    exact loop_w (170 + 1) wd _ _ _ (by omega) (by omega) (by omega) (by omega) hP hD hS (lv_sub hl [1, 2, 3, 4, 5] rfl)
                  · refine lv_iload_n hx hb dX12_wordOf_82 rfl (lv_at hl 2 rfl) ?_
                    have hP : va_P G.1 pCl (mW G h0 a F B) _ := hP
                    have hD : va_D A (mW G h0 a F B) := mW_D hD
                    exact W.iret (v := kd) hx hb hr (fun t9 ht9 hW9 => ⟨⟨_, kd, rfl, rfl, by rw [ht9]; exact hP, hD⟩, hS.F ht9⟩) hS.2.2 dX12_wordOf_83
              · have hne9 : wd + q ≠ 170 := fun h9 => htx (fr + q) (by omega) (by omega) (by rw [← e43, ← c44, h9]; exact wLast)
                refine lv_iinc (v := (nI (q + 1))) (lv' := [(5, .int (nI (q + 1))), (4, .int (nI wd)), (3, .int kd), (0, .ref h0), (1, .int (nI fr)), (2, .int (nI tt))]) hx hb dX12_wordOf_52 hl (k := 0) rfl (nI_1 q) (by decide) rfl (fun ls hl => ?_)
                refine lv_goto (tgt := 21) hx hb dX12_wordOf_55 (by decide) ?_
                have hP : va_P G.1 pCl (mW G h0 a F B) _ := hP
                have hD : va_D A (mW G h0 a F B) := mW_D hD
                exact ih_q (q + 1) _ _ _ (by omega) (by omega) (by have := hne9; omega) hP hD hS (lv_sub hl [0, 1, 2, 3, 4, 5] rfl)
        have hP : va_P G.1 pCl (mW G h0 a F B) _ := hP
        have hD : va_D A (mW G h0 a F B) := mW_D hD
        exact loop_q ((tt - fr) + 1) 0 _ _ _ (by omega) (by omega) (by omega) hP hD hS (lv_sub hl [0, 1, 2, 3, 4, 5] rfl)
  have hP : va_P G.1 pCl (mW G h0 a F B) _ := hP
  have hD : va_D A (mW G h0 a F B) := mW_D hD
  exact loop_o (171 + 1) 0 310 _ _ _ (by omega) (by omega) hP hD hS (lv_sub hl [0, 1, 2, 3, 4] rfl)
