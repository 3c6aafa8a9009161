def pXmi (mi : Nat) : State → Prop := fun U => va_Mi "[Ljava/lang/Object;" mi U
theorem pXmi_al {mi : Nat} : pAl (pXmi mi) := fun _ _ h x => va_Mi.moved h x
theorem shr1 {n : Nat} (h : n < 2 ^ 31) : nI n >>> ((1 : Int32) &&& 31) = nI (n / 2) := by
  apply Int32.toInt_inj.mp
  rw [nI_toInt (by omega), show ((1 : Int32) &&& 31) = 1 by decide]
  have e : (nI n >>> 1).toInt = ((nI n).toBitVec.sshiftRight' ((1 : Int32).toBitVec.smod 32)).toInt := by
    rw [← Int32.toBitVec_shiftRight]; rfl
  rw [e, show ((1 : Int32).toBitVec.smod 32) = 1#32 by decide, BitVec.sshiftRight_eq', BitVec.toInt_sshiftRight]
  have e2 : (nI n).toBitVec.toInt = (n : Int) := nI_toInt h
  rw [e2]
  show (n : Int) >>> 1 = _
  rw [Int.shiftRight_eq_div_pow]
  omega
theorem p_acell {G : pT} {h0 q : Nat} {a : Nat → Nat} {F : Nat → Int32} {R : Nat → Value} {Z : Int64} {B : Nat → Nat → Int32} {J : Nat → Nat → Int64} {w : va_W} {K : PK} {A : Nat → Prop} {s : State} {H : Heap} (hE : pE G A s s.heap) (hP : va_P G.1 pCl w H) (hO : OKP G h0 a F R Z B J K w) (hT : K.1 q = 6) : ∃ cell : Cell, H[q]? = some cell ∧ cell.vm.isStatics = false ∧ s.vm.findClass "[Ljava/lang/Object;" = some cell.cls := by
  obtain ⟨i, hi⟩ := p_at6 hO hT
  exact ⟨_, hP i _ hi, rfl, hE.1.2.2.2.2.2.2⟩
theorem cp_ok {K : PK} {q1 q2 m9 : Nat} (h1 : K.1 q1 = 6) (h2 : K.1 q2 = 0) : (kE (kN K q2 6 m9) q2 (va_cpy ((kN K q2 6 m9).2.2.2.2.1 q1) ((kN K q2 6 m9).2.2.2.2.1 q2) 0 0 (K.2.2.2.2.2 q1))).1 q2 = 6 ∧ Ext K (kE (kN K q2 6 m9) q2 (va_cpy ((kN K q2 6 m9).2.2.2.2.1 q1) ((kN K q2 6 m9).2.2.2.2.1 q2) 0 0 (K.2.2.2.2.2 q1))) ∧ (kE (kN K q2 6 m9) q2 (va_cpy ((kN K q2 6 m9).2.2.2.2.1 q1) ((kN K q2 6 m9).2.2.2.2.1 q2) 0 0 (K.2.2.2.2.2 q1))).2.2.2.2.2 q2 = m9 ∧ ∀ i : Nat, i < K.2.2.2.2.2 q1 → (kE (kN K q2 6 m9) q2 (va_cpy ((kN K q2 6 m9).2.2.2.2.1 q1) ((kN K q2 6 m9).2.2.2.2.1 q2) 0 0 (K.2.2.2.2.2 q1))).2.2.2.2.1 q2 i = K.2.2.2.2.1 q1 i := by
  have hne : ¬ q1 = q2 := fun z => by rw [z, h2] at h1; exact absurd h1 (by decide)
  refine ⟨if_pos rfl, fun p hp => ?_, if_pos rfl, fun i hi => ?_⟩
  · have hn : ¬ p = q2 := fun z => hp (by rw [z]; exact h2)
    exact ⟨if_neg hn, fun _ => if_neg hn, fun _ => if_neg hn, if_neg hn, by show (if p = q2 then _ else (if p = q2 then _ else _)) = _; rw [if_neg hn, if_neg hn], if_neg hn⟩
  · change (if q2 = q2 then va_cpy ((kN K q2 6 m9).2.2.2.2.1 q1) ((kN K q2 6 m9).2.2.2.2.1 q2) 0 0 (K.2.2.2.2.2 q1) else (kN K q2 6 m9).2.2.2.2.1 q2) i = _
    rw [if_pos rfl, pk_cpy_in (by omega) (by omega)]
    show (if q1 = q2 then _ else K.2.2.2.2.1 q1) (0 + (i - 0)) = _
    rw [if_neg hne, show 0 + (i - 0) = i by omega]
theorem dJ8_newLength_cabcc_0 : decode cJ8_newLength_cabcc 0 = .ok (.iload_n 0, 1) := by decide +kernel
theorem dJ8_newLength_cabcc_1 : decode cJ8_newLength_cabcc 1 = .ok (.iload_n 1, 1) := by decide +kernel
theorem dJ8_newLength_cabcc_2 : decode cJ8_newLength_cabcc 2 = .ok (.iload_n 2, 1) := by decide +kernel
theorem dJ8_newLength_cabcc_3 : decode cJ8_newLength_cabcc 3 = .ok (.invokestatic 194, 3) := by decide +kernel
theorem dJ8_newLength_cabcc_6 : decode cJ8_newLength_cabcc 6 = .ok (.iadd, 1) := by decide +kernel
theorem dJ8_newLength_cabcc_7 : decode cJ8_newLength_cabcc 7 = .ok (.istore_n 3, 1) := by decide +kernel
theorem dJ8_newLength_cabcc_8 : decode cJ8_newLength_cabcc 8 = .ok (.iconst 0, 1) := by decide +kernel
theorem dJ8_newLength_cabcc_9 : decode cJ8_newLength_cabcc 9 = .ok (.iload_n 3, 1) := by decide +kernel
theorem dJ8_newLength_cabcc_10 : decode cJ8_newLength_cabcc 10 = .ok (.if_icmp .ge 11, 3) := by decide +kernel
theorem dJ8_newLength_cabcc_13 : decode cJ8_newLength_cabcc 13 = .ok (.iload_n 3, 1) := by decide +kernel
theorem dJ8_newLength_cabcc_14 : decode cJ8_newLength_cabcc 14 = .ok (.ldc 200, 2) := by decide +kernel
theorem dJ8_newLength_cabcc_16 : decode cJ8_newLength_cabcc 16 = .ok (.if_icmp .gt 5, 3) := by decide +kernel
theorem dJ8_newLength_cabcc_19 : decode cJ8_newLength_cabcc 19 = .ok (.iload_n 3, 1) := by decide +kernel
theorem dJ8_newLength_cabcc_20 : decode cJ8_newLength_cabcc 20 = .ok (.ireturn, 1) := by decide +kernel
set_option maxHeartbeats 1000000 in
set_option maxRecDepth 100000 in
/-- newLength -/
theorem s_newLen (l : Launch) (G : pT) (n9 : Nat) (m9 : Nat) (p9 : Nat) (hn9 : 10 ≤ n9 ∧ n9 ≤ 100000 ∧ m9 = 1 ∧ 2 ≤ p9 ∧ p9 ≤ 100000) : PM l G pX0 yJ8_newLength_cabcc cJ8_newLength_cabcc 4 (some .int) ({ frames := 2, cells := 0, slots := 0, locals := 60 }) [.int (nI n9), .int (nI m9), .int (nI p9)] [] (fun (v : Option Value) (u : Unit) => v = some (.int (nI (n9 + p9)))) (fun u => []) := by
  intro sz
  refine Met.ofW (cc := cJ8_newLength_cabcc) (maxL := 4) (ret := (some .int)) (by decide) rfl ?_
  intro p e s m args below meth c s₁ B hml hv
  obtain ⟨rfl, hsz, hP, hD0, hE, hX⟩ := hv
  have hx := B.exec
  have hb := B.bytes
  have hr := B.returns
  have hts := atoms_spec (ws := Cond.code yJ8_newLength_cabcc cJ8_newLength_cabcc 4 (some .int) :: pw) B.pre
  have hq : ∀ w ∈ pw, w.before _ s = true := fun w h => hts w (List.mem_cons_of_mem _ h)
  have hown : s.vm.findClass RJ8 = some m.cls := findClass_of_methodNamed B.named
  have hlocks := B.notSynchronized
  subst hsz
  have hD := hD0.self (sz := s.heap.size)
  have hA : ∀ q : Nat, s.heap.size ≤ q → va_A [] s.heap.size q := fun q h => Or.inr h
  have hP : va_P G.1 pCl [] s.heap := hP
  generalize va_A [] s.heap.size = A at hD hE hA ⊢
  have hS : va_S A s.heap s.heap [] := va_S.rf
  have hl := lv_entry ([.int (nI n9), .int (nI m9), .int (nI p9)]) (n := 4) (Nat.le_of_ble_eq_true rfl)
  rw [lg_entry_eq]
  generalize (lg_sl ([.int (nI n9), .int (nI m9), .int (nI p9)]) ++ List.replicate (4 - (lg_sl ([.int (nI n9), .int (nI m9), .int (nI p9)])).length) Slot.unset).toArray = ls at hl ⊢
  have hl : lv_has ls 4 [(0, .int (nI n9)), (1, .int (nI m9)), (2, .int (nI p9))] := hl
  refine lv_iload_n hx hb dJ8_newLength_cabcc_0 rfl (lv_at hl 0 rfl) ?_
  refine lv_iload_n hx hb dJ8_newLength_cabcc_1 rfl (lv_at hl 1 rfl) ?_
  refine lv_iload_n hx hb dJ8_newLength_cabcc_2 rfl (lv_at hl 2 rfl) ?_
  refine va_mmax (own := RJ8) hx hb (by rw [hml]; exact hl.1.symm) hown (hq _ pw_832) (hq _ pw_51) (hq _ pw_52) (hq _ pw_53) (Nat.le_of_ble_eq_true rfl) (Nat.le_of_ble_eq_true rfl) (Nat.le_of_ble_eq_true rfl) (Nat.le_of_ble_eq_true rfl) dJ8_newLength_cabcc_3 ?_
  refine lv_topi (fun x1 e2 => ?_)
  obtain rfl : x1 = nI p9 := e2.trans (if_pos ((nI_ltI (a := m9) (b := p9) (by omega) (by omega)).mpr (by omega)))
  refine lv_iadd hx hb dJ8_newLength_cabcc_6 ?_
  refine lv_topi (fun x3 e4 => ?_)
  obtain rfl : x3 = nI (n9 + p9) := e4.trans (nI_add (n9) (p9))
  refine lv_istore_n (lv' := [(3, .int (nI (n9 + p9))), (0, .int (nI n9)), (1, .int (nI m9)), (2, .int (nI p9))]) hx hb dJ8_newLength_cabcc_7 rfl hl (by decide) rfl (fun ls hl => ?_)
  refine lv_iconst (v := 0) hx hb dJ8_newLength_cabcc_8 (by decide) ?_
  refine lv_iload_n hx hb dJ8_newLength_cabcc_9 rfl (lv_at hl 0 rfl) ?_
  refine lv_icmp_ge (tgt := 21) hx hb dJ8_newLength_cabcc_10 (by decide) (fun c5 => (absurd ((nI_leI (a := n9 + p9) (b := 0) (by omega) (by omega)).mp c5) (by omega))) (fun c5 => ?_)
  refine lv_iload_n hx hb dJ8_newLength_cabcc_13 rfl (lv_at hl 0 rfl) ?_
  refine lv_ldc (v := 2147483639) hx hb hown (hq _ pw_830) dJ8_newLength_cabcc_14 ?_
  refine lv_icmp_gt (tgt := 21) hx hb dJ8_newLength_cabcc_16 (by decide) (fun c6 => (absurd ((nI_ltI (a := 2147483639) (b := n9 + p9) (by omega) (by omega)).mp c6) (by omega))) (fun c6 => ?_)
  refine lv_iload_n hx hb dJ8_newLength_cabcc_19 rfl (lv_at hl 0 rfl) ?_
  refine W.widen (k := 0) (n := 0) (Nat.le_of_ble_eq_true rfl) (Nat.le_of_ble_eq_true rfl) ?_
  exact W.iret (v := (nI (n9 + p9))) hx hb hr (fun t ht hW => ⟨⟨_, (), rfl, rfl, by rw [ht]; exact hP.sub [] rfl, hD.sub [] (by decide) rfl⟩, hS.F ht⟩) hS.2.2 dJ8_newLength_cabcc_20
theorem dJ7_copyOf_6403c_0 : decode cJ7_copyOf_6403c 0 = .ok (.aload_n 2, 1) := by decide +kernel
theorem dJ7_copyOf_6403c_1 : decode cJ7_copyOf_6403c 1 = .ok (.ldc 110, 2) := by decide +kernel
theorem dJ7_copyOf_6403c_3 : decode cJ7_copyOf_6403c 3 = .ok (.if_acmp .ne 10, 3) := by decide +kernel
theorem dJ7_copyOf_6403c_6 : decode cJ7_copyOf_6403c 6 = .ok (.iload_n 1, 1) := by decide +kernel
theorem dJ7_copyOf_6403c_7 : decode cJ7_copyOf_6403c 7 = .ok (.anewarray 2, 3) := by decide +kernel
theorem dJ7_copyOf_6403c_10 : decode cJ7_copyOf_6403c 10 = .ok (.goto 14, 3) := by decide +kernel
theorem dJ7_copyOf_6403c_24 : decode cJ7_copyOf_6403c 24 = .ok (.astore_n 3, 1) := by decide +kernel
theorem dJ7_copyOf_6403c_25 : decode cJ7_copyOf_6403c 25 = .ok (.aload_n 0, 1) := by decide +kernel
theorem dJ7_copyOf_6403c_26 : decode cJ7_copyOf_6403c 26 = .ok (.iconst 0, 1) := by decide +kernel
theorem dJ7_copyOf_6403c_27 : decode cJ7_copyOf_6403c 27 = .ok (.aload_n 3, 1) := by decide +kernel
theorem dJ7_copyOf_6403c_28 : decode cJ7_copyOf_6403c 28 = .ok (.iconst 0, 1) := by decide +kernel
theorem dJ7_copyOf_6403c_29 : decode cJ7_copyOf_6403c 29 = .ok (.aload_n 0, 1) := by decide +kernel
theorem dJ7_copyOf_6403c_30 : decode cJ7_copyOf_6403c 30 = .ok (.arraylength, 1) := by decide +kernel
theorem dJ7_copyOf_6403c_31 : decode cJ7_copyOf_6403c 31 = .ok (.iload_n 1, 1) := by decide +kernel
theorem dJ7_copyOf_6403c_32 : decode cJ7_copyOf_6403c 32 = .ok (.invokestatic 304, 3) := by decide +kernel
theorem dJ7_copyOf_6403c_35 : decode cJ7_copyOf_6403c 35 = .ok (.invokestatic 150, 3) := by decide +kernel
theorem dJ7_copyOf_6403c_38 : decode cJ7_copyOf_6403c 38 = .ok (.aload_n 3, 1) := by decide +kernel
theorem dJ7_copyOf_6403c_39 : decode cJ7_copyOf_6403c 39 = .ok (.areturn, 1) := by decide +kernel
set_option maxHeartbeats 8000000 in
set_option maxRecDepth 100000 in
theorem L_copy2 (l : Launch) (G : pT) (h0 : Nat) (a : Nat → Nat) (F : Nat → Int32) (R : Nat → Value) (Z : Int64) (B : Nat → Nat → Int32) (J : Nat → Nat → Int64) (K : PK) (w : va_W) (q1 : Nat) (m9 : Nat) (mi : Nat) (es : Nat) (hq1 : K.1 q1 = 6) (hln : K.2.2.2.2.2 q1 ≤ m9) (hm9 : m9 ≤ 200000) (hel : ∀ i y : Nat, i < K.2.2.2.2.2 q1 → K.2.2.2.2.1 q1 i = some y → K.1 y = es) (hes : es = 1 ∨ es = 3) (hO : OKP G h0 a F R Z B J K w) : PM l G (pXmi mi) yJ7_copyOf_6403c cJ7_copyOf_6403c 4 (some (.array (.object "java/lang/Object"))) ({ frames := 2, cells := 1, slots := m9, locals := 60 }) [.ref q1, .int (nI m9), .ref mi] w (fun (v : Option Value) (u : va_W × (Nat × PK)) => v = some (.ref u.2.1) ∧ (K.1 u.2.1 = 0 ∧ u.2.2.1 u.2.1 = 6 ∧ u.2.2.2.2.2.2.2 u.2.1 = m9) ∧ (Ext K u.2.2) ∧ (∀ i : Nat, i < K.2.2.2.2.2 q1 → u.2.2.2.2.2.2.1 u.2.1 i = K.2.2.2.2.1 q1 i) ∧ (N6 K u.2.2) ∧ (OKP G h0 a F R Z B J u.2.2 u.1)) (fun u => u.1) := by
  intro sz
  refine Met.ofW (cc := cJ7_copyOf_6403c) (maxL := 4) (ret := (some (.array (.object "java/lang/Object")))) (by decide) rfl ?_
  intro p e s m args below meth c s₁ B9 hml hv
  obtain ⟨rfl, hsz, hP, hD0, hE, hX⟩ := hv
  have hx := B9.exec
  have hb := B9.bytes
  have hr := B9.returns
  have hts := atoms_spec (ws := Cond.code yJ7_copyOf_6403c cJ7_copyOf_6403c 4 (some (.array (.object "java/lang/Object"))) :: pw) B9.pre
  have hq : ∀ w ∈ pw, w.before _ s = true := fun w h => hts w (List.mem_cons_of_mem _ h)
  have hown : s.vm.findClass RJ7 = some m.cls := findClass_of_methodNamed B9.named
  have hlocks := B9.notSynchronized
  subst hsz
  have hD := hD0.self (sz := s.heap.size)
  have hA : ∀ q : Nat, s.heap.size ≤ q → va_A w s.heap.size q := fun q h => Or.inr h
  generalize va_A w s.heap.size = A at hD hE hA ⊢
  have hS : va_S A s.heap s.heap [] := va_S.rf
  have hl := lv_entry ([.ref q1, .int (nI m9), .ref mi]) (n := 4) (Nat.le_of_ble_eq_true rfl)
  rw [lg_entry_eq]
  generalize (lg_sl ([.ref q1, .int (nI m9), .ref mi]) ++ List.replicate (4 - (lg_sl ([.ref q1, .int (nI m9), .ref mi])).length) Slot.unset).toArray = ls at hl ⊢
  have hl : lv_has ls 4 [(0, .ref q1), (1, .int (nI m9)), (2, .ref mi)] := hl
  rcases hes with rfl | rfl
  · skip
    refine lv_aload_n hx hb dJ7_copyOf_6403c_0 rfl (lv_at hl 2 rfl) ?_
    refine va_ldcM (mi := mi) hx hb hown (hq _ pw_837) hX dJ7_copyOf_6403c_1 ?_
    refine lv_acmp_ne (rx := (some mi)) (ry := (some mi)) (tgt := 13) hx hb dJ7_copyOf_6403c_3 (by decide) (fun c1 => (absurd rfl c1)) (fun c1 => ?_)
    refine lv_iload_n hx hb dJ7_copyOf_6403c_6 rfl (lv_at hl 1 rfl) ?_
    refine p_newq (N' := m9) hx hb hown (hq _ pw_838) hE hP hD hS hA hO (nI_pos (by omega)) (nI_clamp (by omega)) (by omega) (by show 0 + 1 ≤ 1; omega) (by show 0 + m9 ≤ m9; omega) dJ7_copyOf_6403c_7 (fun q2 H w hq3 hP hD hS hO => ?_)
    refine W.widen (k := 1) (n := m9) (by show 0 + 1 ≤ 1; omega) (by show 0 + m9 ≤ m9; omega) ?_
    refine lv_goto (tgt := 24) hx hb dJ7_copyOf_6403c_10 (by decide) ?_
    refine lv_astore_n (lv' := [(3, .ref q2), (0, .ref q1), (1, .int (nI m9)), (2, .ref mi)]) hx hb dJ7_copyOf_6403c_24 rfl hl (by decide) rfl (fun ls hl => ?_)
    refine lv_aload_n hx hb dJ7_copyOf_6403c_25 rfl (lv_at hl 1 rfl) ?_
    refine lv_iconst (v := 0) hx hb dJ7_copyOf_6403c_26 (by decide) ?_
    refine lv_aload_n hx hb dJ7_copyOf_6403c_27 rfl (lv_at hl 0 rfl) ?_
    refine lv_iconst (v := 0) hx hb dJ7_copyOf_6403c_28 (by decide) ?_
    refine lv_aload_n hx hb dJ7_copyOf_6403c_29 rfl (lv_at hl 1 rfl) ?_
    have hne1 : ¬ q1 = q2 := fun z => by rw [z, hq3] at hq1; exact absurd hq1 (by decide)
    have hq1n : (kN K q2 6 m9).1 q1 = 6 := (if_neg hne1).trans hq1
    have hln1 : (kN K q2 6 m9).2.2.2.2.2 q1 = K.2.2.2.2.2 q1 := if_neg hne1
    have hq2n : (kN K q2 6 m9).1 q2 = 6 := if_pos rfl
    have hln2 : (kN K q2 6 m9).2.2.2.2.2 q2 = m9 := if_pos rfl
    refine p_alen hx hb hE hP hO hq1n dJ7_copyOf_6403c_30 ?_
    refine W.eq (g2 := F0 m 31 ls [.int (nI ((kN K q2 6 m9).2.2.2.2.2 q1)), .int 0, .ref q2, .int 0, .ref q1]) rfl ?_
    refine lv_iload_n hx hb dJ7_copyOf_6403c_31 rfl (lv_at hl 2 rfl) ?_
    refine va_mmin (own := RJ7) hx hb (by rw [hml]; exact hl.1.symm) hown (hq _ pw_839) (hq _ pw_420) (hq _ pw_52) (hq _ pw_421) (Nat.le_of_ble_eq_true rfl) (Nat.le_of_ble_eq_true rfl) (by show 1 ≤ 1; omega) (by show m9 ≤ m9; omega) dJ7_copyOf_6403c_32 ?_
    refine lv_topi (fun x4 e5 => ?_)
    obtain rfl : x4 = nI (K.2.2.2.2.2 q1) := e5.trans (by rw [hln1]; exact if_neg (fun z => absurd ((nI_ltI (a := m9) (b := K.2.2.2.2.2 q1) (by omega) (by omega)).mp z) (by omega)))
    refine p_copyq (own := RJ7) (es := 1) (ci := 13) (C := RX7) (Tc := TX7) (N := 11) hx hb (by rw [hml]; exact hl.1.symm) hown (hq _ pw_840) (hq _ pw_461) (hq _ pw_462) (hq _ pw_463) hE hP hD hS hO hq1n hq2n (by decide) (fun y hy => ⟨_, rep_1 hy⟩) rfl hE.pc.2.2.2.2.2.2.2.2.1 (by decide) (by decide) (nI_pos (by omega)) (by rw [nI_clamp (show K.2.2.2.2.2 q1 < 2 ^ 31 by omega)]; show 0 + _ ≤ _; omega) (by rw [nI_clamp (show K.2.2.2.2.2 q1 < 2 ^ 31 by omega)]; show 0 + _ ≤ _; omega) ?hel9 (Nat.le_of_ble_eq_true rfl) (Nat.le_of_ble_eq_true rfl) dJ7_copyOf_6403c_35 (fun H locs w hP hD hS hO => ?_)
    case hel9 =>
      intro i hi y hy
      rw [nI_clamp (show K.2.2.2.2.2 q1 < 2 ^ 31 by omega)] at hi
      have hy1 : K.2.2.2.2.1 q1 i = some y := by
        rw [← hy]; show _ = (if q1 = q2 then _ else K.2.2.2.2.1 q1) (0 + i); rw [if_neg hne1, Nat.zero_add]
      have hy2 := hel i y hi hy1
      exact (if_neg (fun z => by rw [z, hq3] at hy2; exact absurd hy2 (by decide))).trans hy2
    rw [nI_clamp (show K.2.2.2.2.2 q1 < 2 ^ 31 by omega)] at hO
    have hcp := cp_ok (m9 := m9) hq1 hq3
    change OKP G h0 a F R Z B J (kE (kN K q2 6 m9) q2 (va_cpy ((kN K q2 6 m9).2.2.2.2.1 q1) ((kN K q2 6 m9).2.2.2.2.1 q2) 0 0 (K.2.2.2.2.2 q1))) w at hO
    have h6 : N6 K (kE (kN K q2 6 m9) q2 (va_cpy ((kN K q2 6 m9).2.2.2.2.1 q1) ((kN K q2 6 m9).2.2.2.2.1 q2) 0 0 (K.2.2.2.2.2 q1))) := fun p hp => by
      by_cases z : p = q2
      · exact Or.inr (if_pos z)
      · exact Or.inl ((if_neg z).trans hp)
    generalize (kE (kN K q2 6 m9) q2 (va_cpy ((kN K q2 6 m9).2.2.2.2.1 q1) ((kN K q2 6 m9).2.2.2.2.1 q2) 0 0 (K.2.2.2.2.2 q1))) = K6 at hO hcp h6
    refine lv_aload_n hx hb dJ7_copyOf_6403c_38 rfl (lv_at hl 0 rfl) ?_
    have hz7 : K.1 q2 = 0 ∧ K6.1 q2 = 6 ∧ K6.2.2.2.2.2 q2 = m9 := ⟨hq3, hcp.1, hcp.2.2.1⟩
    have hz8 : Ext K K6 := hcp.2.1
    have hz9 : ∀ i : Nat, i < K.2.2.2.2.2 q1 → K6.2.2.2.2.1 q2 i = K.2.2.2.2.1 q1 i := hcp.2.2.2
    have hz10 : N6 K K6 := h6
    have hO : OKP G h0 a F R Z B J K6 w := hO.to rfl
    refine W.widen (k := 1) (n := m9) (by omega) (by omega) ?_
    exact W.aret (v := .ref q2) hx hb hr (Or.inr ⟨_, rfl⟩) (Or.inr ⟨_, rfl⟩) (fun t99 ht99 hW99 => ⟨⟨_, (w, (q2, K6)), rfl, ⟨rfl, hz7, hz8, hz9, hz10, hO⟩, by rw [ht99]; exact hP, hD⟩, hS.F ht99⟩) hS.2.2 dJ7_copyOf_6403c_39
  · skip
    refine lv_aload_n hx hb dJ7_copyOf_6403c_0 rfl (lv_at hl 2 rfl) ?_
    refine va_ldcM (mi := mi) hx hb hown (hq _ pw_837) hX dJ7_copyOf_6403c_1 ?_
    refine lv_acmp_ne (rx := (some mi)) (ry := (some mi)) (tgt := 13) hx hb dJ7_copyOf_6403c_3 (by decide) (fun c11 => (absurd rfl c11)) (fun c11 => ?_)
    refine lv_iload_n hx hb dJ7_copyOf_6403c_6 rfl (lv_at hl 1 rfl) ?_
    refine p_newq (N' := m9) hx hb hown (hq _ pw_838) hE hP hD hS hA hO (nI_pos (by omega)) (nI_clamp (by omega)) (by omega) (by show 0 + 1 ≤ 1; omega) (by show 0 + m9 ≤ m9; omega) dJ7_copyOf_6403c_7 (fun q12 H w hq13 hP hD hS hO => ?_)
    refine W.widen (k := 1) (n := m9) (by show 0 + 1 ≤ 1; omega) (by show 0 + m9 ≤ m9; omega) ?_
    refine lv_goto (tgt := 24) hx hb dJ7_copyOf_6403c_10 (by decide) ?_
    refine lv_astore_n (lv' := [(3, .ref q12), (0, .ref q1), (1, .int (nI m9)), (2, .ref mi)]) hx hb dJ7_copyOf_6403c_24 rfl hl (by decide) rfl (fun ls hl => ?_)
    refine lv_aload_n hx hb dJ7_copyOf_6403c_25 rfl (lv_at hl 1 rfl) ?_
    refine lv_iconst (v := 0) hx hb dJ7_copyOf_6403c_26 (by decide) ?_
    refine lv_aload_n hx hb dJ7_copyOf_6403c_27 rfl (lv_at hl 0 rfl) ?_
    refine lv_iconst (v := 0) hx hb dJ7_copyOf_6403c_28 (by decide) ?_
    refine lv_aload_n hx hb dJ7_copyOf_6403c_29 rfl (lv_at hl 1 rfl) ?_
    have hne1 : ¬ q1 = q12 := fun z => by rw [z, hq13] at hq1; exact absurd hq1 (by decide)
    have hq1n : (kN K q12 6 m9).1 q1 = 6 := (if_neg hne1).trans hq1
    have hln1 : (kN K q12 6 m9).2.2.2.2.2 q1 = K.2.2.2.2.2 q1 := if_neg hne1
    have hq2n : (kN K q12 6 m9).1 q12 = 6 := if_pos rfl
    have hln2 : (kN K q12 6 m9).2.2.2.2.2 q12 = m9 := if_pos rfl
    refine p_alen hx hb hE hP hO hq1n dJ7_copyOf_6403c_30 ?_
    refine W.eq (g2 := F0 m 31 ls [.int (nI ((kN K q12 6 m9).2.2.2.2.2 q1)), .int 0, .ref q12, .int 0, .ref q1]) rfl ?_
    refine lv_iload_n hx hb dJ7_copyOf_6403c_31 rfl (lv_at hl 2 rfl) ?_
    refine va_mmin (own := RJ7) hx hb (by rw [hml]; exact hl.1.symm) hown (hq _ pw_839) (hq _ pw_420) (hq _ pw_52) (hq _ pw_421) (Nat.le_of_ble_eq_true rfl) (Nat.le_of_ble_eq_true rfl) (by show 1 ≤ 1; omega) (by show m9 ≤ m9; omega) dJ7_copyOf_6403c_32 ?_
    refine lv_topi (fun x14 e15 => ?_)
    obtain rfl : x14 = nI (K.2.2.2.2.2 q1) := e15.trans (by rw [hln1]; exact if_neg (fun z => absurd ((nI_ltI (a := m9) (b := K.2.2.2.2.2 q1) (by omega) (by omega)).mp z) (by omega)))
    refine p_copyq (own := RJ7) (es := 3) (ci := 12) (C := RX6) (Tc := TX6) (N := 12) hx hb (by rw [hml]; exact hl.1.symm) hown (hq _ pw_840) (hq _ pw_461) (hq _ pw_462) (hq _ pw_463) hE hP hD hS hO hq1n hq2n (by decide) (fun y hy => ⟨_, rep_3 hy⟩) rfl hE.pc.2.2.2.2.2.2.2.2.2 (by decide) (by decide) (nI_pos (by omega)) (by rw [nI_clamp (show K.2.2.2.2.2 q1 < 2 ^ 31 by omega)]; show 0 + _ ≤ _; omega) (by rw [nI_clamp (show K.2.2.2.2.2 q1 < 2 ^ 31 by omega)]; show 0 + _ ≤ _; omega) ?hel9 (Nat.le_of_ble_eq_true rfl) (Nat.le_of_ble_eq_true rfl) dJ7_copyOf_6403c_35 (fun H locs w hP hD hS hO => ?_)
    case hel9 =>
      intro i hi y hy
      rw [nI_clamp (show K.2.2.2.2.2 q1 < 2 ^ 31 by omega)] at hi
      have hy1 : K.2.2.2.2.1 q1 i = some y := by
        rw [← hy]; show _ = (if q1 = q12 then _ else K.2.2.2.2.1 q1) (0 + i); rw [if_neg hne1, Nat.zero_add]
      have hy2 := hel i y hi hy1
      exact (if_neg (fun z => by rw [z, hq13] at hy2; exact absurd hy2 (by decide))).trans hy2
    rw [nI_clamp (show K.2.2.2.2.2 q1 < 2 ^ 31 by omega)] at hO
    have hcp := cp_ok (m9 := m9) hq1 hq13
    change OKP G h0 a F R Z B J (kE (kN K q12 6 m9) q12 (va_cpy ((kN K q12 6 m9).2.2.2.2.1 q1) ((kN K q12 6 m9).2.2.2.2.1 q12) 0 0 (K.2.2.2.2.2 q1))) w at hO
    have h6 : N6 K (kE (kN K q12 6 m9) q12 (va_cpy ((kN K q12 6 m9).2.2.2.2.1 q1) ((kN K q12 6 m9).2.2.2.2.1 q12) 0 0 (K.2.2.2.2.2 q1))) := fun p hp => by
      by_cases z : p = q12
      · exact Or.inr (if_pos z)
      · exact Or.inl ((if_neg z).trans hp)
    generalize (kE (kN K q12 6 m9) q12 (va_cpy ((kN K q12 6 m9).2.2.2.2.1 q1) ((kN K q12 6 m9).2.2.2.2.1 q12) 0 0 (K.2.2.2.2.2 q1))) = K16 at hO hcp h6
    refine lv_aload_n hx hb dJ7_copyOf_6403c_38 rfl (lv_at hl 0 rfl) ?_
    have hz17 : K.1 q12 = 0 ∧ K16.1 q12 = 6 ∧ K16.2.2.2.2.2 q12 = m9 := ⟨hq13, hcp.1, hcp.2.2.1⟩
    have hz18 : Ext K K16 := hcp.2.1
    have hz19 : ∀ i : Nat, i < K.2.2.2.2.2 q1 → K16.2.2.2.2.1 q12 i = K.2.2.2.2.1 q1 i := hcp.2.2.2
    have hz20 : N6 K K16 := h6
    have hO : OKP G h0 a F R Z B J K16 w := hO.to rfl
    refine W.widen (k := 1) (n := m9) (by omega) (by omega) ?_
    exact W.aret (v := .ref q12) hx hb hr (Or.inr ⟨_, rfl⟩) (Or.inr ⟨_, rfl⟩) (fun t99 ht99 hW99 => ⟨⟨_, (w, (q12, K16)), rfl, ⟨rfl, hz17, hz18, hz19, hz20, hO⟩, by rw [ht99]; exact hP, hD⟩, hS.F ht99⟩) hS.2.2 dJ7_copyOf_6403c_39
