theorem vs_eqi {args : Array Value} {s : State} {tm : Term} {z : Int32} (h : (Cond.eq tm (.int z)).before args s = true) : tm.eval args s none [] s = some (.int z) := by
  cases hv : tm.eval args s none [] s with
  | none => simp [Cond.before, Cond.holds, Cond.value, hv] at h
  | some w =>
    have hz : (Term.int z).eval args s none [] s = some (.int z) := rfl
    simp only [Cond.before, Cond.holds, Cond.value, hv, hz] at h
    cases w <;> simp_all
theorem vs_same {args : Array Value} {s : State} {a b : Term} {q : Nat} (h : (Cond.eq a b).before args s = true) (ha : a.eval args s none [] s = some (.ref q)) : b.eval args s none [] s = some (.ref q) := by
  simp only [Cond.before, Cond.holds, Cond.value, ha] at h
  cases hb : b.eval args s none [] s with
  | none => simp [hb] at h
  | some x => cases x <;> simp_all
set_option maxHeartbeats 8000000 in
set_option maxRecDepth 100000 in
/-- what is given, at the law's entry -/
theorem pE_start {args : Array Value} {s : State} (hts : ∀ w ∈ lw_tbl, w.before args s = true) (hgv : (Jvm.Cond.and given_1 narrow_1).before args s = true) : ∃ G : pT, pE G (fun q : Nat => s.heap.size ≤ q) s s.heap := by
  have hs : ∀ w ∈ FL, w.before args s = true := flat_of_before _ hgv
  have hA : ∀ a : Nat, a < s.heap.size → ¬ (fun q : Nat => s.heap.size ≤ q) a := fun a h => Nat.not_le.mpr h
  obtain ⟨c0, i0, hK0⟩ := u_known (C := RX0) (T := TX0) (N := 13) (n := 13) hts pt_wsX00 (hts (.instantiable RX0 13) (by decide +kernel))
  obtain ⟨c1, i1, hK1⟩ := u_known (C := RX1) (T := TX1) (N := 13) (n := 13) hts pt_wsX10 (hts (.instantiable RX1 13) (by decide +kernel))
  obtain ⟨c2, i2, hK2⟩ := u_known (C := RX2) (T := TX2) (N := 13) (n := 13) hts pt_wsX20 (hts (.instantiable RX2 13) (by decide +kernel))
  obtain ⟨c3, i3, hK3⟩ := u_known (C := RX3) (T := TX3) (N := 5) (n := 5) hts pt_wsX30 (hts (.instantiable RX3 5) (by decide +kernel))
  obtain ⟨c4, i4, hK4⟩ := u_known (C := RX5) (T := TX5) (N := 19) (n := 19) hts pt_wsX50 (hts (.instantiable RX5 19) (by decide +kernel))
  obtain ⟨c5, i5, hK5⟩ := u_known (C := RX8) (T := TX8) (N := 5) (n := 5) hts pt_wsX80 (hts (.instantiable RX8 5) (by decide +kernel))
  obtain ⟨c6, i6, hK6⟩ := u_known (C := RX9) (T := TX9) (N := 5) (n := 5) hts pt_wsX90 (hts (.instantiable RX9 5) (by decide +kernel))
  obtain ⟨c7, i7, hK7⟩ := u_known (C := RX10) (T := TX10) (N := 15) (n := 15) hts pt_wsX100 (hts (.instantiable RX10 15) (by decide +kernel))
  obtain ⟨c8, i8, hK8⟩ := u_known (C := RX11) (T := TX11) (N := 8) (n := 8) hts pt_wsX110 (hts (.instantiable RX11 8) (by decide +kernel))
  obtain ⟨c9, i9, hK9⟩ := u_known (C := RX12) (T := TX12) (N := 134) (n := 134) hts pt_wsX120 (hts (.instantiable RX12 134) (by decide +kernel))
  obtain ⟨c10, i10, hK10⟩ := u_known (C := RJx4a65c) (T := TJx4a65c) (N := 3) (n := 3) hts pt_wsJx4a65c0 (hts (.instantiable RJx4a65c 3) (by decide +kernel))
  obtain ⟨c11, i11, hK11⟩ := u_known (C := RX4) (T := TX4) (N := 6) (n := 6) hts pt_wsX40 (hts (.instantiable RX4 6) (by decide +kernel))
  obtain ⟨c12, i12, hK12⟩ := u_known (C := RX6) (T := TX6) (N := 12) (n := 12) hts pt_wsX60 (hts (.instantiable RX6 12) (by decide +kernel))
  obtain ⟨c13, i13, hK13⟩ := u_known (C := RX7) (T := TX7) (N := 11) (n := 11) hts pt_wsX70 (hts (.instantiable RX7 11) (by decide +kernel))
  obtain ⟨a0, ka0, ca0, fa0, ga0, ka0_⟩ := Cond.arrayClass_spec (args := args) (first := s) (o := none) (s := s) (idx := []) (hts (.arrayClass .int) (by decide +kernel))
  obtain ⟨a1, ka1, ca1, fa1, ga1, ka1_⟩ := Cond.arrayClass_spec (args := args) (first := s) (o := none) (s := s) (idx := []) (hts (.arrayClass .byte) (by decide +kernel))
  obtain ⟨a2, ka2, ca2, fa2, ga2, ka2_⟩ := Cond.arrayClass_spec (args := args) (first := s) (o := none) (s := s) (idx := []) (hts (.arrayClass .long) (by decide +kernel))
  obtain ⟨a3, ka3, ca3, fa3, ga3, ka3_⟩ := Cond.arrayClass_spec (args := args) (first := s) (o := none) (s := s) (idx := []) (hts (.arrayClass .boolean) (by decide +kernel))
  obtain ⟨ca4, a4, ka4, fc4, -, ga4, ka4_, fa4⟩ := Cond.arrayOver_spec (args := args) (first := s) (o := none) (s := s) (idx := []) (hts (.arrayOver (.object "JinjaTongue$Decl")) (by decide +kernel))
  obtain ⟨ca5, a5, ka5, fc5, -, ga5, ka5_, fa5⟩ := Cond.arrayOver_spec (args := args) (first := s) (o := none) (s := s) (idx := []) (hts (.arrayOver (.object "java/lang/Object")) (by decide +kernel))
  obtain ⟨adK, adV, hvS, hvE⟩ := vk_Sof (args := args) (s := s) (N := 19) (tm := sTm) (len := sLen) (byt := sByt) (A := fun q : Nat => s.heap.size ≤ q) (fun i hi => Nat.lt_trans (sLen_lt i hi) (by decide)) (fun i hi => hs _ (fx_all i hi)) (fun i hi => hs _ (fc_all i hi)) (fun i hi => hs _ (fa_all i hi)) (fun i hi => hs _ (fl_all i hi)) (fun i hi j hj => hs _ (fe_all i hi j hj)) (fun i j hi hj hij => (fn_all i hi j hj hij).imp (hs _) (hs _)) hA
  obtain ⟨ae, -, -, -, he, -⟩ := Cond.exactly_spec (args := args) (first := s) (o := none) (s := s) (idx := []) (hs (Cond.exactly (.static "java/util/ArrayList" "DEFAULTCAPACITY_EMPTY_ELEMENTDATA" "[Ljava/lang/Object;") "[Ljava/lang/Object;") (by decide +kernel))
  obtain ⟨t9, ht9, hT⟩ := va_Tof (args := args) (s := s) (tm := .static "java/util/ArrayList" "DEFAULTCAPACITY_EMPTY_ELEMENTDATA" "[Ljava/lang/Object;") (ty := .object "java/lang/Object") (N := 0) (f := fun _ => .null) (A := fun q : Nat => s.heap.size ≤ q) (by decide) (hs (Cond.arrayOf (.static "java/util/ArrayList" "DEFAULTCAPACITY_EMPTY_ELEMENTDATA" "[Ljava/lang/Object;") (.object "java/lang/Object")) (by decide +kernel)) (vs_eqi (hs (Cond.eq (.length (.static "java/util/ArrayList" "DEFAULTCAPACITY_EMPTY_ELEMENTDATA" "[Ljava/lang/Object;")) (.int 0)) (by decide +kernel))) (fun j hj => absurd hj (Nat.not_lt_zero j)) hA
  cases Option.some.inj (ht9.symm.trans he)
  refine ⟨(((fun k => match k with | 0 => c0 | 1 => c1 | 2 => c2 | 3 => c3 | 4 => c4 | 5 => c5 | 6 => c6 | 7 => c7 | 8 => c8 | 9 => c9 | 10 => c10 | 11 => c11 | 12 => c12 | _ => c13), (fun k => match k with | 0 => i0 | 1 => i1 | 2 => i2 | 3 => i3 | 4 => i4 | 5 => i5 | 6 => i6 | 7 => i7 | 8 => i8 | 9 => i9 | 10 => i10 | 11 => i11 | 12 => i12 | _ => i13)), (fun k => match k with | 0 => a0 | 1 => a1 | 2 => a2 | 3 => a3 | 4 => a4 | _ => a5), adK, adV, ae), ⟨⟨?_, ?_⟩, fa0, fa1, fa2, fa3, fa4, fa5⟩, hvS, ?_, ?_, ?_, ?_, ⟨?_, ?_⟩, ⟨?_, ?_, ?_, ?_, ⟨?_, ?_, ?_⟩, ?_, ?_, ?_, ?_, ?_⟩, ?_, ?_, ⟨?_, ?_⟩⟩
  · intro k q hq
    match k, hq with
    | 0, hq => cases hq; exact hK0
    | 1, hq => cases hq; exact hK1
    | 2, hq => cases hq; exact hK2
    | 3, hq => cases hq; exact hK3
    | 4, hq => cases hq; exact hK4
    | 5, hq => cases hq; exact hK5
    | 6, hq => cases hq; exact hK6
    | 7, hq => cases hq; exact hK7
    | 8, hq => cases hq; exact hK8
    | 9, hq => cases hq; exact hK9
    | 10, hq => cases hq; exact hK10
    | 11, hq => cases hq; exact hK11
    | 12, hq => cases hq; exact hK12
    | 13, hq => cases hq; exact hK13
    | k + 14, hq => simp [pCl] at hq
  · intro k q hq
    match k, hq with
    | 0, hq => cases hq; exact ⟨fun n z => ⟨(fun k h => by cases h), ka0, ga0, ca0, ka0_⟩, fa0⟩
    | 1, hq => cases hq; exact ⟨fun n z => ⟨(fun k h => by cases h), ka1, ga1, ca1, ka1_⟩, fa1⟩
    | 2, hq => cases hq; exact ⟨fun n z => ⟨(fun k h => by cases h), ka2, ga2, ca2, ka2_⟩, fa2⟩
    | 3, hq => cases hq; exact ⟨fun n z => ⟨(fun k h => by cases h), ka3, ga3, ca3, ka3_⟩, fa3⟩
    | 4, hq => cases hq; exact ⟨fun n z => ⟨(fun k h => by cases h), ka4, ga4, ca4, ka4_⟩, ka4, ca4, ga4, ka4_, fc4, fa4⟩
    | 5, hq => cases hq; exact ⟨fun n z => ⟨(fun k h => by cases h), ka5, ga5, ca5, ka5_⟩, ka5, ca5, ga5, ka5_, fc5, fa5⟩
    | k + 6, hq => simp [pTy] at hq
  · intro i hi; exact vk_R.of (hts _ (fr_all i hi)) (hvE i hi)
  · exact va_Zof (hts _ (by decide +kernel)) (hts _ (by decide +kernel)) (va_eqi (hs _ (by decide +kernel))) hA
  · exact va_Zqof (hts _ (by decide +kernel)) (hts _ (by decide +kernel)) (hs _ (by decide +kernel)) hA
  · exact va_Zof (hts _ (by decide +kernel)) (hts _ (by decide +kernel)) he hA
  · exact vx_Zqof (hts _ (by decide +kernel)) (hts _ (by decide +kernel)) (hs _ (by decide +kernel)) hA
  · exact vx_Zqof (hts _ (by decide +kernel)) (hts _ (by decide +kernel)) (hs _ (by decide +kernel)) hA
  · exact pCa.of (hts (.castable eIS eIS) (by decide +kernel))
  · exact pCa.of (hts (.castable eIA eIA) (by decide +kernel))
  · exact va_Nc.of (hs (.not (.castable eIS eIA)) (by decide +kernel))
  · exact va_AO.of (hts (.arrayOver (.object "JinjaTongue$Decl")) (by decide +kernel))
  · exact pDc_moved (Vm.Alike.refl _) (hts (.declares (Bundle.initS "java/lang/RuntimeException")) (by decide +kernel))
  · exact pDc_moved (Vm.Alike.refl _) (hts (.declares (Bundle.initS "java/lang/Exception")) (by decide +kernel))
  · exact pDc_moved (Vm.Alike.refl _) (hts (.declares (Bundle.initS Bundle.tN)) (by decide +kernel))
  · exact va_AO.of (hts (.arrayOver (.object "java/lang/Object")) (by decide +kernel))
  · exact pCa.of (hts (.castable "JinjaTongue$Node" "JinjaTongue$Node") (by decide +kernel))
  · exact pCa.of (hts (.castable "JinjaTongue$Method" "JinjaTongue$Method") (by decide +kernel))
  · exact pCa.of (hts (.castable "JinjaTongue$Node" "java/lang/Object") (by decide +kernel))
  · exact pCa.of (hts (.castable "JinjaTongue$Method" "java/lang/Object") (by decide +kernel))
  · exact vk_R.of (hts _ fr_287) (vs_same (hs _ (List.mem_of_getElem? fq_287)) (hvE 16 (by decide)))
  · exact hT
  · exact va_Mi.of (hs (.isRef (.mirror "[Ljava/lang/Object;")) (by decide +kernel))
  · exact va_Dc.of (hts (.declares ⟨"java/lang/Object", "getClass", "()Ljava/lang/Class;"⟩) (by decide +kernel))
