theorem kI_eq {K : PK} {f q : Nat} {v : Int32} : (kI K f q v).2.1 f q = v := by
  show updF K.2.1 f q v f q = v
  exact updF_eq
theorem kI_ne {K : PK} {f q g p : Nat} {v : Int32} (h : ¬ p = q) : (kI K f q v).2.1 g p = K.2.1 g p := by
  show updF K.2.1 f q v g p = _
  exact updF_ne h
theorem kI_of {K : PK} {f q g p : Nat} {v : Int32} (h : ¬ g = f) : (kI K f q v).2.1 g p = K.2.1 g p := by
  show updF K.2.1 f q v g p = _
  exact updF_of h
theorem kC_eq {K : PK} {f q : Nat} {v : Option Nat} : (kC K f q v).2.2.1 f q = v := by
  show updF K.2.2.1 f q v f q = v
  exact updF_eq
theorem kC_ne {K : PK} {f q g p : Nat} {v : Option Nat} (h : ¬ p = q) : (kC K f q v).2.2.1 g p = K.2.2.1 g p := by
  show updF K.2.2.1 f q v g p = _
  exact updF_ne h
theorem kC_of {K : PK} {f q g p : Nat} {v : Option Nat} (h : ¬ g = f) : (kC K f q v).2.2.1 g p = K.2.2.1 g p := by
  show updF K.2.2.1 f q v g p = _
  exact updF_of h
section DL
variable {p : Program} {l : Launch} {e : Env} {Rm : Room} {s : State} {m : MethodId} {args : Array Value} {below : List Frame} {meth : Method} {c : Code} {H : Heap} {locs : List Loc} {cells slots : Nat} {Qg : State → Prop}
variable {cc : ByteArray} {pc q : Nat} {ls : Array Slot} {rest : List Value} {A : Nat → Prop}
variable {G : pT} {h0 : Nat} {a : Nat → Nat} {F : Nat → Int32} {R : Nat → Value} {Z : Int64} {B : Nat → Nat → Int32} {J : Nat → Nat → Int64} {w : va_W} {K : PK}
theorem p_at6 (hO : OKP G h0 a F R Z B J K w) (hT : K.1 q = 6) : ∃ i : Nat, w[i]? = some (q, .inl (G.2.1 5, K.2.2.2.2.2 q, .inr (.inr (.inr (.inr (K.2.2.2.2.1 q)))))) := by
  obtain ⟨i, y, hi⟩ := hO.2.2.2 q (by rw [hT]; decide)
  have e1 : y = .inl (G.2.1 5, K.2.2.2.2.2 q, .inr (.inr (.inr (.inr (K.2.2.2.2.1 q))))) := (hO.2.2.1 i _ hi (by rw [hT]; decide)).trans (rep_6 hT)
  subst e1
  exact ⟨i, hi⟩
theorem p_ald {i : Int32} (hx : p.tables.exec = Jvm.exec) (hb : c.code = cc) (hE : pE G A s s.heap) (hP : va_P G.1 pCl w H) (hO : OKP G h0 a F R Z B J K w) (hT : K.1 q = 6) (hin : vp_in i (K.2.2.2.2.2 q)) (hdg : decode cc pc = .ok (.aaload, 1))
    (kk : W p l e Rm s m args below meth c H locs cells slots Qg (F0 m (pc + 1) ls (va_rf (K.2.2.2.2.1 q i.toNatClampNeg) :: rest))) : W p l e Rm s m args below meth c H locs cells slots Qg (F0 m pc ls (.int i :: .ref q :: rest)) := by
  obtain ⟨j, hj⟩ := p_at6 hO hT
  exact va_aldq hx hb hE.1.1 hP j 5 hj rfl hin hdg kk
theorem p_alen (hx : p.tables.exec = Jvm.exec) (hb : c.code = cc) (hE : pE G A s s.heap) (hP : va_P G.1 pCl w H) (hO : OKP G h0 a F R Z B J K w) (hT : K.1 q = 6) (hdg : decode cc pc = .ok (.arraylength, 1))
    (kk : W p l e Rm s m args below meth c H locs cells slots Qg (F0 m (pc + 1) ls (.int (nI (K.2.2.2.2.2 q)) :: rest))) : W p l e Rm s m args below meth c H locs cells slots Qg (F0 m pc ls (.ref q :: rest)) := by
  obtain ⟨j, hj⟩ := p_at6 hO hT
  exact va_alen hx hb hE.1.1 hP j 5 hj rfl rfl hdg kk
theorem p_ast {C : String} {Tc : u_T} {N ci v : Nat} {vs : List Value} {i : Int32} (hx : p.tables.exec = Jvm.exec) (hb : c.code = cc) (hE : pE G A s s.heap) (hP : va_P G.1 pCl w H) (hD : va_D A w) (hS : va_S A s.heap H locs) (hO : OKP G h0 a F R Z B J K w) (hT : K.1 q = 6) (hv : ¬ K.1 v = 0) (hrv : rep G a K v = .inr (ci, vs)) (hc : pCl[ci]? = some (C, Tc, N)) (hca : pCa C "java/lang/Object" s) (hin : vp_in i (K.2.2.2.2.2 q)) (hdg : decode cc pc = .ok (.aastore, 1))
    (kk : ∀ (H1 : Heap) (locs1 : List Loc) (w1 : va_W), va_P G.1 pCl w1 H1 → va_D A w1 → va_S A s.heap H1 locs1 → OKP G h0 a F R Z B J (kE K q (va_up (K.2.2.2.2.1 q) i.toNatClampNeg (some v))) w1 → W p l e Rm s m args below meth c H1 locs1 cells slots Qg (F0 m (pc + 1) ls rest)) : W p l e Rm s m args below meth c H locs cells slots Qg (F0 m pc ls (.ref v :: .int i :: .ref q :: rest)) := by
  obtain ⟨j, hj⟩ := p_at6 hO hT
  obtain ⟨k, hk⟩ := p_recv hO hv hrv
  refine va_astqO (r := (C, Tc, N)) hx hb hE.1.1 hP hD hS j 5 k ci hj rfl hca.use hk hc hin hdg (fun H1 locs1 h1 h2 h3 => kk H1 locs1 _ h1 h2 h3 ?_)
  refine OKW.pput (Pi' := fun p x => x = rep G a (kE K q (va_up (K.2.2.2.2.1 q) i.toNatClampNeg (some v))) p) hO hD hj (by rw [hT]; decide) ?_ ?_
  · rw [rep_6 (show (kE K q (va_up (K.2.2.2.2.1 q) i.toNatClampNeg (some v))).1 q = 6 from hT)]
    show _ = Sum.inl (_, _, _)
    unfold kE
    simp only [if_true]
  · intro p x hp hx
    exact hx.trans (rep_kE hp).symm
theorem p_newq {own : String} {index N' : Nat} {k : Int32} (hx : p.tables.exec = Jvm.exec) (hb : c.code = cc) (hown : s.vm.findClass own = some m.cls) (hcl : (Cond.classLink own index "java/lang/Object").before args s = true) (hE : pE G A s s.heap) (hP : va_P G.1 pCl w H) (hD : va_D A w) (hS : va_S A s.heap H locs) (hA : ∀ q, s.heap.size ≤ q → A q) (hO : OKP G h0 a F R Z B J K w) (hn : ¬ k < 0) (hN : k.toNatClampNeg = N') (hbytes : N' * 4 ≤ 536870912) (hcells : cells + 1 ≤ Rm.cells) (hslots : slots + N' ≤ Rm.slots) (hdg : decode cc pc = .ok (.anewarray index, 3))
    (kk : ∀ (q : Nat) (H1 : Heap) (w1 : va_W), K.1 q = 0 → va_P G.1 pCl w1 H1 → va_D A w1 → va_S A s.heap H1 locs → OKP G h0 a F R Z B J (kN K q 6 N') w1 → W p l e Rm s m args below meth c H1 locs (cells + 1) (slots + N') Qg (F0 m (pc + 3) ls (.ref q :: rest))) : W p l e Rm s m args below meth c H locs cells slots Qg (F0 m pc ls (.int k :: rest)) := by
  refine pn_newq (C := "java/lang/Object") (cA0 := G.2.1 5) hx hb hown hcl hE.pc.2.2.2.2.2.1 hE.1.2.2.2.2.2.2 hE.1.1 hP hD hS hA hn hN hbytes hcells hslots hdg (fun q H1 h1 h2 h3 => kk q H1 _ (OKW.fresh hO h2) h1 h2 h3 (OKP.new hO h2 (by decide) ?_))
  rw [rep_6 (show (kN K q 6 N').1 q = 6 from if_pos rfl)]
  unfold kN
  simp only [if_true]
theorem p_copyq {own C : String} {index q2 es ci : Nat} {Tc : u_T} {N : Nat} {sp dp n : Int32} (hx : p.tables.exec = Jvm.exec) (hb : c.code = cc) (hml : c.maxLocals = ls.size) (hown : s.vm.findClass own = some m.cls) (hlink : (Cond.methodLink own index arraycopyName).before args s = true) (hnat : (Cond.native arraycopyName).before args s = true) (hstat : (Cond.static arraycopyName).before args s = true) (hini : (Cond.initialized "java/lang/System").before args s = true)
    (hE : pE G A s s.heap) (hP : va_P G.1 pCl w H) (hD : va_D A w) (hS : va_S A s.heap H locs) (hO : OKP G h0 a F R Z B J K w) (hT : K.1 q = 6) (hT2 : K.1 q2 = 6) (hes : ¬ es = 0) (hrs : ∀ y : Nat, K.1 y = es → ∃ vs : List Value, rep G a K y = .inr (ci, vs)) (hc : pCl[ci]? = some (C, Tc, N)) (hca : pCa C "java/lang/Object" s)
    (h1 : ¬ sp < 0) (h2 : ¬ dp < 0) (h3 : ¬ n < 0) (h4 : sp.toNatClampNeg + n.toNatClampNeg ≤ K.2.2.2.2.2 q) (h5 : dp.toNatClampNeg + n.toNatClampNeg ≤ K.2.2.2.2.2 q2) (hel : ∀ i : Nat, i < n.toNatClampNeg → ∀ y : Nat, K.2.2.2.2.1 q (sp.toNatClampNeg + i) = some y → K.1 y = es)
    (hframes : 1 ≤ Rm.frames) (hlocals : (rest.map fun v => v.category).sum + (nativeFrameWords "java/lang/System" "arraycopy" 5 + 11) ≤ Rm.locals) (hdg : decode cc pc = .ok (.invokestatic index, 3))
    (kk : ∀ (H1 : Heap) (locs1 : List Loc) (w1 : va_W), va_P G.1 pCl w1 H1 → va_D A w1 → va_S A s.heap H1 locs1 → OKP G h0 a F R Z B J (kE K q2 (va_cpy (K.2.2.2.2.1 q) (K.2.2.2.2.1 q2) sp.toNatClampNeg dp.toNatClampNeg n.toNatClampNeg)) w1 → W p l e Rm s m args below meth c H1 locs1 cells slots Qg (F0 m (pc + 3) ls rest)) : W p l e Rm s m args below meth c H locs cells slots Qg (F0 m pc ls (.int n :: .int dp :: .ref q2 :: .int sp :: .ref q :: rest)) := by
  obtain ⟨j, hj⟩ := p_at6 hO hT
  obtain ⟨k, hk⟩ := p_at6 hO hT2
  refine va_copyq (own := own) (C := C) (E0 := "java/lang/Object") (E1 := "java/lang/Object") hx hb hml hown hlink hnat hstat hini hE.1.1 hP hD hS j k 5 5 hj hk rfl rfl h1 h2 h3 h4 h5 (fun i hi y hy => ?_) (fun comp c0 g1 g2 => ?_) hframes hlocals hdg (fun H1 locs1 g1 g2 g3 => kk H1 locs1 _ g1 g2 g3 ?_)
  · have hy1 := hel i hi y hy
    obtain ⟨vs, hv⟩ := hrs y hy1
    obtain ⟨t, ht⟩ := p_recv hO (by rw [hy1]; exact hes) hv
    obtain ⟨cell, z1, z2, z3⟩ := va_recv hE.1.1 hP hc ht
    exact ⟨cell, z1, z2, z3⟩
  · obtain ⟨c1, t1, f1, f2, f3⟩ := hca
    cases g1.symm.trans f2
    cases g2.symm.trans f1
    exact f3
  · refine OKW.pput (Pi' := fun p x => x = rep G a (kE K q2 (va_cpy (K.2.2.2.2.1 q) (K.2.2.2.2.1 q2) sp.toNatClampNeg dp.toNatClampNeg n.toNatClampNeg)) p) hO hD hk (by rw [hT2]; decide) ?_ ?_
    · rw [rep_6 (show (kE K q2 (va_cpy (K.2.2.2.2.1 q) (K.2.2.2.2.1 q2) sp.toNatClampNeg dp.toNatClampNeg n.toNatClampNeg)).1 q2 = 6 from hT2)]
      unfold kE
      simp only [if_true]
    · intro p x hp hx
      exact hx.trans (rep_kE hp).symm
/-- whose row it is: told, not held -/
theorem rep_k17 {v : Option Nat} {f x : Nat} : rep G a (kC K 17 f v) x = rep G a K x := by
  unfold rep kC fsNode fsMethod fsDecl fsList fsProgram fsLoop
  simp only [updF_of (show ¬ (0 = 17) by decide), updF_of (show ¬ (1 = 17) by decide), updF_of (show ¬ (2 = 17) by decide), updF_of (show ¬ (3 = 17) by decide), updF_of (show ¬ (4 = 17) by decide), updF_of (show ¬ (5 = 17) by decide), updF_of (show ¬ (6 = 17) by decide), updF_of (show ¬ (7 = 17) by decide), updF_of (show ¬ (8 = 17) by decide), updF_of (show ¬ (9 = 17) by decide), updF_of (show ¬ (10 = 17) by decide), updF_of (show ¬ (11 = 17) by decide), updF_of (show ¬ (12 = 17) by decide), updF_of (show ¬ (13 = 17) by decide), updF_of (show ¬ (14 = 17) by decide), updF_of (show ¬ (15 = 17) by decide), updF_of (show ¬ (16 = 17) by decide), updF_of (show ¬ (18 = 17) by decide)]
theorem OKP.own {f : Nat} {v : Option Nat} (hO : OKP G h0 a F R Z B J K w) : OKP G h0 a F R Z B J (kC K 17 f v) w := ⟨hO.1, hO.2.1, fun i x hi hx => (hO.2.2.1 i x hi hx).trans rep_k17.symm, hO.2.2.2⟩
end DL
