section DE
variable {p : Program} {l : Launch} {e : Env} {Rm : Room} {s : State} {m : MethodId} {args : Array Value} {below : List Frame} {meth : Method} {c : Code} {H : Heap} {locs : List Loc} {cells slots : Nat} {Qg : State → Prop}
variable {cc : ByteArray} {pc q : Nat} {ls : Array Slot} {rest : List Value} {A : Nat → Prop}
variable {G : pT} {h0 : Nat} {a : Nat → Nat} {F : Nat → Int32} {R : Nat → Value} {Z : Int64} {B : Nat → Nat → Int32} {J : Nat → Nat → Int64} {w : va_W} {K : PK}
theorem p_at8 (hO : OKP G h0 a F R Z B J K w) (hT : K.1 q = 8) : ∃ i : Nat, w[i]? = some (q, .inl (G.2.1 4, 37, .inr (.inr (.inr (.inr (K.2.2.2.2.1 q)))))) := by
  obtain ⟨i, y, hi⟩ := hO.2.2.2 q (by rw [hT]; decide)
  have e1 : y = .inl (G.2.1 4, 37, .inr (.inr (.inr (.inr (K.2.2.2.2.1 q))))) := (hO.2.2.1 i _ hi (by rw [hT]; decide)).trans (rep_8 hT)
  subst e1
  exact ⟨i, hi⟩
theorem p_ald8 {i : Int32} (hx : p.tables.exec = Jvm.exec) (hb : c.code = cc) (hE : pE G A s s.heap) (hP : va_P G.1 pCl w H) (hO : OKP G h0 a F R Z B J K w) (hT : K.1 q = 8) (hin : vp_in i 37) (hdg : decode cc pc = .ok (.aaload, 1))
    (kk : W p l e Rm s m args below meth c H locs cells slots Qg (F0 m (pc + 1) ls (va_rf (K.2.2.2.2.1 q i.toNatClampNeg) :: rest))) : W p l e Rm s m args below meth c H locs cells slots Qg (F0 m pc ls (.int i :: .ref q :: rest)) := by
  obtain ⟨j, hj⟩ := p_at8 hO hT
  exact va_aldq hx hb hE.1.1 hP j 4 hj rfl hin hdg kk
theorem p_alen8 (hx : p.tables.exec = Jvm.exec) (hb : c.code = cc) (hE : pE G A s s.heap) (hP : va_P G.1 pCl w H) (hO : OKP G h0 a F R Z B J K w) (hT : K.1 q = 8) (hdg : decode cc pc = .ok (.arraylength, 1))
    (kk : W p l e Rm s m args below meth c H locs cells slots Qg (F0 m (pc + 1) ls (.int 37 :: rest))) : W p l e Rm s m args below meth c H locs cells slots Qg (F0 m pc ls (.ref q :: rest)) := by
  obtain ⟨j, hj⟩ := p_at8 hO hT
  exact va_alen hx hb hE.1.1 hP j 4 hj rfl rfl hdg kk
theorem p_ast8 {Tc : u_T} {N ci v : Nat} {vs : List Value} {i : Int32} (hx : p.tables.exec = Jvm.exec) (hb : c.code = cc) (hE : pE G A s s.heap) (hP : va_P G.1 pCl w H) (hD : va_D A w) (hS : va_S A s.heap H locs) (hO : OKP G h0 a F R Z B J K w) (hT : K.1 q = 8) (hv : ¬ K.1 v = 0) (hrv : rep G a K v = .inr (ci, vs)) (hc : pCl[ci]? = some ("JinjaTongue$Decl", Tc, N)) (hin : vp_in i 37) (hdg : decode cc pc = .ok (.aastore, 1))
    (kk : ∀ (H1 : Heap) (locs1 : List Loc) (w1 : va_W), va_P G.1 pCl w1 H1 → va_D A w1 → va_S A s.heap H1 locs1 → OKP G h0 a F R Z B J (kE K q (va_up (K.2.2.2.2.1 q) i.toNatClampNeg (some v))) w1 → W p l e Rm s m args below meth c H1 locs1 cells slots Qg (F0 m (pc + 1) ls rest)) : W p l e Rm s m args below meth c H locs cells slots Qg (F0 m pc ls (.ref v :: .int i :: .ref q :: rest)) := by
  obtain ⟨j, hj⟩ := p_at8 hO hT
  obtain ⟨k, hk⟩ := p_recv hO hv hrv
  obtain ⟨cell, z1, z2, z3⟩ := va_recv hE.1.1 hP hc hk
  have hca : pCa "JinjaTongue$Decl" "JinjaTongue$Decl" s := ⟨cell.cls, cell.cls, z3, z3, va_asg _ _⟩
  refine va_astqO (r := ("JinjaTongue$Decl", Tc, N)) hx hb hE.1.1 hP hD hS j 4 k ci hj rfl hca.use hk hc hin hdg (fun H1 locs1 h1 h2 h3 => kk H1 locs1 _ h1 h2 h3 ?_)
  refine OKW.pput (Pi' := fun p x => x = rep G a (kE K q (va_up (K.2.2.2.2.1 q) i.toNatClampNeg (some v))) p) hO hD hj (by rw [hT]; decide) ?_ ?_
  · rw [rep_8 (show (kE K q (va_up (K.2.2.2.2.1 q) i.toNatClampNeg (some v))).1 q = 8 from hT)]
    show _ = Sum.inl (_, _, _)
    unfold kE
    simp only [if_true]
  · intro p x hp hx
    exact hx.trans (rep_kE hp).symm
theorem p_new8 {own : String} {index : Nat} {k : Int32} (hx : p.tables.exec = Jvm.exec) (hb : c.code = cc) (hown : s.vm.findClass own = some m.cls) (hcl : (Cond.classLink own index "JinjaTongue$Decl").before args s = true) (hE : pE G A s s.heap) (hP : va_P G.1 pCl w H) (hD : va_D A w) (hS : va_S A s.heap H locs) (hA : ∀ q, s.heap.size ≤ q → A q) (hO : OKP G h0 a F R Z B J K w) (hn : ¬ k < 0) (hN : k.toNatClampNeg = 37) (hcells : cells + 1 ≤ Rm.cells) (hslots : slots + 37 ≤ Rm.slots) (hdg : decode cc pc = .ok (.anewarray index, 3))
    (kk : ∀ (q : Nat) (H1 : Heap) (w1 : va_W), K.1 q = 0 → va_P G.1 pCl w1 H1 → va_D A w1 → va_S A s.heap H1 locs → OKP G h0 a F R Z B J (kN K q 8 37) w1 → W p l e Rm s m args below meth c H1 locs (cells + 1) (slots + 37) Qg (F0 m (pc + 3) ls (.ref q :: rest))) : W p l e Rm s m args below meth c H locs cells slots Qg (F0 m pc ls (.int k :: rest)) := by
  refine pn_newq (C := "JinjaTongue$Decl") (cA0 := G.2.1 4) hx hb hown hcl hE.pc.2.2.2.1 hE.1.2.2.2.2.2.1 hE.1.1 hP hD hS hA hn hN (by decide) hcells hslots hdg (fun q H1 h1 h2 h3 => kk q H1 _ (OKW.fresh hO h2) h1 h2 h3 (OKP.new hO h2 (by decide) ?_))
  rw [rep_8 (show (kN K q 8 37).1 q = 8 from if_pos rfl)]
  unfold kN
  simp only [if_true]
theorem p_cast {own C : String} {Tc : u_T} {N ci index : Nat} {fs : List Value} (hx : p.tables.exec = Jvm.exec) (hb : c.code = cc) (hown : s.vm.findClass own = some m.cls) (hlink : (Cond.classLink own index C).before args s = true) (hE : pE G A s s.heap) (hP : va_P G.1 pCl w H) (hO : OKP G h0 a F R Z B J K w) (hT : ¬ K.1 q = 0) (hr : rep G a K q = .inr (ci, fs)) (hc : pCl[ci]? = some (C, Tc, N)) (hdg : decode cc pc = .ok (.checkcast index, 3))
    (kk : W p l e Rm s m args below meth c H locs cells slots Qg (F0 m (pc + 3) ls (.ref q :: rest))) : W p l e Rm s m args below meth c H locs cells slots Qg (F0 m pc ls (.ref q :: rest)) := by
  obtain ⟨k, hk⟩ := p_recv hO hT hr
  obtain ⟨cell, z1, z2, z3⟩ := va_recv hE.1.1 hP hc hk
  exact va_castE hx hb hown hlink ⟨cell, z1, z2, z3⟩ hdg kk
end DE
