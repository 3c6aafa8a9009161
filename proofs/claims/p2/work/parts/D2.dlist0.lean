section DL
variable {p : Program} {l : Launch} {e : Env} {Rm : Room} {s : State} {m : MethodId} {args : Array Value} {below : List Frame} {meth : Method} {c : Code} {H : Heap} {locs : List Loc} {cells slots : Nat} {Qg : State → Prop}
variable {cc : ByteArray} {pc q : Nat} {ls : Array Slot} {rest : List Value} {A : Nat → Prop}
variable {G : pT} {h0 : Nat} {a : Nat → Nat} {F : Nat → Int32} {R : Nat → Value} {Z : Int64} {B : Nat → Nat → Int32} {J : Nat → Nat → Int64} {w : va_W} {K : PK}
theorem p_at6 (hO : OKP G h0 a F R Z B J K w) (hT : K.1 q = 6) : ∃ i : Nat, w[i]? = some (q, .inl (G.2.1 5, K.2.2.2.2.2 q, .inr (.inr (.inr (.inr (K.2.2.2.2.1 q)))))) := by
  obtain ⟨i, y, hi⟩ := hO.2.2.2 q (by rw [hT]; decide)
  have e1 : y = .inl (G.2.1 5, K.2.2.2.2.2 q, .inr (.inr (.inr (.inr (K.2.2.2.2.1 q))))) := (hO.2.2.1 i _ hi (by rw [hT]; decide)).trans (rep_6 hT)
  subst e1
  exact ⟨i, hi⟩
theorem p_ald {i : Int32} (hx : p.tables.exec = Jvm.exec) (hb : c.code = cc) (hE : pE G A s s.heap) (hP : va_P G.1 pCl w H) (hO : OKP G h0 a F R Z B J K w) (hT : K.1 q = 6) (hin : vp_in i (K.2.2.2.2.2 q)) (hdg : decode cc pc = .ok (.aaload, 1))
    (kk : W p l e Rm s m args below meth c H locs cells slots Qg (F0 m (pc + 1) ls (va_rf (K.2.2.2.2.1 q i.toNatClampNeg) :: rest))) : W p l e Rm s m args below meth c H locs cells slots Qg (F0 m pc ls (.int i :: .ref q :: rest)) := by
  obtain ⟨j, hj⟩ := p_at6 hO hT
  exact va_aldq hx hb hE.1.1 hP j 5 hj rfl hin hdg kk
theorem p_alen (hx : p.tables.exec = Jvm.exec) (hb : c.code = cc) (hE : pE G A s s.heap) (hP : va_P G.1 pCl w H) (hO : OKP G h0 a F R Z B J K w) (hT : K.1 q = 6) (hdg : decode cc pc = .ok (.arraylength, 1))
    (kk : W p l e Rm s m args below meth c H locs cells slots Qg (F0 m (pc + 1) ls (.int (nI (K.2.2.2.2.2 q)) :: rest))) : W p l e Rm s m args below meth c H locs cells slots Qg (F0 m pc ls (.ref q :: rest)) := by
  obtain ⟨j, hj⟩ := p_at6 hO hT
  exact va_alen hx hb hE.1.1 hP j 5 hj rfl rfl hdg kk
theorem p_ast {C : String} {Tc : u_T} {N ci v : Nat} {vs : List Value} {i : Int32} (hx : p.tables.exec = Jvm.exec) (hb : c.code = cc) (hE : pE G A s s.heap) (hP : va_P G.1 pCl w H) (hD : va_D A w) (hS : va_S A s.heap H locs) (hO : OKP G h0 a F R Z B J K w) (hT : K.1 q = 6) (hv : ¬ K.1 v = 0) (hrv : rep G a K v = .inr (ci, vs)) (hc : pCl[ci]? = some (C, Tc, N)) (hca : pCa C "java/lang/Object" s) (hin : vp_in i (K.2.2.2.2.2 q)) (hdg : decode cc pc = .ok (.aastore, 1))
    (kk : ∀ (H1 : Heap) (locs1 : List Loc) (w1 : va_W), va_P G.1 pCl w1 H1 → va_D A w1 → va_S A s.heap H1 locs1 → OKP G h0 a F R Z B J (kE K q (va_up (K.2.2.2.2.1 q) i.toNatClampNeg (some v))) w1 → W p l e Rm s m args below meth c H1 locs1 cells slots Qg (F0 m (pc + 1) ls rest)) : W p l e Rm s m args below meth c H locs cells slots Qg (F0 m pc ls (.ref v :: .int i :: .ref q :: rest)) := by
  obtain ⟨j, hj⟩ := p_at6 hO hT
  obtain ⟨k, hk⟩ := p_recv hO hv hrv
  refine va_astqO (r := (C, Tc, N)) hx hb hE.1.1 hP hD hS j 5 k ci hj rfl hca.use hk hc hin hdg (fun H1 locs1 h1 h2 h3 => kk H1 locs1 _ h1 h2 h3 ?_)
  refine OKW.pput (Pi' := fun p x => x = rep G a (kE K q (va_up (K.2.2.2.2.1 q) i.toNatClampNeg (some v))) p) hO hD hj (by rw [hT]; decide) ?_ ?_
  · rw [rep_6 (show (kE K q (va_up (K.2.2.2.2.1 q) i.toNatClampNeg (some v))).1 q = 6 from hT)]
    show _ = Sum.inl (_, _, _)
    unfold kE
    simp only [if_true]
  · intro p x hp hx
    exact hx.trans (rep_kE hp).symm
end DL
