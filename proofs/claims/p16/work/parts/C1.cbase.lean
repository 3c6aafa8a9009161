/-- our world: the things of which there is one are as told, what is else of kind T q is as Pi says -/
def OKW (G : pT) (h0 : Nat) (a : Nat → Nat) (F : Nat → Int32) (R : Nat → Value) (Z : Int64) (B : Nat → Nat → Int32) (J : Nat → Nat → Int64) (T : Nat → Nat) (Pi : Nat → va_E → Prop) (w : va_W) : Prop :=
  va_D (fun _ => True) (sgl G h0 a F R Z B J) ∧ (∀ (k : Nat) (x : Nat × va_E), (sgl G h0 a F R Z B J)[k]? = some x → T x.1 = 0 ∧ ∃ i : Nat, w[i]? = some x) ∧ (∀ (i : Nat) (x : Nat × va_E), w[i]? = some x → ¬ T x.1 = 0 → Pi x.1 x.2) ∧ ∀ q : Nat, ¬ T q = 0 → ∃ (i : Nat) (y : va_E), w[i]? = some (q, y)
section CB
variable {G : pT} {h0 : Nat} {a : Nat → Nat} {F F' : Nat → Int32} {R R' : Nat → Value} {Z Z' : Int64} {B B' : Nat → Nat → Int32} {J J' : Nat → Nat → Int64} {T : Nat → Nat} {Pi : Nat → va_E → Prop} {w : va_W} {A : Nat → Prop}
theorem OKW.to (hO : OKW G h0 a F R Z B J T Pi w) (e : sgl G h0 a F R Z B J = sgl G h0 a F' R' Z' B' J') : OKW G h0 a F' R' Z' B' J' T Pi w := by
  unfold OKW at hO ⊢
  rw [← e]; exact hO
theorem OKW.put (hO : OKW G h0 a F R Z B J T Pi w) {k i q : Nat} {x0 x1 : va_E} (hk : (sgl G h0 a F R Z B J)[k]? = some (q, x0)) (hi : w[i]? = some (q, x0)) (hs : (sgl G h0 a F R Z B J).set k (q, x1) = sgl G h0 a F' R' Z' B' J') : OKW G h0 a F' R' Z' B' J' T Pi (w.set i (q, x1)) := by
  obtain ⟨o1, o2, o3, o4⟩ := hO
  have hT := (o2 k _ hk).1
  have hki : k < (sgl G h0 a F R Z B J).length := (List.getElem?_eq_some_iff.mp hk).1
  have hil : i < w.length := (List.getElem?_eq_some_iff.mp hi).1
  refine ⟨by rw [← hs]; exact o1.set hk, fun j x hj => ?_, fun j x hj ht => ?_, fun p ht => ?_⟩
  · rw [← hs] at hj
    by_cases e : j = k
    · subst e
      rw [List.getElem?_set_self hki] at hj
      cases hj
      exact ⟨hT, i, List.getElem?_set_self hil⟩
    · rw [List.getElem?_set_ne (Ne.symm e)] at hj
      obtain ⟨t, i2, h2⟩ := o2 j x hj
      refine ⟨t, i2, ?_⟩
      rw [List.getElem?_set_ne (fun z => ?_)]
      · exact h2
      · subst z
        have z2 : x = (q, x0) := Option.some.inj (h2.symm.trans hi)
        exact e (o1.1 j k x (q, x0) hj hk (by rw [z2]))
  · by_cases e : i = j
    · subst e
      rw [List.getElem?_set_self hil] at hj
      cases hj
      exact absurd hT ht
    · rw [List.getElem?_set_ne e] at hj
      exact o3 j x hj ht
  · obtain ⟨i2, y, h2⟩ := o4 p ht
    by_cases e : i = i2
    · subst e
      have z2 : (p, y) = (q, x0) := Option.some.inj (h2.symm.trans hi)
      have z3 : p = q := congrArg Prod.fst z2
      subst z3
      exact absurd hT ht
    · exact ⟨i2, y, by rw [List.getElem?_set_ne e]; exact h2⟩
end CB
section CR
variable {p : Program} {l : Launch} {e : Env} {Rm : Room} {s : State} {m : MethodId} {args : Array Value} {below : List Frame} {meth : Method} {c : Code} {H : Heap} {locs : List Loc} {cells slots : Nat} {Qg : State → Prop}
variable {cc : ByteArray} {pc q : Nat} {ls : Array Slot} {rest : List Value} {A : Nat → Prop}
variable {G : pT} {h0 : Nat} {a : Nat → Nat} {F F' : Nat → Int32} {R R' : Nat → Value} {Z Z' : Int64} {B B' : Nat → Nat → Int32} {J J' : Nat → Nat → Int64} {T : Nat → Nat} {Pi : Nat → va_E → Prop} {w : va_W}
/-- a field of a thing of which there is one -/
theorem c_get {own ref C : String} {Tc : u_T} {N ci index : Nat} {v : Value} {fs : List Value} (hx : p.tables.exec = Jvm.exec) (hb : c.code = cc) (hq : ∀ w ∈ pw, w.before args s = true) (hin : ∀ w ∈ u_ws C Tc N, w ∈ pw) (hown : s.vm.findClass own = some m.cls) (hE : pE G A s s.heap) (hP : va_P G.1 pCl w H) (hO : OKW G h0 a F R Z B J T Pi w) (pl : Nat) (hpl : (sgl G h0 a F R Z B J)[pl]? = some (q, .inr (ci, fs))) (hc : pCl[ci]? = some (C, Tc, N)) (k : Nat) (hk : k < N) (hlink : (Cond.fieldLink own index ref (Tc k).2.1 (Tc k).2.2.1).before args s = true) (hsame : ∀ x, s.fieldFound? (Tc k).1 (Tc k).2.1 (Tc k).2.2.1 = some x → s.fieldFound? ref (Tc k).2.1 (Tc k).2.2.1 = some x) (hv : fs[k]? = some v) (hdg : decode cc pc = .ok (.getfield index, 3))
    (kk : W p l e Rm s m args below meth c H locs cells slots Qg (F0 m (pc + 3) ls (v :: rest))) : W p l e Rm s m args below meth c H locs cells slots Qg (F0 m pc ls (.ref q :: rest)) := by
  obtain ⟨_, i, hi⟩ := hO.2.1 pl _ hpl
  exact va_get (D := G.1) hx hb hq hin hown hE.1.1 hP i hi hc k hk hlink hsame hv hdg kk
theorem c_put {own ref C : String} {Tc : u_T} {N ci index : Nat} {v : Value} {fs : List Value} {ty : FieldType} (hx : p.tables.exec = Jvm.exec) (hb : c.code = cc) (hq : ∀ w ∈ pw, w.before args s = true) (hin : ∀ w ∈ u_ws C Tc N, w ∈ pw) (ty0 : Nat → FieldType) (hty : ∀ k, k < N → parseFieldDescriptor (Tc k).2.2.1 = some (ty0 k)) (hnm : ∀ a, a < N → ∀ b, b < N → a ≠ b → (Tc a).2.1 ≠ (Tc b).2.1) (hown : s.vm.findClass own = some m.cls) (hE : pE G A s s.heap) (hP : va_P G.1 pCl w H) (hD : va_D A w) (hS : va_S A s.heap H locs) (hO : OKW G h0 a F R Z B J T Pi w) (pl : Nat) (hpl : (sgl G h0 a F R Z B J)[pl]? = some (q, .inr (ci, fs))) (hc : pCl[ci]? = some (C, Tc, N)) (k : Nat) (hk : k < N) (hlink : (Cond.fieldLink own index ref (Tc k).2.1 (Tc k).2.2.1).before args s = true) (hsame : ∀ x, s.fieldFound? (Tc k).1 (Tc k).2.1 (Tc k).2.2.1 = some x → s.fieldFound? ref (Tc k).2.1 (Tc k).2.2.1 = some x) (hfin : (Tc k).2.2.2 = false) (hd : parseFieldDescriptor (Tc k).2.2.1 = some ty) (hn : narrow ty v = v) (hfit : fits ty v = true) (hl : k < fs.length) (hs : (sgl G h0 a F R Z B J).set pl (q, .inr (ci, fs.set k v)) = sgl G h0 a F' R' Z' B' J') (hdg : decode cc pc = .ok (.putfield index, 3))
    (kk : ∀ (H1 : Heap) (locs1 : List Loc) (w1 : va_W), va_P G.1 pCl w1 H1 → va_D A w1 → va_S A s.heap H1 locs1 → OKW G h0 a F' R' Z' B' J' T Pi w1 → W p l e Rm s m args below meth c H1 locs1 cells slots Qg (F0 m (pc + 3) ls rest)) : W p l e Rm s m args below meth c H locs cells slots Qg (F0 m pc ls (v :: .ref q :: rest)) := by
  obtain ⟨_, i, hi⟩ := hO.2.1 pl _ hpl
  exact va_put (D := G.1) hx hb hq hin ty0 hty hnm hown hE.1.1 hP hD hS i hi hc k hk hlink hsame hfin hd hn hfit hl hdg (fun H1 locs1 h1 h2 h3 => kk H1 locs1 _ h1 h2 h3 (hO.put hpl hi hs))
/-- elements -/
theorem c_ldi {n t0 : Nat} {cA : ClassId} {f : Nat → Int32} {x : Int32} (hx : p.tables.exec = Jvm.exec) (hb : c.code = cc) (hE : pE G A s s.heap) (hP : va_P G.1 pCl w H) (hO : OKW G h0 a F R Z B J T Pi w) (pl : Nat) (hpl : (sgl G h0 a F R Z B J)[pl]? = some (q, .inl (cA, n, .inl f))) (ht : (pTy G.2.1)[t0]? = some (cA, .int)) (hin : vp_in x n) (hdg : decode cc pc = .ok (.iaload, 1))
    (kk : W p l e Rm s m args below meth c H locs cells slots Qg (F0 m (pc + 1) ls (.int (f x.toNatClampNeg) :: rest))) : W p l e Rm s m args below meth c H locs cells slots Qg (F0 m pc ls (.int x :: .ref q :: rest)) := by
  obtain ⟨_, i, hi⟩ := hO.2.1 pl _ hpl
  exact va_iald hx hb hE.1.1 hP i t0 hi ht hin hdg kk
theorem c_ldb {n t0 : Nat} {cA : ClassId} {f : Nat → Int32} {x : Int32} (hx : p.tables.exec = Jvm.exec) (hb : c.code = cc) (hE : pE G A s s.heap) (hP : va_P G.1 pCl w H) (hO : OKW G h0 a F R Z B J T Pi w) (pl : Nat) (hpl : (sgl G h0 a F R Z B J)[pl]? = some (q, .inl (cA, n, .inl f))) (ht : (pTy G.2.1)[t0]? = some (cA, .byte)) (hin : vp_in x n) (hdg : decode cc pc = .ok (.baload, 1))
    (kk : W p l e Rm s m args below meth c H locs cells slots Qg (F0 m (pc + 1) ls (.int (f x.toNatClampNeg) :: rest))) : W p l e Rm s m args below meth c H locs cells slots Qg (F0 m pc ls (.int x :: .ref q :: rest)) := by
  obtain ⟨_, i, hi⟩ := hO.2.1 pl _ hpl
  exact va_bald hx hb hE.1.1 hP i t0 hi ht hin hdg kk
theorem c_ldl {n t0 : Nat} {cA : ClassId} {f : Nat → Int64} {x : Int32} (hx : p.tables.exec = Jvm.exec) (hb : c.code = cc) (hE : pE G A s s.heap) (hP : va_P G.1 pCl w H) (hO : OKW G h0 a F R Z B J T Pi w) (pl : Nat) (hpl : (sgl G h0 a F R Z B J)[pl]? = some (q, .inl (cA, n, .inr (.inl f)))) (ht : (pTy G.2.1)[t0]? = some (cA, .long)) (hin : vp_in x n) (hdg : decode cc pc = .ok (.laload, 1))
    (kk : W p l e Rm s m args below meth c H locs cells slots Qg (F0 m (pc + 1) ls (.long (f x.toNatClampNeg) :: rest))) : W p l e Rm s m args below meth c H locs cells slots Qg (F0 m pc ls (.int x :: .ref q :: rest)) := by
  obtain ⟨_, i, hi⟩ := hO.2.1 pl _ hpl
  exact va_lald hx hb hE.1.1 hP i t0 hi ht hin hdg kk
theorem c_sti {n t0 : Nat} {cA : ClassId} {f : Nat → Int32} {x y : Int32} (hx : p.tables.exec = Jvm.exec) (hb : c.code = cc) (hE : pE G A s s.heap) (hP : va_P G.1 pCl w H) (hD : va_D A w) (hS : va_S A s.heap H locs) (hO : OKW G h0 a F R Z B J T Pi w) (pl : Nat) (hpl : (sgl G h0 a F R Z B J)[pl]? = some (q, .inl (cA, n, .inl f))) (ht : (pTy G.2.1)[t0]? = some (cA, .int)) (hin : vp_in x n) (hs : (sgl G h0 a F R Z B J).set pl (q, .inl (cA, n, .inl (upd f x.toNatClampNeg y))) = sgl G h0 a F R Z B' J) (hdg : decode cc pc = .ok (.iastore, 1))
    (kk : ∀ (H1 : Heap) (locs1 : List Loc) (w1 : va_W), va_P G.1 pCl w1 H1 → va_D A w1 → va_S A s.heap H1 locs1 → OKW G h0 a F R Z B' J T Pi w1 → W p l e Rm s m args below meth c H1 locs1 cells slots Qg (F0 m (pc + 1) ls rest)) : W p l e Rm s m args below meth c H locs cells slots Qg (F0 m pc ls (.int y :: .int x :: .ref q :: rest)) := by
  obtain ⟨_, i, hi⟩ := hO.2.1 pl _ hpl
  exact va_iast hx hb hE.1.1 hP hD hS i t0 hi ht hin hdg (fun H1 locs1 h1 h2 h3 => kk H1 locs1 _ h1 h2 h3 (hO.put hpl hi hs))
theorem c_stb {n t0 : Nat} {cA : ClassId} {f : Nat → Int32} {x y : Int32} (hx : p.tables.exec = Jvm.exec) (hb : c.code = cc) (hE : pE G A s s.heap) (hP : va_P G.1 pCl w H) (hD : va_D A w) (hS : va_S A s.heap H locs) (hO : OKW G h0 a F R Z B J T Pi w) (pl : Nat) (hpl : (sgl G h0 a F R Z B J)[pl]? = some (q, .inl (cA, n, .inl f))) (ht : (pTy G.2.1)[t0]? = some (cA, .byte)) (hin : vp_in x n) (hs : (sgl G h0 a F R Z B J).set pl (q, .inl (cA, n, .inl (upd f x.toNatClampNeg (vp_nar .byte y)))) = sgl G h0 a F R Z B' J) (hdg : decode cc pc = .ok (.bastore, 1))
    (kk : ∀ (H1 : Heap) (locs1 : List Loc) (w1 : va_W), va_P G.1 pCl w1 H1 → va_D A w1 → va_S A s.heap H1 locs1 → OKW G h0 a F R Z B' J T Pi w1 → W p l e Rm s m args below meth c H1 locs1 cells slots Qg (F0 m (pc + 1) ls rest)) : W p l e Rm s m args below meth c H locs cells slots Qg (F0 m pc ls (.int y :: .int x :: .ref q :: rest)) := by
  obtain ⟨_, i, hi⟩ := hO.2.1 pl _ hpl
  exact va_bast hx hb hE.1.1 hP hD hS i t0 hi ht hin hdg (fun H1 locs1 h1 h2 h3 => kk H1 locs1 _ h1 h2 h3 (hO.put hpl hi hs))
theorem c_stl {n t0 : Nat} {cA : ClassId} {f : Nat → Int64} {x : Int32} {y : Int64} (hx : p.tables.exec = Jvm.exec) (hb : c.code = cc) (hE : pE G A s s.heap) (hP : va_P G.1 pCl w H) (hD : va_D A w) (hS : va_S A s.heap H locs) (hO : OKW G h0 a F R Z B J T Pi w) (pl : Nat) (hpl : (sgl G h0 a F R Z B J)[pl]? = some (q, .inl (cA, n, .inr (.inl f)))) (ht : (pTy G.2.1)[t0]? = some (cA, .long)) (hin : vp_in x n) (hs : (sgl G h0 a F R Z B J).set pl (q, .inl (cA, n, .inr (.inl (vp_updL f x.toNatClampNeg y)))) = sgl G h0 a F R Z B J') (hdg : decode cc pc = .ok (.lastore, 1))
    (kk : ∀ (H1 : Heap) (locs1 : List Loc) (w1 : va_W), va_P G.1 pCl w1 H1 → va_D A w1 → va_S A s.heap H1 locs1 → OKW G h0 a F R Z B J' T Pi w1 → W p l e Rm s m args below meth c H1 locs1 cells slots Qg (F0 m (pc + 1) ls rest)) : W p l e Rm s m args below meth c H locs cells slots Qg (F0 m pc ls (.long y :: .int x :: .ref q :: rest)) := by
  obtain ⟨_, i, hi⟩ := hO.2.1 pl _ hpl
  exact va_last hx hb hE.1.1 hP hD hS i t0 hi ht hin hdg (fun H1 locs1 h1 h2 h3 => kk H1 locs1 _ h1 h2 h3 (hO.put hpl hi hs))
theorem c_len {n t0 : Nat} {cA : ClassId} {x : vp_A} {ty : FieldType} {v : Int32} (hx : p.tables.exec = Jvm.exec) (hb : c.code = cc) (hE : pE G A s s.heap) (hP : va_P G.1 pCl w H) (hO : OKW G h0 a F R Z B J T Pi w) (pl : Nat) (hpl : (sgl G h0 a F R Z B J)[pl]? = some (q, .inl (cA, x))) (ht : (pTy G.2.1)[t0]? = some (cA, ty)) (hv : Int32.ofNat x.1 = v) (hdg : decode cc pc = .ok (.arraylength, 1))
    (kk : W p l e Rm s m args below meth c H locs cells slots Qg (F0 m (pc + 1) ls (.int v :: rest))) : W p l e Rm s m args below meth c H locs cells slots Qg (F0 m pc ls (.ref q :: rest)) := by
  obtain ⟨_, i, hi⟩ := hO.2.1 pl _ hpl
  exact va_alen hx hb hE.1.1 hP i t0 hi ht hv hdg kk
end CR
section CS
variable {p : Program} {l : Launch} {e : Env} {R : Room} {s : State} {m : MethodId} {args : Array Value} {below : List Frame} {meth : Method} {c : Code} {H : Heap} {locs : List Loc} {cells slots : Nat} {Qg : State → Prop}
variable {cc bytes : ByteArray} {pc nL maxL mc ms idx n : Nat} {ls : Array Slot} {st0 rest As : List Value} {A0 : Nat → Prop} {ws : va_W} {G : pT} {X : State → Prop} {own : String} {y : MethodName} {ret : Option FieldType} {rm : Room}
/-- invokestatic, the whole world -/
theorem pc_S0 {S : Type} {Q : Option Value → S → Prop} {w1 : S → va_W} (hx : p.tables.exec = Jvm.exec) (hb : c.code = cc) (hml : c.maxLocals = nL) (hown : s.vm.findClass own = some m.cls) (hq : ∀ w ∈ pw, w.before args s = true) (hE : pE G A0 s s.heap) (hX : X s) (hXm : pAl X)
    (hP : va_P G.1 pCl ws H) (hD : va_D A0 ws) (hS : va_S A0 s.heap H locs) (hA : ∀ q, s.heap.size ≤ q → A0 q) (hl : ls.size = nL)
    (hM : PM l G X y bytes maxL ret rm As ws Q w1) (g : GoodIn pw (va_wsS own idx y (Cond.code y bytes maxL ret :: pw)))
    (hd : y.cls ≠ "java/lang/invoke/MethodHandle" ∧ y.cls ≠ "java/lang/invoke/VarHandle" ∧ (parseMethodDescriptor y.desc).map (fun d => d.parameters.length) = some As.length)
    (hst : st0 = As.reverse ++ rest) (hW : (rest.map fun v => v.category).sum ≤ 8) (hdg : decode cc pc = .ok (.invokestatic idx, 3)) (hf : cells + rm.cells ≤ R.cells ∧ slots + rm.slots ≤ R.slots) (hRm : rm.frames + 1 ≤ R.frames ∧ 8 + (maxL + 11) + rm.locals ≤ R.locals)
    (kk : ∀ (v : Option Value) (u : S) (H1 : Heap) (locs1 : List Loc), Q v u → va_P G.1 pCl (w1 u) H1 → va_D A0 (w1 u) → va_S A0 s.heap H1 locs1 → W p l e R s m args below meth c H1 locs1 (cells + rm.cells) (slots + rm.slots) Qg (F0 m (pc + 3) ls (v.toList ++ rest))) : W p l e R s m args below meth c H locs cells slots Qg (F0 m pc ls st0) := by
  subst hst
  exact pc_go0 (va_runS (As := As) (rest := rest) ⟨hx, hb, hml, hown, hq⟩ (hM H.size) (va_cwS As.length hq g rfl rfl rfl hd hRm) ⟨pPc.blind hXm, pc_pre0 (av := As) hE hX hXm hP hD hS hA⟩ rfl rfl hl rfl (lv_room hW) hdg hf) hD hS hA kk
end CS
section CP
variable {p : Program} {l : Launch} {e : Env} {Rm : Room} {s : State} {m : MethodId} {args : Array Value} {below : List Frame} {meth : Method} {c : Code} {H : Heap} {locs : List Loc} {cells slots : Nat} {Qg : State → Prop}
variable {cc : ByteArray} {pc q r : Nat} {ls : Array Slot} {rest : List Value} {A : Nat → Prop}
variable {G : pT} {h0 : Nat} {a : Nat → Nat} {F : Nat → Int32} {R : Nat → Value} {Z : Int64} {B B' : Nat → Nat → Int32} {J J' : Nat → Nat → Int64} {T : Nat → Nat} {Pi : Nat → va_E → Prop} {w : va_W}
/-- arraycopy of bytes between two rows -/
theorem c_copyb {own : String} {index n0 n1 : Nat} {f g : Nat → Int32} {sp dp n : Int32} (hx : p.tables.exec = Jvm.exec) (hb : c.code = cc) (hml : c.maxLocals = ls.size) (hown : s.vm.findClass own = some m.cls) (hlink : (Cond.methodLink own index arraycopyName).before args s = true) (hnat : (Cond.native arraycopyName).before args s = true) (hstat : (Cond.static arraycopyName).before args s = true) (hini : (Cond.initialized "java/lang/System").before args s = true)
    (hE : pE G A s s.heap) (hP : va_P G.1 pCl w H) (hD : va_D A w) (hS : va_S A s.heap H locs) (hO : OKW G h0 a F R Z B J T Pi w) (p0 p1 : Nat) (hp0 : (sgl G h0 a F R Z B J)[p0]? = some (q, .inl (G.2.1 1, n0, .inl f))) (hp1 : (sgl G h0 a F R Z B J)[p1]? = some (r, .inl (G.2.1 1, n1, .inl g)))
    (h1 : ¬ sp < 0) (h2 : ¬ dp < 0) (h3 : ¬ n < 0) (h4 : sp.toNatClampNeg + n.toNatClampNeg ≤ n0) (h5 : dp.toNatClampNeg + n.toNatClampNeg ≤ n1) (hfit : ∀ i : Nat, fits .byte (.int (f i)) = true)
    (hframes : 1 ≤ Rm.frames) (hlocals : (rest.map fun v => v.category).sum + (nativeFrameWords "java/lang/System" "arraycopy" 5 + 11) ≤ Rm.locals) (hs : (sgl G h0 a F R Z B J).set p1 (r, .inl (G.2.1 1, n1, .inl (va_cpy f g sp.toNatClampNeg dp.toNatClampNeg n.toNatClampNeg))) = sgl G h0 a F R Z B' J) (hdg : decode cc pc = .ok (.invokestatic index, 3))
    (kk : ∀ (H1 : Heap) (locs1 : List Loc) (w1 : va_W), va_P G.1 pCl w1 H1 → va_D A w1 → va_S A s.heap H1 locs1 → OKW G h0 a F R Z B' J T Pi w1 → W p l e Rm s m args below meth c H1 locs1 cells slots Qg (F0 m (pc + 3) ls rest)) : W p l e Rm s m args below meth c H locs cells slots Qg (F0 m pc ls (.int n :: .int dp :: .ref r :: .int sp :: .ref q :: rest)) := by
  obtain ⟨_, i, hi⟩ := hO.2.1 p0 _ hp0
  obtain ⟨_, j, hj⟩ := hO.2.1 p1 _ hp1
  exact va_copyi (own := own) hx hb hml hown hlink hnat hstat hini hE.1.1 hP hD hS i j 1 1 hi hj rfl rfl rfl h1 h2 h3 h4 h5 (fun k _ => hfit _) hframes hlocals hdg (fun H1 locs1 g1 g2 g3 => kk H1 locs1 _ g1 g2 g3 (hO.put hp1 hj hs))
/-- arraycopy of longs between two rows -/
theorem c_copyl {own : String} {index n0 n1 : Nat} {f g : Nat → Int64} {sp dp n : Int32} (hx : p.tables.exec = Jvm.exec) (hb : c.code = cc) (hml : c.maxLocals = ls.size) (hown : s.vm.findClass own = some m.cls) (hlink : (Cond.methodLink own index arraycopyName).before args s = true) (hnat : (Cond.native arraycopyName).before args s = true) (hstat : (Cond.static arraycopyName).before args s = true) (hini : (Cond.initialized "java/lang/System").before args s = true)
    (hE : pE G A s s.heap) (hP : va_P G.1 pCl w H) (hD : va_D A w) (hS : va_S A s.heap H locs) (hO : OKW G h0 a F R Z B J T Pi w) (p0 p1 : Nat) (hp0 : (sgl G h0 a F R Z B J)[p0]? = some (q, .inl (G.2.1 2, n0, .inr (.inl f)))) (hp1 : (sgl G h0 a F R Z B J)[p1]? = some (r, .inl (G.2.1 2, n1, .inr (.inl g))))
    (h1 : ¬ sp < 0) (h2 : ¬ dp < 0) (h3 : ¬ n < 0) (h4 : sp.toNatClampNeg + n.toNatClampNeg ≤ n0) (h5 : dp.toNatClampNeg + n.toNatClampNeg ≤ n1)
    (hframes : 1 ≤ Rm.frames) (hlocals : (rest.map fun v => v.category).sum + (nativeFrameWords "java/lang/System" "arraycopy" 5 + 11) ≤ Rm.locals) (hs : (sgl G h0 a F R Z B J).set p1 (r, .inl (G.2.1 2, n1, .inr (.inl (va_cpy f g sp.toNatClampNeg dp.toNatClampNeg n.toNatClampNeg)))) = sgl G h0 a F R Z B J') (hdg : decode cc pc = .ok (.invokestatic index, 3))
    (kk : ∀ (H1 : Heap) (locs1 : List Loc) (w1 : va_W), va_P G.1 pCl w1 H1 → va_D A w1 → va_S A s.heap H1 locs1 → OKW G h0 a F R Z B J' T Pi w1 → W p l e Rm s m args below meth c H1 locs1 cells slots Qg (F0 m (pc + 3) ls rest)) : W p l e Rm s m args below meth c H locs cells slots Qg (F0 m pc ls (.int n :: .int dp :: .ref r :: .int sp :: .ref q :: rest)) := by
  obtain ⟨_, i, hi⟩ := hO.2.1 p0 _ hp0
  obtain ⟨_, j, hj⟩ := hO.2.1 p1 _ hp1
  exact va_copyl (own := own) hx hb hml hown hlink hnat hstat hini hE.1.1 hP hD hS i j 2 2 hi hj rfl rfl rfl h1 h2 h3 h4 h5 (fun _ _ => rfl) hframes hlocals hdg (fun H1 locs1 g1 g2 g3 => kk H1 locs1 _ g1 g2 g3 (hO.put hp1 hj hs))
end CP
