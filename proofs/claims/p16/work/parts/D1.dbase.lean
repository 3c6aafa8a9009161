/-- the world with what was made -/
abbrev OKP (G : pT) (h0 : Nat) (a : Nat → Nat) (F : Nat → Int32) (R : Nat → Value) (Z : Int64) (B : Nat → Nat → Int32) (J : Nat → Nat → Int64) (K : PK) (w : va_W) : Prop := OKW G h0 a F R Z B J K.1 (fun q x => x = rep G a K q) w
section DB
variable {G : pT} {h0 : Nat} {a : Nat → Nat} {F : Nat → Int32} {R : Nat → Value} {Z : Int64} {B : Nat → Nat → Int32} {J : Nat → Nat → Int64} {T : Nat → Nat} {Pi Pi' : Nat → va_E → Prop} {w : va_W} {A : Nat → Prop} {K : PK}
theorem OKW.pput (hO : OKW G h0 a F R Z B J T Pi w) (hD : va_D A w) {i q : Nat} {x0 x1 : va_E} (hi : w[i]? = some (q, x0)) (hq : ¬ T q = 0) (h1 : Pi' q x1) (h2 : ∀ (p : Nat) (x : va_E), ¬ p = q → Pi p x → Pi' p x) : OKW G h0 a F R Z B J T Pi' (w.set i (q, x1)) := by
  obtain ⟨o1, o2, o3, o4⟩ := hO
  have hil : i < w.length := (List.getElem?_eq_some_iff.mp hi).1
  refine ⟨o1, fun k x hk => ?_, fun j x hj ht => ?_, fun p hp => ?_⟩
  · obtain ⟨t, i2, e2⟩ := o2 k x hk
    refine ⟨t, i2, ?_⟩
    rw [List.getElem?_set_ne (fun z => ?_)]
    · exact e2
    · subst z
      have z2 : x = (q, x0) := Option.some.inj (e2.symm.trans hi)
      rw [z2] at t
      exact hq t
  · by_cases z : i = j
    · subst z
      rw [List.getElem?_set_self hil] at hj
      cases hj
      exact h1
    · rw [List.getElem?_set_ne z] at hj
      refine h2 x.1 x.2 (fun e => ?_) (o3 j x hj ht)
      exact z (hD.1 i j _ _ hi hj e.symm)
  · obtain ⟨i2, y, e2⟩ := o4 p hp
    by_cases z : i = i2
    · subst z
      have z2 : (p, y) = (q, x0) := Option.some.inj (e2.symm.trans hi)
      have z3 : p = q := congrArg Prod.fst z2
      exact ⟨i, x1, by rw [z3]; exact List.getElem?_set_self hil⟩
    · exact ⟨i2, y, by rw [List.getElem?_set_ne z]; exact e2⟩
theorem OKW.fresh {q : Nat} {x : va_E} (hO : OKW G h0 a F R Z B J T Pi w) (hD : va_D A (w ++ [(q, x)])) : T q = 0 := by
  refine Classical.byContradiction fun h => ?_
  obtain ⟨i, y, e⟩ := hO.2.2.2 q h
  have hl := (List.getElem?_eq_some_iff.mp e).1
  have e1 : (w ++ [(q, x)])[i]? = some (q, y) := by rw [List.getElem?_append_left hl]; exact e
  have e2 : (w ++ [(q, x)])[w.length]? = some (q, x) := by rw [List.getElem?_append_right (Nat.le_refl _), Nat.sub_self]; rfl
  have := hD.1 i w.length _ _ e1 e2 rfl
  omega
theorem OKP.new {q s n : Nat} {x : va_E} (hO : OKP G h0 a F R Z B J K w) (hD : va_D A (w ++ [(q, x)])) (hs : ¬ s = 0) (hx : x = rep G a (kN K q s n) q) : OKP G h0 a F R Z B J (kN K q s n) (w ++ [(q, x)]) := by
  have hf := OKW.fresh hO hD
  obtain ⟨o1, o2, o3, o4⟩ := hO
  refine ⟨o1, fun k y hk => ?_, fun j y hj ht => ?_, fun p hp => ?_⟩
  · obtain ⟨t, i, e⟩ := o2 k y hk
    have hl := (List.getElem?_eq_some_iff.mp e).1
    refine ⟨?_, i, by rw [List.getElem?_append_left hl]; exact e⟩
    show (if y.1 = q then s else K.1 y.1) = 0
    rw [if_neg (fun z => ?_)]
    · exact t
    · have e1 : (w ++ [(q, x)])[i]? = some y := by rw [List.getElem?_append_left hl]; exact e
      have e2 : (w ++ [(q, x)])[w.length]? = some (q, x) := by rw [List.getElem?_append_right (Nat.le_refl _), Nat.sub_self]; rfl
      have := hD.1 i w.length _ _ e1 e2 z
      omega
  · by_cases hl : j < w.length
    · rw [List.getElem?_append_left hl] at hj
      have hne : ¬ y.1 = q := fun z => by
        have e1 : (w ++ [(q, x)])[j]? = some y := by rw [List.getElem?_append_left hl]; exact hj
        have e2 : (w ++ [(q, x)])[w.length]? = some (q, x) := by rw [List.getElem?_append_right (Nat.le_refl _), Nat.sub_self]; rfl
        have := hD.1 j w.length _ _ e1 e2 z
        omega
      have ht' : ¬ K.1 y.1 = 0 := by
        have z : (kN K q s n).1 y.1 = K.1 y.1 := if_neg hne
        rw [← z]; exact ht
      exact (o3 j y hj ht').trans (rep_kN hne).symm
    · rw [List.getElem?_append_right (by omega)] at hj
      have hj0 : j - w.length = 0 := by
        refine Classical.byContradiction fun z => ?_
        rw [List.getElem?_eq_none (by show 1 ≤ _; omega)] at hj
        cases hj
      rw [hj0] at hj
      cases hj
      exact hx
  · by_cases z : p = q
    · subst z
      exact ⟨w.length, x, by rw [List.getElem?_append_right (Nat.le_refl _), Nat.sub_self]; rfl⟩
    · have ht : ¬ K.1 p = 0 := by
        have e : (kN K q s n).1 p = K.1 p := if_neg z
        rw [← e]; exact hp
      obtain ⟨i, y, e⟩ := o4 p ht
      exact ⟨i, y, by rw [List.getElem?_append_left (List.getElem?_eq_some_iff.mp e).1]; exact e⟩
/-- what is no more looked at -/
theorem OKW.drop (hO : OKW G h0 a F R Z B J T Pi w) : OKW G h0 a F R Z B J (fun _ => 0) Pi w := ⟨hO.1, fun k x hk => ⟨rfl, (hO.2.1 k x hk).2⟩, fun _ _ _ h => absurd rfl h, fun _ h => absurd rfl h⟩
end DB
section DR
variable {p : Program} {l : Launch} {e : Env} {Rm : Room} {s : State} {m : MethodId} {args : Array Value} {below : List Frame} {meth : Method} {c : Code} {H : Heap} {locs : List Loc} {cells slots : Nat} {Qg : State → Prop}
variable {cc : ByteArray} {pc q : Nat} {ls : Array Slot} {rest : List Value} {A : Nat → Prop}
variable {G : pT} {h0 : Nat} {a : Nat → Nat} {F : Nat → Int32} {R : Nat → Value} {Z : Int64} {B : Nat → Nat → Int32} {J : Nat → Nat → Int64} {w : va_W} {K K' : PK}
theorem p_get {own ref C : String} {Tc : u_T} {N ci index : Nat} {v : Value} {fs : List Value} (hx : p.tables.exec = Jvm.exec) (hb : c.code = cc) (hq : ∀ w ∈ pw, w.before args s = true) (hin : ∀ w ∈ u_ws C Tc N, w ∈ pw) (hown : s.vm.findClass own = some m.cls) (hE : pE G A s s.heap) (hP : va_P G.1 pCl w H) (hO : OKP G h0 a F R Z B J K w) (hT : ¬ K.1 q = 0) (hr : rep G a K q = .inr (ci, fs)) (hc : pCl[ci]? = some (C, Tc, N)) (k : Nat) (hk : k < N) (hlink : (Cond.fieldLink own index ref (Tc k).2.1 (Tc k).2.2.1).before args s = true) (hsame : ∀ x, s.fieldFound? (Tc k).1 (Tc k).2.1 (Tc k).2.2.1 = some x → s.fieldFound? ref (Tc k).2.1 (Tc k).2.2.1 = some x) (hv : fs[k]? = some v) (hdg : decode cc pc = .ok (.getfield index, 3))
    (kk : W p l e Rm s m args below meth c H locs cells slots Qg (F0 m (pc + 3) ls (v :: rest))) : W p l e Rm s m args below meth c H locs cells slots Qg (F0 m pc ls (.ref q :: rest)) := by
  obtain ⟨i, y, hi⟩ := hO.2.2.2 q hT
  have e1 : y = .inr (ci, fs) := (hO.2.2.1 i _ hi hT).trans hr
  subst e1
  exact va_get (D := G.1) hx hb hq hin hown hE.1.1 hP i hi hc k hk hlink hsame hv hdg kk
theorem p_put {own ref C : String} {Tc : u_T} {N ci index : Nat} {v : Value} {fs : List Value} {ty : FieldType} (hx : p.tables.exec = Jvm.exec) (hb : c.code = cc) (hq : ∀ w ∈ pw, w.before args s = true) (hin : ∀ w ∈ u_ws C Tc N, w ∈ pw) (ty0 : Nat → FieldType) (hty : ∀ k, k < N → parseFieldDescriptor (Tc k).2.2.1 = some (ty0 k)) (hnm : ∀ a, a < N → ∀ b, b < N → a ≠ b → (Tc a).2.1 ≠ (Tc b).2.1) (hown : s.vm.findClass own = some m.cls) (hE : pE G A s s.heap) (hP : va_P G.1 pCl w H) (hD : va_D A w) (hS : va_S A s.heap H locs) (hO : OKP G h0 a F R Z B J K w) (hT : ¬ K.1 q = 0) (hr : rep G a K q = .inr (ci, fs)) (hc : pCl[ci]? = some (C, Tc, N)) (k : Nat) (hk : k < N) (hlink : (Cond.fieldLink own index ref (Tc k).2.1 (Tc k).2.2.1).before args s = true) (hsame : ∀ x, s.fieldFound? (Tc k).1 (Tc k).2.1 (Tc k).2.2.1 = some x → s.fieldFound? ref (Tc k).2.1 (Tc k).2.2.1 = some x) (hfin : (Tc k).2.2.2 = false) (hd : parseFieldDescriptor (Tc k).2.2.1 = some ty) (hn : narrow ty v = v) (hfit : fits ty v = true) (hl : k < fs.length) (hTT : K'.1 = K.1) (hr1 : rep G a K' q = .inr (ci, fs.set k v)) (hr2 : ∀ p : Nat, ¬ p = q → rep G a K' p = rep G a K p) (hdg : decode cc pc = .ok (.putfield index, 3))
    (kk : ∀ (H1 : Heap) (locs1 : List Loc) (w1 : va_W), va_P G.1 pCl w1 H1 → va_D A w1 → va_S A s.heap H1 locs1 → OKP G h0 a F R Z B J K' w1 → W p l e Rm s m args below meth c H1 locs1 cells slots Qg (F0 m (pc + 3) ls rest)) : W p l e Rm s m args below meth c H locs cells slots Qg (F0 m pc ls (v :: .ref q :: rest)) := by
  obtain ⟨i, y, hi⟩ := hO.2.2.2 q hT
  have e1 : y = .inr (ci, fs) := (hO.2.2.1 i _ hi hT).trans hr
  subst e1
  exact va_put (D := G.1) hx hb hq hin ty0 hty hnm hown hE.1.1 hP hD hS i hi hc k hk hlink hsame hfin hd hn hfit hl hdg (fun H1 locs1 h1 h2 h3 => kk H1 locs1 _ h1 h2 h3 (by
    have z := OKW.pput (Pi' := fun q x => x = rep G a K' q) hO hD hi hT hr1.symm (fun p x hp hx => hx.trans (hr2 p hp).symm)
    unfold OKP
    rw [hTT]; exact z))
theorem p_putF {own ref C : String} {Tc : u_T} {N ci index : Nat} {v : Value} {fs : List Value} {ty : FieldType} (hx : p.tables.exec = Jvm.exec) (hb : c.code = cc) (hq : ∀ w ∈ pw, w.before args s = true) (hin : ∀ w ∈ u_ws C Tc N, w ∈ pw) (ty0 : Nat → FieldType) (hty : ∀ k, k < N → parseFieldDescriptor (Tc k).2.2.1 = some (ty0 k)) (hnm : ∀ a, a < N → ∀ b, b < N → a ≠ b → (Tc a).2.1 ≠ (Tc b).2.1) (hown : s.vm.findClass own = some m.cls) (hE : pE G A s s.heap) (hP : va_P G.1 pCl w H) (hD : va_D A w) (hS : va_S A s.heap H locs) (hO : OKP G h0 a F R Z B J K w) (hT : ¬ K.1 q = 0) (hr : rep G a K q = .inr (ci, fs)) (hc : pCl[ci]? = some (C, Tc, N)) (k : Nat) (hk : k < N) (hlink : (Cond.fieldLink own index ref (Tc k).2.1 (Tc k).2.2.1).before args s = true) (hsame : ∀ x, s.fieldFound? (Tc k).1 (Tc k).2.1 (Tc k).2.2.1 = some x → s.fieldFound? ref (Tc k).2.1 (Tc k).2.2.1 = some x) (hfin : (Tc k).2.2.2 = true) (hin2 : meth.name = "<init>") (hdecl : (Tc k).1 = own) (hd : parseFieldDescriptor (Tc k).2.2.1 = some ty) (hn : narrow ty v = v) (hfit : fits ty v = true) (hl : k < fs.length) (hTT : K'.1 = K.1) (hr1 : rep G a K' q = .inr (ci, fs.set k v)) (hr2 : ∀ p : Nat, ¬ p = q → rep G a K' p = rep G a K p) (hdg : decode cc pc = .ok (.putfield index, 3))
    (kk : ∀ (H1 : Heap) (locs1 : List Loc) (w1 : va_W), va_P G.1 pCl w1 H1 → va_D A w1 → va_S A s.heap H1 locs1 → OKP G h0 a F R Z B J K' w1 → W p l e Rm s m args below meth c H1 locs1 cells slots Qg (F0 m (pc + 3) ls rest)) : W p l e Rm s m args below meth c H locs cells slots Qg (F0 m pc ls (v :: .ref q :: rest)) := by
  obtain ⟨i, y, hi⟩ := hO.2.2.2 q hT
  have e1 : y = .inr (ci, fs) := (hO.2.2.1 i _ hi hT).trans hr
  subst e1
  exact va_putF (D := G.1) hx hb hq hin ty0 hty hnm hown hE.1.1 hP hD hS i hi hc k hk hlink hsame hfin hin2 hdecl hd hn hfit hl hdg (fun H1 locs1 h1 h2 h3 => kk H1 locs1 _ h1 h2 h3 (by
    have z := OKW.pput (Pi' := fun q x => x = rep G a K' q) hO hD hi hT hr1.symm (fun p x hp hx => hx.trans (hr2 p hp).symm)
    unfold OKP
    rw [hTT]; exact z))
/-- what a call wants of the thing it is called of -/
theorem p_recv {ci : Nat} {fs : List Value} (hO : OKP G h0 a F R Z B J K w) (hT : ¬ K.1 q = 0) (hr : rep G a K q = .inr (ci, fs)) : ∃ i : Nat, w[i]? = some (q, .inr (ci, fs)) := by
  obtain ⟨i, y, hi⟩ := hO.2.2.2 q hT
  have e1 : y = .inr (ci, fs) := (hO.2.2.1 i _ hi hT).trans hr
  subst e1
  exact ⟨i, hi⟩
theorem p_new {c0 : Code} {own C : String} {T : u_T} {N ci index s9 : Nat} {fs : List Value} (hx : p.tables.exec = Jvm.exec) (hb : c0.code = cc) (hq : ∀ w ∈ pw, w.before args s = true) (hin : ∀ w ∈ u_ws C T N, w ∈ pw) (ty : Nat → FieldType) (hty : ∀ k, k < N → parseFieldDescriptor (T k).2.2.1 = some (ty k)) (hown : s.vm.findClass own = some m.cls) (hcl : (Cond.classLink own index C).before args s = true) (hinst : (Cond.instantiable C N).before args s = true) (hini : (Cond.initialized C).before args s = true) (hE : pE G A s s.heap) (hP : va_P G.1 pCl w H) (hD : va_D A w) (hS : va_S A s.heap H locs) (hA : ∀ q, s.heap.size ≤ q → A q) (hO : OKP G h0 a F R Z B J K w) (hc : pCl[ci]? = some (C, T, N)) (hfs : ∀ j, j < N → defaultValue (ty j) = vp_V fs j) (hs9 : ¬ s9 = 0) (hrp : ∀ q : Nat, rep G a (kN K q s9 0) q = .inr (ci, fs)) (hcells : cells + 1 ≤ Rm.cells) (hslots : slots + N ≤ Rm.slots) (hdg : decode cc pc = .ok (.new index, 3))
    (kk : ∀ (q : Nat) (H1 : Heap) (w1 : va_W), K.1 q = 0 → va_P G.1 pCl w1 H1 → va_D A w1 → va_S A s.heap H1 locs → OKP G h0 a F R Z B J (kN K q s9 0) w1 → W p l e Rm s m args below meth c0 H1 locs (cells + 1) (slots + N) Qg (F0 m (pc + 3) ls (.ref q :: rest))) : W p l e Rm s m args below meth c0 H locs cells slots Qg (F0 m pc ls rest) :=
  va_new (D := G.1) hx hb hq hin ty hty hown hcl hinst hini hE.1.1 hP hD hS hA hc hfs hcells hslots hdg (fun q H1 h1 h2 h3 => kk q H1 _ (OKW.fresh hO h2) h1 h2 h3 (OKP.new hO h2 hs9 (hrp q).symm))
end DR
