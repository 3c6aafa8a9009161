theorem nd_of : ∀ {l : List Nat}, l.Nodup → va_nd l = true
  | [], _ => rfl
  | a :: t, h => by
    have h1 := List.nodup_cons.mp h
    show (decide (a ∉ t) && va_nd t) = true
    rw [nd_of h1.2, decide_eq_true h1.1]; rfl
theorem rg_l (a b : va_W) : (List.range a.length).map (fun i => (a ++ b)[i]?) = a.map some := by
  apply List.ext_getElem?
  intro i
  rw [List.getElem?_map, List.getElem?_map]
  by_cases h : i < a.length
  · rw [List.getElem?_range h]
    show some ((a ++ b)[i]?) = _
    rw [List.getElem?_append_left h, List.getElem?_eq_getElem h]; rfl
  · rw [List.getElem?_eq_none (by rw [List.length_range]; omega), List.getElem?_eq_none (by omega)]; rfl
theorem rg_r (a b : va_W) : ((List.range b.length).map (fun i => i + a.length)).map (fun i => (a ++ b)[i]?) = b.map some := by
  apply List.ext_getElem?
  intro i
  rw [List.getElem?_map, List.getElem?_map, List.getElem?_map]
  by_cases h : i < b.length
  · rw [List.getElem?_range h]
    show some ((a ++ b)[i + a.length]?) = _
    rw [List.getElem?_append_right (by omega), Nat.add_sub_cancel, List.getElem?_eq_getElem h]; rfl
  · rw [List.getElem?_eq_none (by rw [List.length_range]; omega), List.getElem?_eq_none (by omega)]; rfl
theorem rg_nd (n k : Nat) : ((List.range n).map (fun i => i + k)).Nodup := List.Pairwise.map _ (fun a b h => fun e => h (by omega)) List.nodup_range
theorem rg_dis (n k : Nat) : ∀ i ∈ (List.range n).map (fun i => i + k), i ∉ List.range k := by
  intro i hi hk
  obtain ⟨j, -, e⟩ := List.mem_map.mp hi
  have := List.mem_range.mp hk
  omega
section SW
variable {D : va_G} {cl : List vw_C} {a b : va_W} {H : Heap} {A : Nat → Prop}
theorem lf_P (h : va_P D cl (a ++ b) H) : va_P D cl a H := fun k q hk => h k q (by rw [List.getElem?_append_left (List.getElem?_eq_some_iff.mp hk).1]; exact hk)
theorem rt_P (h : va_P D cl (a ++ b) H) : va_P D cl b H := fun k q hk => h (k + a.length) q (by rw [List.getElem?_append_right (by omega), Nat.add_sub_cancel]; exact hk)
theorem sw_P (h : va_P D cl (a ++ b) H) : va_P D cl (b ++ a) H := (rt_P h).app (lf_P h)
theorem lf_D (h : va_D A (a ++ b)) : va_D A a := ⟨fun i j p q hp hq e => h.1 i j p q (by rw [List.getElem?_append_left (List.getElem?_eq_some_iff.mp hp).1]; exact hp) (by rw [List.getElem?_append_left (List.getElem?_eq_some_iff.mp hq).1]; exact hq) e, fun k q hk => h.2 k q (by rw [List.getElem?_append_left (List.getElem?_eq_some_iff.mp hk).1]; exact hk)⟩
theorem rt_D (h : va_D A (a ++ b)) : va_D A b := ⟨fun i j p q hp hq e => by
  have := h.1 (i + a.length) (j + a.length) p q (by rw [List.getElem?_append_right (by omega), Nat.add_sub_cancel]; exact hp) (by rw [List.getElem?_append_right (by omega), Nat.add_sub_cancel]; exact hq) e
  omega, fun k q hk => h.2 (k + a.length) q (by rw [List.getElem?_append_right (by omega), Nat.add_sub_cancel]; exact hk)⟩
theorem sw_D (h : va_D A (a ++ b)) : va_D A (b ++ a) := va_D.app (rt_D h) (lf_D h) (fun i j p q hp hq e => by
  have hj := (List.getElem?_eq_some_iff.mp hq).1
  have := h.1 (i + a.length) j p q (by rw [List.getElem?_append_right (by omega), Nat.add_sub_cancel]; exact hp) (by rw [List.getElem?_append_left hj]; exact hq) e
  omega)
end SW
section LWC
variable {p : Program} {l : Launch} {e : Env} {R : Room} {s : State} {m : MethodId} {args : Array Value} {below : List Frame} {meth : Method} {c : Code} {H : Heap} {locs : List Loc} {cells slots : Nat} {Qg : State → Prop}
variable {cc bytes : ByteArray} {pc nL maxL mc ms idx n : Nat} {ls : Array Slot} {st0 rest As : List Value} {A0 : Nat → Prop} {wc wr wA wO wM : va_W} {G : pT} {X : State → Prop} {own C : String} {y : MethodName} {ret : Option FieldType} {rm : Room} {b : Nat}
theorem lw_I {S : Type} {Q : Option Value → S → Prop} {w1 : S → va_W} (hx : p.tables.exec = Jvm.exec) (hb : c.code = cc) (hml : c.maxLocals = nL) (hown : s.vm.findClass own = some m.cls) (hq : ∀ w ∈ pw, w.before args s = true) (hE : pE G A0 s s.heap) (hX : X s) (hXm : pAl X)
    (hP : va_P G.1 pCl (wc ++ wr) H) (hD : va_D A0 (wc ++ wr)) (hS : va_S A0 s.heap H locs) (hA : ∀ q, s.heap.size ≤ q → A0 q) (hl : ls.size = nL)
    (hM : PM l G X y bytes maxL none rm (.ref b :: As) wc Q w1) (h1 : Cond.methodLink own idx y ∈ pw) (h2 : Cond.instanceMethod y ∈ pw) (h3 : Cond.initialized y.cls ∈ pw) (h4 : Cond.code y bytes maxL none ∈ pw)
    (hy : y.name = "<init>") (hd : y.cls ≠ "java/lang/invoke/MethodHandle" ∧ y.cls ≠ "java/lang/invoke/VarHandle" ∧ (parseMethodDescriptor y.desc).map (fun d => d.parameters.length) = some As.length)
    (hst : st0 = As.reverse ++ .ref b :: rest) (hW : (rest.map fun v => v.category).sum ≤ 8) (hdg : decode cc pc = .ok (.invokespecial idx, 3)) (hf : cells + rm.cells ≤ R.cells ∧ slots + rm.slots ≤ R.slots) (hRm : rm.frames + 1 ≤ R.frames ∧ 8 + (maxL + 11) + rm.locals ≤ R.locals)
    (kk : ∀ (v : Option Value) (u : S) (H1 : Heap) (locs1 : List Loc), Q v u → va_P G.1 pCl (w1 u ++ wr) H1 → va_D A0 (w1 u ++ wr) → va_S A0 s.heap H1 locs1 → W p l e R s m args below meth c H1 locs1 (cells + rm.cells) (slots + rm.slots) Qg (F0 m (pc + 3) ls (v.toList ++ rest))) : W p l e R s m args below meth c H locs cells slots Qg (F0 m pc ls st0) :=
  pc_I hx hb hml hown hq hE hX hXm hP hD hS hA hl hM h1 h2 h3 h4 hy hd (List.range wc.length) ((List.range wr.length).map (fun i => i + wc.length)) (rg_l wc wr) (rg_r wc wr) (nd_of List.nodup_range) (nd_of (rg_nd wr.length wc.length)) (rg_dis wr.length wc.length) hst hW hdg hf hRm (fun v u H1 locs1 q hP1 hD1 hS1 => kk v u H1 locs1 q (sw_P hP1) (sw_D hD1) hS1)
theorem lw_V {S : Type} {Q : Option Value → S → Prop} {w1 : S → va_W} (hx : p.tables.exec = Jvm.exec) (hb : c.code = cc) (hml : c.maxLocals = nL) (hown : s.vm.findClass own = some m.cls) (hq : ∀ w ∈ pw, w.before args s = true) (hE : pE G A0 s s.heap) (hX : X s) (hXm : pAl X)
    (hP : va_P G.1 pCl (wc ++ wr) H) (hD : va_D A0 (wc ++ wr)) (hS : va_S A0 s.heap H locs) (hA : ∀ q, s.heap.size ≤ q → A0 q) (hl : ls.size = nL)
    (hM : PM l G X y bytes maxL ret rm (.ref b :: As) wc Q w1) (g : GoodIn pw (wsV own idx C y (Cond.code y bytes maxL ret :: pw)))
    (hd : y.cls = C ∧ y.cls ≠ "java/lang/invoke/MethodHandle" ∧ y.cls ≠ "java/lang/invoke/VarHandle" ∧ (parseMethodDescriptor y.desc).map (fun d => d.parameters.length) = some As.length)
    (qr ci : Nat) {fs : List Value} {r : vw_C} (hr1 : wc[qr]? = some (b, .inr (ci, fs))) (hr2 : pCl[ci]? = some r) (hr3 : r.1 = C)
    (hst : st0 = As.reverse ++ .ref b :: rest) (hW : (rest.map fun v => v.category).sum ≤ 8) (hdg : decode cc pc = .ok (.invokevirtual idx, 3)) (hf : cells + rm.cells ≤ R.cells ∧ slots + rm.slots ≤ R.slots) (hRm : rm.frames + 1 ≤ R.frames ∧ 8 + (maxL + 11) + rm.locals ≤ R.locals)
    (kk : ∀ (v : Option Value) (u : S) (H1 : Heap) (locs1 : List Loc), Q v u → va_P G.1 pCl (w1 u ++ wr) H1 → va_D A0 (w1 u ++ wr) → va_S A0 s.heap H1 locs1 → W p l e R s m args below meth c H1 locs1 (cells + rm.cells) (slots + rm.slots) Qg (F0 m (pc + 3) ls (v.toList ++ rest))) : W p l e R s m args below meth c H locs cells slots Qg (F0 m pc ls st0) :=
  pc_V hx hb hml hown hq hE hX hXm hP hD hS hA hl hM g hd qr ci (by rw [List.getElem?_append_left (List.getElem?_eq_some_iff.mp hr1).1]; exact hr1) hr2 hr3 (List.range wc.length) ((List.range wr.length).map (fun i => i + wc.length)) (rg_l wc wr) (rg_r wc wr) (nd_of List.nodup_range) (nd_of (rg_nd wr.length wc.length)) (rg_dis wr.length wc.length) hst hW hdg hf hRm (fun v u H1 locs1 q hP1 hD1 hS1 => kk v u H1 locs1 q (sw_P hP1) (sw_D hD1) hS1)
theorem lw_VW {hh : List (Nat × Nat × Nat × Nat)} {S : Type} {Q : Option Value → S → Prop} {w1 : S → va_W} (hx : p.tables.exec = Jvm.exec) (hb : c.code = cc) (hml : c.maxLocals = nL) (hown : s.vm.findClass own = some m.cls) (hq : ∀ w ∈ pw, w.before args s = true) (hE : pE G A0 s s.heap) (hX : X s) (hXm : pAl X)
    (hP : va_P G.1 pCl (wc ++ wr) H) (hD : va_D A0 (wc ++ wr)) (hS : va_S A0 s.heap H locs) (hA : ∀ q, s.heap.size ≤ q → A0 q) (hl : ls.size = nL)
    (hM : PMW l G X y bytes maxL ret hh rm (.ref b :: As) wc Q w1) (g : GoodIn pw (wsV own idx C y (Cond.codeWith y bytes maxL ret hh :: pw)))
    (hd : y.cls = C ∧ y.cls ≠ "java/lang/invoke/MethodHandle" ∧ y.cls ≠ "java/lang/invoke/VarHandle" ∧ (parseMethodDescriptor y.desc).map (fun d => d.parameters.length) = some As.length)
    (qr ci : Nat) {fs : List Value} {r : vw_C} (hr1 : wc[qr]? = some (b, .inr (ci, fs))) (hr2 : pCl[ci]? = some r) (hr3 : r.1 = C)
    (hst : st0 = As.reverse ++ .ref b :: rest) (hW : (rest.map fun v => v.category).sum ≤ 8) (hdg : decode cc pc = .ok (.invokevirtual idx, 3)) (hf : cells + rm.cells ≤ R.cells ∧ slots + rm.slots ≤ R.slots) (hRm : rm.frames + 1 ≤ R.frames ∧ 8 + (maxL + 11) + rm.locals ≤ R.locals)
    (kk : ∀ (v : Option Value) (u : S) (H1 : Heap) (locs1 : List Loc), Q v u → va_P G.1 pCl (w1 u ++ wr) H1 → va_D A0 (w1 u ++ wr) → va_S A0 s.heap H1 locs1 → W p l e R s m args below meth c H1 locs1 (cells + rm.cells) (slots + rm.slots) Qg (F0 m (pc + 3) ls (v.toList ++ rest))) : W p l e R s m args below meth c H locs cells slots Qg (F0 m pc ls st0) :=
  pc_VW hx hb hml hown hq hE hX hXm hP hD hS hA hl hM g hd qr ci (by rw [List.getElem?_append_left (List.getElem?_eq_some_iff.mp hr1).1]; exact hr1) hr2 hr3 (List.range wc.length) ((List.range wr.length).map (fun i => i + wc.length)) (rg_l wc wr) (rg_r wc wr) (nd_of List.nodup_range) (nd_of (rg_nd wr.length wc.length)) (rg_dis wr.length wc.length) hst hW hdg hf hRm (fun v u H1 locs1 q hP1 hD1 hS1 => kk v u H1 locs1 q (sw_P hP1) (sw_D hD1) hS1)
theorem lw_SW {hh : List (Nat × Nat × Nat × Nat)} {S : Type} {Q : Option Value → S → Prop} {w1 : S → va_W} (hx : p.tables.exec = Jvm.exec) (hb : c.code = cc) (hml : c.maxLocals = nL) (hown : s.vm.findClass own = some m.cls) (hq : ∀ w ∈ pw, w.before args s = true) (hE : pE G A0 s s.heap) (hX : X s) (hXm : pAl X)
    (hP : va_P G.1 pCl (wc ++ wr) H) (hD : va_D A0 (wc ++ wr)) (hS : va_S A0 s.heap H locs) (hA : ∀ q, s.heap.size ≤ q → A0 q) (hl : ls.size = nL)
    (hM : PMW l G X y bytes maxL ret hh rm As wc Q w1) (g : GoodIn pw (va_wsS own idx y (Cond.codeWith y bytes maxL ret hh :: pw)))
    (hd : y.cls ≠ "java/lang/invoke/MethodHandle" ∧ y.cls ≠ "java/lang/invoke/VarHandle" ∧ (parseMethodDescriptor y.desc).map (fun d => d.parameters.length) = some As.length)
    (hst : st0 = As.reverse ++ rest) (hW : (rest.map fun v => v.category).sum ≤ 8) (hdg : decode cc pc = .ok (.invokestatic idx, 3)) (hf : cells + rm.cells ≤ R.cells ∧ slots + rm.slots ≤ R.slots) (hRm : rm.frames + 1 ≤ R.frames ∧ 8 + (maxL + 11) + rm.locals ≤ R.locals)
    (kk : ∀ (v : Option Value) (u : S) (H1 : Heap) (locs1 : List Loc), Q v u → va_P G.1 pCl (w1 u ++ wr) H1 → va_D A0 (w1 u ++ wr) → va_S A0 s.heap H1 locs1 → W p l e R s m args below meth c H1 locs1 (cells + rm.cells) (slots + rm.slots) Qg (F0 m (pc + 3) ls (v.toList ++ rest))) : W p l e R s m args below meth c H locs cells slots Qg (F0 m pc ls st0) :=
  pc_SW hx hb hml hown hq hE hX hXm hP hD hS hA hl hM g hd (List.range wc.length) ((List.range wr.length).map (fun i => i + wc.length)) (rg_l wc wr) (rg_r wc wr) (nd_of List.nodup_range) (nd_of (rg_nd wr.length wc.length)) (rg_dis wr.length wc.length) hst hW hdg hf hRm (fun v u H1 locs1 q hP1 hD1 hS1 => kk v u H1 locs1 q (sw_P hP1) (sw_D hD1) hS1)
theorem la_V {S : Type} {Q : Option Value → S → Prop} {w1 : S → va_W} (hx : p.tables.exec = Jvm.exec) (hb : c.code = cc) (hml : c.maxLocals = nL) (hown : s.vm.findClass own = some m.cls) (hq : ∀ w ∈ pw, w.before args s = true) (hE : pE G A0 s s.heap) (hX : X s) (hXm : pAl X)
    (hP : va_P G.1 pCl ((wA ++ wO) ++ wM) H) (hD : va_D A0 ((wA ++ wO) ++ wM)) (hS : va_S A0 s.heap H locs) (hA : ∀ q, s.heap.size ≤ q → A0 q) (hl : ls.size = nL)
    (hM : PM l G X y bytes maxL ret rm (.ref b :: As) wA Q w1) (g : GoodIn pw (wsV own idx C y (Cond.code y bytes maxL ret :: pw)))
    (hd : y.cls = C ∧ y.cls ≠ "java/lang/invoke/MethodHandle" ∧ y.cls ≠ "java/lang/invoke/VarHandle" ∧ (parseMethodDescriptor y.desc).map (fun d => d.parameters.length) = some As.length)
    (qr ci : Nat) {fs : List Value} {r : vw_C} (hr1 : wA[qr]? = some (b, .inr (ci, fs))) (hr2 : pCl[ci]? = some r) (hr3 : r.1 = C)
    (hst : st0 = As.reverse ++ .ref b :: rest) (hW : (rest.map fun v => v.category).sum ≤ 8) (hdg : decode cc pc = .ok (.invokevirtual idx, 3)) (hf : cells + rm.cells ≤ R.cells ∧ slots + rm.slots ≤ R.slots) (hRm : rm.frames + 1 ≤ R.frames ∧ 8 + (maxL + 11) + rm.locals ≤ R.locals)
    (kk : ∀ (v : Option Value) (u : S) (H1 : Heap) (locs1 : List Loc), Q v u → va_P G.1 pCl ((w1 u ++ wO) ++ wM) H1 → va_D A0 ((w1 u ++ wO) ++ wM) → va_S A0 s.heap H1 locs1 → W p l e R s m args below meth c H1 locs1 (cells + rm.cells) (slots + rm.slots) Qg (F0 m (pc + 3) ls (v.toList ++ rest))) : W p l e R s m args below meth c H locs cells slots Qg (F0 m pc ls st0) :=
  lw_V (wc := wA) (wr := (wO ++ wM)) hx hb hml hown hq hE hX hXm (by rw [← List.append_assoc]; exact hP) (by rw [← List.append_assoc]; exact hD) hS hA hl hM g hd qr ci hr1 hr2 hr3 hst hW hdg hf hRm (fun v u H1 locs1 q hP1 hD1 hS1 => kk v u H1 locs1 q (by rw [List.append_assoc]; exact hP1) (by rw [List.append_assoc]; exact hD1) hS1)
theorem la_VW {hh : List (Nat × Nat × Nat × Nat)} {S : Type} {Q : Option Value → S → Prop} {w1 : S → va_W} (hx : p.tables.exec = Jvm.exec) (hb : c.code = cc) (hml : c.maxLocals = nL) (hown : s.vm.findClass own = some m.cls) (hq : ∀ w ∈ pw, w.before args s = true) (hE : pE G A0 s s.heap) (hX : X s) (hXm : pAl X)
    (hP : va_P G.1 pCl ((wA ++ wO) ++ wM) H) (hD : va_D A0 ((wA ++ wO) ++ wM)) (hS : va_S A0 s.heap H locs) (hA : ∀ q, s.heap.size ≤ q → A0 q) (hl : ls.size = nL)
    (hM : PMW l G X y bytes maxL ret hh rm (.ref b :: As) wA Q w1) (g : GoodIn pw (wsV own idx C y (Cond.codeWith y bytes maxL ret hh :: pw)))
    (hd : y.cls = C ∧ y.cls ≠ "java/lang/invoke/MethodHandle" ∧ y.cls ≠ "java/lang/invoke/VarHandle" ∧ (parseMethodDescriptor y.desc).map (fun d => d.parameters.length) = some As.length)
    (qr ci : Nat) {fs : List Value} {r : vw_C} (hr1 : wA[qr]? = some (b, .inr (ci, fs))) (hr2 : pCl[ci]? = some r) (hr3 : r.1 = C)
    (hst : st0 = As.reverse ++ .ref b :: rest) (hW : (rest.map fun v => v.category).sum ≤ 8) (hdg : decode cc pc = .ok (.invokevirtual idx, 3)) (hf : cells + rm.cells ≤ R.cells ∧ slots + rm.slots ≤ R.slots) (hRm : rm.frames + 1 ≤ R.frames ∧ 8 + (maxL + 11) + rm.locals ≤ R.locals)
    (kk : ∀ (v : Option Value) (u : S) (H1 : Heap) (locs1 : List Loc), Q v u → va_P G.1 pCl ((w1 u ++ wO) ++ wM) H1 → va_D A0 ((w1 u ++ wO) ++ wM) → va_S A0 s.heap H1 locs1 → W p l e R s m args below meth c H1 locs1 (cells + rm.cells) (slots + rm.slots) Qg (F0 m (pc + 3) ls (v.toList ++ rest))) : W p l e R s m args below meth c H locs cells slots Qg (F0 m pc ls st0) :=
  lw_VW (wc := wA) (wr := (wO ++ wM)) hx hb hml hown hq hE hX hXm (by rw [← List.append_assoc]; exact hP) (by rw [← List.append_assoc]; exact hD) hS hA hl hM g hd qr ci hr1 hr2 hr3 hst hW hdg hf hRm (fun v u H1 locs1 q hP1 hD1 hS1 => kk v u H1 locs1 q (by rw [List.append_assoc]; exact hP1) (by rw [List.append_assoc]; exact hD1) hS1)
theorem lm_V {S : Type} {Q : Option Value → S → Prop} {w1 : S → va_W} (hx : p.tables.exec = Jvm.exec) (hb : c.code = cc) (hml : c.maxLocals = nL) (hown : s.vm.findClass own = some m.cls) (hq : ∀ w ∈ pw, w.before args s = true) (hE : pE G A0 s s.heap) (hX : X s) (hXm : pAl X)
    (hP : va_P G.1 pCl ((wA ++ wO) ++ wM) H) (hD : va_D A0 ((wA ++ wO) ++ wM)) (hS : va_S A0 s.heap H locs) (hA : ∀ q, s.heap.size ≤ q → A0 q) (hl : ls.size = nL)
    (hM : PM l G X y bytes maxL ret rm (.ref b :: As) wM Q w1) (g : GoodIn pw (wsV own idx C y (Cond.code y bytes maxL ret :: pw)))
    (hd : y.cls = C ∧ y.cls ≠ "java/lang/invoke/MethodHandle" ∧ y.cls ≠ "java/lang/invoke/VarHandle" ∧ (parseMethodDescriptor y.desc).map (fun d => d.parameters.length) = some As.length)
    (qr ci : Nat) {fs : List Value} {r : vw_C} (hr1 : wM[qr]? = some (b, .inr (ci, fs))) (hr2 : pCl[ci]? = some r) (hr3 : r.1 = C)
    (hst : st0 = As.reverse ++ .ref b :: rest) (hW : (rest.map fun v => v.category).sum ≤ 8) (hdg : decode cc pc = .ok (.invokevirtual idx, 3)) (hf : cells + rm.cells ≤ R.cells ∧ slots + rm.slots ≤ R.slots) (hRm : rm.frames + 1 ≤ R.frames ∧ 8 + (maxL + 11) + rm.locals ≤ R.locals)
    (kk : ∀ (v : Option Value) (u : S) (H1 : Heap) (locs1 : List Loc), Q v u → va_P G.1 pCl ((wA ++ wO) ++ w1 u) H1 → va_D A0 ((wA ++ wO) ++ w1 u) → va_S A0 s.heap H1 locs1 → W p l e R s m args below meth c H1 locs1 (cells + rm.cells) (slots + rm.slots) Qg (F0 m (pc + 3) ls (v.toList ++ rest))) : W p l e R s m args below meth c H locs cells slots Qg (F0 m pc ls st0) :=
  lw_V (wc := wM) (wr := (wA ++ wO)) hx hb hml hown hq hE hX hXm (sw_P hP) (sw_D hD) hS hA hl hM g hd qr ci hr1 hr2 hr3 hst hW hdg hf hRm (fun v u H1 locs1 q hP1 hD1 hS1 => kk v u H1 locs1 q (sw_P hP1) (sw_D hD1) hS1)
theorem lo_SW {hh : List (Nat × Nat × Nat × Nat)} {S : Type} {Q : Option Value → S → Prop} {w1 : S → va_W} (hx : p.tables.exec = Jvm.exec) (hb : c.code = cc) (hml : c.maxLocals = nL) (hown : s.vm.findClass own = some m.cls) (hq : ∀ w ∈ pw, w.before args s = true) (hE : pE G A0 s s.heap) (hX : X s) (hXm : pAl X)
    (hP : va_P G.1 pCl ((wA ++ wO) ++ wM) H) (hD : va_D A0 ((wA ++ wO) ++ wM)) (hS : va_S A0 s.heap H locs) (hA : ∀ q, s.heap.size ≤ q → A0 q) (hl : ls.size = nL)
    (hM : PMW l G X y bytes maxL ret hh rm As (wA ++ wO) Q w1) (g : GoodIn pw (va_wsS own idx y (Cond.codeWith y bytes maxL ret hh :: pw)))
    (hd : y.cls ≠ "java/lang/invoke/MethodHandle" ∧ y.cls ≠ "java/lang/invoke/VarHandle" ∧ (parseMethodDescriptor y.desc).map (fun d => d.parameters.length) = some As.length)
    (hst : st0 = As.reverse ++ rest) (hW : (rest.map fun v => v.category).sum ≤ 8) (hdg : decode cc pc = .ok (.invokestatic idx, 3)) (hf : cells + rm.cells ≤ R.cells ∧ slots + rm.slots ≤ R.slots) (hRm : rm.frames + 1 ≤ R.frames ∧ 8 + (maxL + 11) + rm.locals ≤ R.locals)
    (kk : ∀ (v : Option Value) (u : S) (H1 : Heap) (locs1 : List Loc), Q v u → va_P G.1 pCl (w1 u ++ wM) H1 → va_D A0 (w1 u ++ wM) → va_S A0 s.heap H1 locs1 → W p l e R s m args below meth c H1 locs1 (cells + rm.cells) (slots + rm.slots) Qg (F0 m (pc + 3) ls (v.toList ++ rest))) : W p l e R s m args below meth c H locs cells slots Qg (F0 m pc ls st0) :=
  lw_SW (wc := (wA ++ wO)) (wr := wM) hx hb hml hown hq hE hX hXm hP hD hS hA hl hM g hd hst hW hdg hf hRm (fun v u H1 locs1 q hP1 hD1 hS1 => kk v u H1 locs1 q hP1 hD1 hS1)
/-- a call that returns, or throws one of the two: the world beside it stays -/
theorem ly_V {S S2 : Type} {Q : Option Value → S → Prop} {w1 : S → va_W} {Qx : S2 → Prop} {w2 : S2 → va_W} (hx : p.tables.exec = Jvm.exec) (hb : c.code = cc) (hml : c.maxLocals = nL) (hown : s.vm.findClass own = some m.cls) (hq : ∀ w ∈ pw, w.before args s = true) (hE : pE G A0 s s.heap) (hX : X s) (hXm : pAl X)
    (hP : va_P G.1 pCl (wc ++ wr) H) (hD : va_D A0 (wc ++ wr)) (hS : va_S A0 s.heap H locs) (hA : ∀ q, s.heap.size ≤ q → A0 q) (hl : ls.size = nL)
    (hM : PY l G X y bytes maxL ret rm (.ref b :: As) wc Q w1 Qx w2) (g : GoodIn pw (wsV own idx C y (Cond.code y bytes maxL ret :: pw)))
    (hd : y.cls = C ∧ y.cls ≠ "java/lang/invoke/MethodHandle" ∧ y.cls ≠ "java/lang/invoke/VarHandle" ∧ (parseMethodDescriptor y.desc).map (fun d => d.parameters.length) = some As.length)
    (qr ci : Nat) {fs : List Value} {r : vw_C} (hr1 : wc[qr]? = some (b, .inr (ci, fs))) (hr2 : pCl[ci]? = some r) (hr3 : r.1 = C)
    (hst : st0 = As.reverse ++ .ref b :: rest) (hW : (rest.map fun v => v.category).sum ≤ 8) (hdg : decode cc pc = .ok (.invokevirtual idx, 3)) (hf : cells + rm.cells ≤ R.cells ∧ slots + rm.slots ≤ R.slots) (hRm : rm.frames + 1 ≤ R.frames ∧ 8 + (maxL + 11) + rm.locals ≤ R.locals)
    (kk : ∀ (v : Option Value) (u : S) (H1 : Heap) (locs1 : List Loc), Q v u → va_P G.1 pCl (w1 u ++ wr) H1 → va_D A0 (w1 u ++ wr) → va_S A0 s.heap H1 locs1 → W p l e R s m args below meth c H1 locs1 (cells + rm.cells) (slots + rm.slots) Qg (F0 m (pc + 3) ls (v.toList ++ rest)))
    (kx : ∀ (E : String) (u : S2) (ce : Cell) (q9 : Addr) (H1 : Heap) (locs1 : List Loc), (E = eIS ∨ E = eIA) → Qx u → va_P G.1 pCl (w2 u ++ wr) H1 → va_D A0 (w2 u ++ wr) → va_S A0 s.heap H1 locs1 → H1[q9]? = some ce → ce.vm = .none → s.vm.findClass E = some ce.cls → vx_W p l e R s m args below meth c H1 locs1 (cells + rm.cells) (slots + rm.slots) Qg (F0 m pc ls rest) q9) : W p l e R s m args below meth c H locs cells slots Qg (F0 m pc ls st0) := by
  subst hst
  obtain ⟨cell, g1, g2, g3⟩ := va_recv hE.1.1 (lf_P hP) hr2 hr1
  rw [hr3] at g3
  have hr := vx_runV (e := e) (below := below) (meth := meth) (locs := locs) (As := As) (rest := rest) ⟨hx, hb, hml, hown, hq⟩ (hM H.size) (cwV As.length hq g rfl rfl rfl hd hRm) ⟨pPc.blind hXm, ⟨cell, g1, g2, g3⟩, pc_pre (av := .ref b :: As) hE hX hXm hP hD hS hA (rg_l wc wr) (nd_of List.nodup_range)⟩ rfl rfl hl rfl (lv_room hW) hdg hf
  have hF := va_free (wc := wc) hD hS hA (List.range wc.length) (rg_l wc wr)
  intro T hT Y
  rcases hr T hT Y with ⟨v, st₀, t, T', L, h0, Y', hL, e1, e2, ⟨⟨v', u, hv, hq9, hP1, hD1⟩, hz, hk⟩, st⟩ | ⟨q, st₀, t, T', L, E, ce, h0, Y', hL, e1, e2, ⟨u, hpx, ⟨hE0, hP1, hD1⟩, hz, hk⟩, hce, hcv, hcl, st⟩
  · cases hv
    rw [h0] at hz hk
    have hk' : ∀ q : Nat, q < H.size → ¬ va_A wc H.size q → T'.heap[q]? = H[q]? := fun q h1 h2 => by rw [e1]; exact hk q h1 h2
    obtain ⟨hP2, hD2⟩ := va_join (w1 := w1 u) hP hD (List.range wc.length) ((List.range wr.length).map (fun i => i + wc.length)) (rg_l wc wr) (rg_r wc wr) (nd_of (rg_nd wr.length wc.length)) (rg_dis wr.length wc.length) hk' hF (by rw [e1]; exact hP1) hD1
    obtain ⟨t2, a1, b1⟩ := kk v u T'.heap (locs ++ L) hq9 (sw_P hP2) (sw_D hD2)
      ⟨Nat.le_trans hS.1 (by rw [e1]; exact hz), fun q h1 h2 => by rw [hk' q (Nat.lt_of_lt_of_le h1 hS.1) (fun z => h2 (hF q z))]; exact hS.2.1 q h1 h2, fun q hq => by
        rcases List.mem_append.mp hq with h | h
        · exact hS.2.2 q h
        · exact hF _ (hL q h)⟩ T' rfl Y'
    exact ⟨t2, st t2 a1, b1⟩
  · rw [h0] at hz hk
    have hk' : ∀ q : Nat, q < H.size → ¬ va_A wc H.size q → T'.heap[q]? = H[q]? := fun q h1 h2 => by rw [e1]; exact hk q h1 h2
    obtain ⟨hP2, hD2⟩ := va_join (w1 := w2 u) hP hD (List.range wc.length) ((List.range wr.length).map (fun i => i + wc.length)) (rg_l wc wr) (rg_r wc wr) (nd_of (rg_nd wr.length wc.length)) (rg_dis wr.length wc.length) hk' hF (by rw [e1]; exact hP1) hD1
    obtain ⟨t2, a1, b1⟩ := kx E u ce q T'.heap (locs ++ L) hE0 hpx (sw_P hP2) (sw_D hD2)
      ⟨Nat.le_trans hS.1 (by rw [e1]; exact hz), fun q h1 h2 => by rw [hk' q (Nat.lt_of_lt_of_le h1 hS.1) (fun z => h2 (hF q z))]; exact hS.2.1 q h1 h2, fun q hq => by
        rcases List.mem_append.mp hq with h | h
        · exact hS.2.2 q h
        · exact hF _ (hL q h)⟩ (by rw [e1]; exact hce) hcv hcl T' rfl Y'
    exact ⟨t2, st.trans a1, b1⟩
end LWC
theorem InC.recv {G : pT} {h0 : Nat} {a : Nat → Nat} {tl ni : Nat} {w : va_W} (h : InC G h0 a tl ni w) : ∃ (i : Nat) (fs : List Value), w[i]? = some (h0, .inr (8, fs)) := by
  obtain ⟨F, R, Z, B, J, hb, ⟨h1, h5, hO⟩ | ⟨K, g, rk, it, pq, dr, ml, nd, nm, cp, s9, cs, rg, h1, h5, hO, -⟩⟩ := h
  · obtain ⟨_, i, hi⟩ := hO.2.1 0 _ (sg_0 G h0 a _ _ _ _ _)
    exact ⟨i, _, hi⟩
  · obtain ⟨_, i, hi⟩ := hO.2.1 0 _ (sg_0 G h0 a _ _ _ _ _)
    exact ⟨i, _, hi⟩
/-- a new object -/
def sgl0 (G : pT) (h0 : Nat) (a : Nat → Nat) (bt : Nat → Int32) (j0 j1 : Nat → Int64) : va_W := sgl G h0 a (upd (fun _ => 0) 26 8) (updR (updR (fun _ => .null) 7 (.ref (a 34))) 8 (.ref (a 35))) 0 (updA (fun _ _ => 0) 6 bt) (updJ (updJ (fun _ _ => 0) 34 j0) 35 j1)
theorem InC.init {G : pT} {h0 : Nat} {a : Nat → Nat} {bt : Nat → Int32} {j0 j1 : Nat → Int64} {A : Nat → Prop} (hD : va_D A (sgl0 G h0 a bt j0 j1)) (hlo : LoI j0 j1 7) : InC G h0 a 0 0 (sgl0 G h0 a bt j0 j1) := by
  refine ⟨upd (fun _ => 0) 26 8, updR (updR (fun _ => .null) 7 (.ref (a 34))) 8 (.ref (a 35)), 0, updA (fun _ _ => 0) 6 bt, updJ (updJ (fun _ _ => 0) 34 j0) 35 j1, ⟨⟨rfl, Nat.zero_le _⟩, fun j => rfl, fun j _ => ⟨0, rfl, Nat.zero_le _⟩, ⟨rfl, Nat.zero_le _⟩, ⟨34, 35, Or.inl ⟨rfl, rfl⟩, rfl, rfl, LoI.lo hlo rfl rfl, rfl⟩, 8, rfl, Nat.le_refl _, by decide⟩, Or.inl ⟨rfl, Or.inl rfl, hD.weaken (fun _ _ _ _ => trivial), fun k x hk => ⟨rfl, k, hk⟩, fun _ _ _ h => absurd rfl h, fun _ h => absurd rfl h⟩⟩
theorem dL_run_0 : decode cL_run 0 = .ok (.aload_n 3, 1) := by decide +kernel
theorem dL_run_1 : decode cL_run 1 = .ok (.iconst 0, 1) := by decide +kernel
theorem dL_run_2 : decode cL_run 2 = .ok (.aload_n 0, 1) := by decide +kernel
theorem dL_run_3 : decode cL_run 3 = .ok (.iload_n 1, 1) := by decide +kernel
theorem dL_run_4 : decode cL_run 4 = .ok (.iload_n 2, 1) := by decide +kernel
theorem dL_run_5 : decode cL_run 5 = .ok (.invokevirtual 7, 3) := by decide +kernel
theorem dL_run_8 : decode cL_run 8 = .ok (.i2l, 1) := by decide +kernel
theorem dL_run_9 : decode cL_run 9 = .ok (.lastore, 1) := by decide +kernel
theorem dL_run_10 : decode cL_run 10 = .ok (.goto 11, 3) := by decide +kernel
theorem dL_run_13 : decode cL_run 13 = .ok (.astore 4, 2) := by decide +kernel
theorem dL_run_15 : decode cL_run 15 = .ok (.iconst 1, 1) := by decide +kernel
theorem dL_run_16 : decode cL_run 16 = .ok (.ireturn, 1) := by decide +kernel
theorem dL_run_17 : decode cL_run 17 = .ok (.astore 4, 2) := by decide +kernel
theorem dL_run_19 : decode cL_run 19 = .ok (.iconst 2, 1) := by decide +kernel
theorem dL_run_20 : decode cL_run 20 = .ok (.ireturn, 1) := by decide +kernel
theorem dL_run_21 : decode cL_run 21 = .ok (.iconst 0, 1) := by decide +kernel
theorem dL_run_22 : decode cL_run 22 = .ok (.ireturn, 1) := by decide +kernel
theorem hV_X11_run : yX11_run.cls = RX11 ∧ yX11_run.cls ≠ "java/lang/invoke/MethodHandle" ∧ yX11_run.cls ≠ "java/lang/invoke/VarHandle" ∧ (parseMethodDescriptor yX11_run.desc).map (fun d => d.parameters.length) = some 2 := by decide +kernel
set_option maxHeartbeats 4000000 in
set_option maxRecDepth 100000 in
/-- run of the law: what was thrown is caught -/
theorem C_Lrun (l : Launch) (G : pT) (h0 : Nat) (a : Nat → Nat) (tl ni : Nat) (w : va_W) (x y : Int32) (o : Nat) (f : Nat → Int64) (h : InC G h0 a tl ni w) (hl0 : l.stackTraces = false) : PMW l G pX0 yL_run cL_run 5 (some .int) [(0, 10, 13, 13), (0, 10, 17, 15)] ({ frames := 62, cells := 1, slots := 6, locals := 5100 }) [.ref h0, .int x, .int y, .ref o] (w ++ [(o, .inl (G.2.1 2, 1, .inr (.inl f)))]) (fun (v : Option Value) (u : va_W × (Nat → Int64)) => (∃ r : Int32, v = some (.int r)) ∧ InC G h0 a tl ni u.1) (fun u => u.1 ++ [(o, .inl (G.2.1 2, 1, .inr (.inl u.2)))]) := by
  intro sz
  refine va_MetW (cc := cL_run) (maxL := 5) (ret := (some .int)) (hh := [(0, 10, 13, 13), (0, 10, 17, 15)]) (by decide) rfl ?_
  intro p e s m args below meth c s₁ B9 hml hv
  obtain ⟨rfl, hsz, hP, hD0, hE, hX⟩ := hv
  have hx := B9.exec
  have hb := B9.bytes
  have hr := B9.returns
  have hts := atoms_spec (ws := Cond.codeWith yL_run cL_run 5 (some .int) [(0, 10, 13, 13), (0, 10, 17, 15)] :: pw) B9.pre
  have htab := vx_table (x := yL_run) B9 (hts _ List.mem_cons_self)
  have hq : ∀ w ∈ pw, w.before _ s = true := fun w h => hts w (List.mem_cons_of_mem _ h)
  have hown : s.vm.findClass RL = some m.cls := findClass_of_methodNamed B9.named
  have hlocks := B9.notSynchronized
  subst hsz
  have hD := hD0.self (sz := s.heap.size)
  have hA : ∀ q : Nat, s.heap.size ≤ q → va_A (w ++ [(o, .inl (G.2.1 2, 1, .inr (.inl f)))]) s.heap.size q := fun q h => Or.inr h
  generalize va_A (w ++ [(o, .inl (G.2.1 2, 1, .inr (.inl f)))]) s.heap.size = A at hD hE hA ⊢
  have hS : va_S A s.heap s.heap [] := va_S.rf
  have hl := lv_entry ([.ref h0, .int x, .int y, .ref o]) (n := 5) (Nat.le_of_ble_eq_true rfl)
  rw [lg_entry_eq]
  generalize (lg_sl ([.ref h0, .int x, .int y, .ref o]) ++ List.replicate (5 - (lg_sl ([.ref h0, .int x, .int y, .ref o])).length) Slot.unset).toArray = ls at hl ⊢
  have hl : lv_has ls 5 [(0, .ref h0), (1, .int x), (2, .int y), (3, .ref o)] := hl
  refine lv_aload_n hx hb dL_run_0 rfl (lv_at hl 3 rfl) ?_
  refine lv_iconst (v := 0) hx hb dL_run_1 (by decide) ?_
  refine lv_aload_n hx hb dL_run_2 rfl (lv_at hl 0 rfl) ?_
  refine lv_iload_n hx hb dL_run_3 rfl (lv_at hl 1 rfl) ?_
  refine lv_iload_n hx hb dL_run_4 rfl (lv_at hl 2 rfl) ?_
  obtain ⟨qr, fs, hqr⟩ := h.recv
  refine ly_V (G := G) (As := [.int x, .int y]) (rest := [.int 0, .ref o]) hx hb hml hown hq hE hX pX0_al hP hD hS hA hl.1 (C_run l G h0 a tl ni w x y h hl0) (gV pw_2230 pw_2231 pw_2232 pw_1339 pw_1409) hV_X11_run qr 8 hqr rfl rfl rfl (Nat.le_of_ble_eq_true rfl) dL_run_5 ⟨Nat.le_of_ble_eq_true rfl, Nat.le_of_ble_eq_true rfl⟩ ⟨Nat.le_of_ble_eq_true rfl, Nat.le_of_ble_eq_true rfl⟩ (fun v9 u9 H locs hw9 hP hD hS => ?_) (fun E u9 ce9 q9 H locs hE9 hu9 hP hD hS hce hcv hcl => ?_)
  · obtain ⟨r9, rfl, hI⟩ := hw9
    refine W.widen (k := 1) (n := 6) (by show 0 + 1 ≤ 1; omega) (by show 0 + 6 ≤ 6; omega) ?_
    refine W.eq (g2 := F0 m 8 ls [.int r9, .int 0, .ref o]) rfl ?_
    refine lv_i2l hx hb dL_run_8 rfl ?_
    refine va_last (f := f) (n := 1) (cA := G.2.1 2) hx hb hE.1.1 hP hD hS u9.length 2 (by rw [List.getElem?_append_right (Nat.le_refl _), Nat.sub_self]; rfl) rfl (by unfold vp_in; decide) dL_run_9 (fun H locs hP hD hS => ?_)
    have es : ∀ y z : Nat × va_E, (u9 ++ [y]).set u9.length z = u9 ++ [z] := fun y z => by rw [List.set_append_right _ _ (Nat.le_refl _), Nat.sub_self]; rfl
    rw [es] at hP hD
    refine lv_goto (tgt := 21) hx hb dL_run_10 (by decide) ?_
    refine lv_iconst (v := 0) hx hb dL_run_21 (by decide) ?_
    exact W.iret (v := 0) hx hb hr (fun t99 ht99 hW99 => ⟨⟨_, (u9, _), rfl, ⟨⟨_, rfl⟩, hI⟩, by rw [ht99]; exact hP, hD⟩, hS.F ht99⟩) hS.2.2 dL_run_22
  · have hu9 : u9 = w := hu9
    rw [hu9] at hP hD
    rcases hE9 with rfl | rfl
    · refine vx_catch (own := RL) (name := eIS) (E := eIS) hown [⟨0, 10, 13, 13⟩] ⟨0, 10, 17, 15⟩ [] (htab.trans rfl) (fun z hz => Or.inr (by rw [List.mem_singleton.mp hz]; exact ⟨by decide, eIA, hq _ pw_2229, hE.pc.2.2.1⟩)) (by decide) (by decide) (hq _ pw_2332) hE.pc.1.use hce hcv hcl ?_
      refine W.eq (g2 := F0 m 17 ls [.ref q9]) rfl ?_
      refine lv_astore (lv' := [(4, .ref q9), (0, .ref h0), (1, .int x), (2, .int y), (3, .ref o)]) hx hb dL_run_17 hl (by decide) rfl (fun ls hl => ?_)
      refine lv_iconst (v := 2) hx hb dL_run_19 (by decide) ?_
      refine W.widen (k := 1) (n := 6) (by show 0 + 1 ≤ 1; omega) (by show 0 + 6 ≤ 6; omega) ?_
      exact W.iret (v := 2) hx hb hr (fun t99 ht99 hW99 => ⟨⟨_, (w, f), rfl, ⟨⟨_, rfl⟩, h⟩, by rw [ht99]; exact hP, hD⟩, hS.F ht99⟩) hS.2.2 dL_run_20
    · refine vx_catch (own := RL) (name := eIA) (E := eIA) hown [] ⟨0, 10, 13, 13⟩ [⟨0, 10, 17, 15⟩] (htab.trans rfl) (fun z hz => nomatch hz) (by decide) (by decide) (hq _ pw_2229) hE.pc.2.1.use hce hcv hcl ?_
      refine W.eq (g2 := F0 m 13 ls [.ref q9]) rfl ?_
      refine lv_astore (lv' := [(4, .ref q9), (0, .ref h0), (1, .int x), (2, .int y), (3, .ref o)]) hx hb dL_run_13 hl (by decide) rfl (fun ls hl => ?_)
      refine lv_iconst (v := 1) hx hb dL_run_15 (by decide) ?_
      refine W.widen (k := 1) (n := 6) (by show 0 + 1 ≤ 1; omega) (by show 0 + 6 ≤ 6; omega) ?_
      exact W.iret (v := 1) hx hb hr (fun t99 ht99 hW99 => ⟨⟨_, (w, f), rfl, ⟨⟨_, rfl⟩, h⟩, by rw [ht99]; exact hP, hD⟩, hS.F ht99⟩) hS.2.2 dL_run_16
