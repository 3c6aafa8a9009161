/-! methods that throw, methods with a table, arrays of Decl: contracts and rows of calls -/
/-- words of a throw that are told apart, and the names of the classes between E and Throwable -/
abbrev xBd (cls : String) : List Cond := [Cond.castable cls cls, Cond.declares (Bundle.initS "java/lang/RuntimeException"), Cond.declares (Bundle.initS "java/lang/Exception"), Cond.declares (Bundle.initS Bundle.tN)]
abbrev xNm : List String := ["java/lang/RuntimeException", "java/lang/Exception"]
def pX {S : Type} (G : pT) (A : Nat → Prop) (E0 : String) (w1 : S → va_W) : String → State → State → Prop := vx_X (fun _ : S => True) (fun E u t => E = E0 ∧ va_P G.1 pCl (w1 u) t.heap ∧ va_D A (w1 u)) A
/-- a contract of a method that throws E0 and leaves the world 'w1 u' -/
def PX (l : Launch) (G : pT) (X : State → Prop) (y : MethodName) (cc : ByteArray) (n : Nat) (ret : Option FieldType) (rm : Room) (av : List Value) (w : va_W) {S : Type} (E0 : String) (w1 : S → va_W) : Prop :=
  ∀ sz : Nat, vx_Met l y (Cond.code y cc n ret :: pw) rm (pPc G X av w sz) (fun _ _ _ _ => False) (pX G (va_A w sz) E0 w1) rm.cells rm.slots (va_A w sz)
/-- a contract of a method with a table of handlers that returns -/
def PMW (l : Launch) (G : pT) (X : State → Prop) (y : MethodName) (cc : ByteArray) (n : Nat) (ret : Option FieldType) (hh : List (Nat × Nat × Nat × Nat)) (rm : Room) (av : List Value) (w : va_W) {S : Type} (Q : Option Value → S → Prop) (w1 : S → va_W) : Prop :=
  ∀ sz : Nat, Met l y (Cond.codeWith y cc n ret hh :: pw) rm (pPc G X av w sz) (pQ G (va_A w sz) Q w1) rm.cells rm.slots (va_A w sz)
section PXS
variable {p : Program} {l : Launch} {e : Env} {R : Room} {s : State} {m : MethodId} {args : Array Value} {below : List Frame} {meth : Method} {c : Code} {H : Heap} {locs : List Loc} {cells slots : Nat} {Qg : State → Prop}
variable {cc bytes : ByteArray} {pc nL maxL mc ms idx n : Nat} {ls : Array Slot} {st0 rest As : List Value} {A0 : Nat → Prop} {ws wc wr : va_W} {G : pT} {X : State → Prop} {own C : String} {y : MethodName} {ret : Option FieldType} {rm : Room} {b : Nat}
/-- behind a call that throws: the callee's world beside what the caller has else -/
theorem px_go {S : Type} {E0 : String} {w1 : S → va_W} {Qa : State → Outcome → State → Prop} (hQa : ∀ st o t, ¬ Qa st o t) (hr : vx_Run p l e R s m args below meth c H locs cells slots mc ms (F0 m pc ls st0) rest Qa (pX G (va_A wc H.size) E0 w1) (va_A wc H.size))
    (hP : va_P G.1 pCl ws H) (hD : va_D A0 ws) (hS : va_S A0 s.heap H locs) (hA : ∀ q, s.heap.size ≤ q → A0 q) (isC isR : List Nat) (hC : isC.map (fun i => ws[i]?) = wc.map some) (hR : isR.map (fun i => ws[i]?) = wr.map some) (hn : va_nd isR = true) (hdis : ∀ i ∈ isR, i ∉ isC)
    (kx : ∀ (u : S) (ce : Cell) (q9 : Addr) (H1 : Heap) (locs1 : List Loc), va_P G.1 pCl (wr ++ w1 u) H1 → va_D A0 (wr ++ w1 u) → va_S A0 s.heap H1 locs1 → H1[q9]? = some ce → ce.vm = .none → s.vm.findClass E0 = some ce.cls → vx_W p l e R s m args below meth c H1 locs1 (cells + mc) (slots + ms) Qg (F0 m pc ls rest) q9) : W p l e R s m args below meth c H locs cells slots Qg (F0 m pc ls st0) := by
  have hF := va_free (wc := wc) hD hS hA isC hC
  intro T hT Y
  rcases hr T hT Y with ⟨v, st₀, t, T', L, h0, Y', hL, e1, e2, hq, st⟩ | ⟨q, st₀, t, T', L, E, ce, h0, Y', hL, e1, e2, ⟨u, -, ⟨hE0, hP1, hD1⟩, hz, hk⟩, hce, hcv, hcl, st⟩
  · exact absurd hq (hQa _ _ _)
  · rw [hE0] at hcl
    rw [h0] at hz hk
    have hk' : ∀ q : Nat, q < H.size → ¬ va_A wc H.size q → T'.heap[q]? = H[q]? := fun q h1 h2 => by rw [e1]; exact hk q h1 h2
    obtain ⟨hP2, hD2⟩ := va_join (w1 := w1 u) hP hD isC isR hC hR hn hdis hk' hF (by rw [e1]; exact hP1) hD1
    obtain ⟨t2, a1, b1⟩ := kx u ce q T'.heap (locs ++ L) hP2 hD2
      ⟨Nat.le_trans hS.1 (by rw [e1]; exact hz), fun q h1 h2 => by rw [hk' q (Nat.lt_of_lt_of_le h1 hS.1) (fun z => h2 (hF q z))]; exact hS.2.1 q h1 h2, fun q hq => by
        rcases List.mem_append.mp hq with h | h
        · exact hS.2.2 q h
        · exact hF _ (hL q h)⟩ (by rw [e1]; exact hce) hcv hcl T' rfl Y'
    exact ⟨t2, st.trans a1, b1⟩
/-- invokevirtual of a method that throws -/
theorem px_V {S : Type} {E0 : String} {w1 : S → va_W} (hx : p.tables.exec = Jvm.exec) (hb : c.code = cc) (hml : c.maxLocals = nL) (hown : s.vm.findClass own = some m.cls) (hq : ∀ w ∈ pw, w.before args s = true) (hE : pE G A0 s s.heap) (hX : X s) (hXm : pAl X)
    (hP : va_P G.1 pCl ws H) (hD : va_D A0 ws) (hS : va_S A0 s.heap H locs) (hA : ∀ q, s.heap.size ≤ q → A0 q) (hl : ls.size = nL)
    (hM : PX l G X y bytes maxL ret rm (.ref b :: As) wc E0 w1) (g : GoodIn pw (wsV own idx C y (Cond.code y bytes maxL ret :: pw)))
    (hd : y.cls = C ∧ y.cls ≠ "java/lang/invoke/MethodHandle" ∧ y.cls ≠ "java/lang/invoke/VarHandle" ∧ (parseMethodDescriptor y.desc).map (fun d => d.parameters.length) = some As.length)
    (qr ci : Nat) {fs : List Value} {r : vw_C} (hr1 : ws[qr]? = some (b, .inr (ci, fs))) (hr2 : pCl[ci]? = some r) (hr3 : r.1 = C)
    (isC isR : List Nat) (hC : isC.map (fun i => ws[i]?) = wc.map some) (hR : isR.map (fun i => ws[i]?) = wr.map some) (hnC : va_nd isC = true) (hn : va_nd isR = true) (hdis : ∀ i ∈ isR, i ∉ isC)
    (hst : st0 = As.reverse ++ .ref b :: rest) (hW : (rest.map fun v => v.category).sum ≤ 8) (hdg : decode cc pc = .ok (.invokevirtual idx, 3)) (hf : cells + rm.cells ≤ R.cells ∧ slots + rm.slots ≤ R.slots) (hRm : rm.frames + 1 ≤ R.frames ∧ 8 + (maxL + 11) + rm.locals ≤ R.locals)
    (kx : ∀ (u : S) (ce : Cell) (q9 : Addr) (H1 : Heap) (locs1 : List Loc), va_P G.1 pCl (wr ++ w1 u) H1 → va_D A0 (wr ++ w1 u) → va_S A0 s.heap H1 locs1 → H1[q9]? = some ce → ce.vm = .none → s.vm.findClass E0 = some ce.cls → vx_W p l e R s m args below meth c H1 locs1 (cells + rm.cells) (slots + rm.slots) Qg (F0 m pc ls rest) q9) : W p l e R s m args below meth c H locs cells slots Qg (F0 m pc ls st0) := by
  subst hst
  obtain ⟨cell, g1, g2, g3⟩ := va_recv hE.1.1 hP hr2 hr1
  rw [hr3] at g3
  exact px_go (fun _ _ _ h => h) (vx_runV (As := As) (rest := rest) ⟨hx, hb, hml, hown, hq⟩ (hM H.size) (cwV As.length hq g rfl rfl rfl hd hRm) ⟨pPc.blind hXm, ⟨cell, g1, g2, g3⟩, pc_pre (av := .ref b :: As) hE hX hXm hP hD hS hA hC hnC⟩ rfl rfl hl rfl (lv_room hW) hdg hf) hP hD hS hA isC isR hC hR hn hdis kx
/-- invokevirtual of a method with a table -/
theorem pc_VW {hh : List (Nat × Nat × Nat × Nat)} {S : Type} {Q : Option Value → S → Prop} {w1 : S → va_W} (hx : p.tables.exec = Jvm.exec) (hb : c.code = cc) (hml : c.maxLocals = nL) (hown : s.vm.findClass own = some m.cls) (hq : ∀ w ∈ pw, w.before args s = true) (hE : pE G A0 s s.heap) (hX : X s) (hXm : pAl X)
    (hP : va_P G.1 pCl ws H) (hD : va_D A0 ws) (hS : va_S A0 s.heap H locs) (hA : ∀ q, s.heap.size ≤ q → A0 q) (hl : ls.size = nL)
    (hM : PMW l G X y bytes maxL ret hh rm (.ref b :: As) wc Q w1) (g : GoodIn pw (wsV own idx C y (Cond.codeWith y bytes maxL ret hh :: pw)))
    (hd : y.cls = C ∧ y.cls ≠ "java/lang/invoke/MethodHandle" ∧ y.cls ≠ "java/lang/invoke/VarHandle" ∧ (parseMethodDescriptor y.desc).map (fun d => d.parameters.length) = some As.length)
    (qr ci : Nat) {fs : List Value} {r : vw_C} (hr1 : ws[qr]? = some (b, .inr (ci, fs))) (hr2 : pCl[ci]? = some r) (hr3 : r.1 = C)
    (isC isR : List Nat) (hC : isC.map (fun i => ws[i]?) = wc.map some) (hR : isR.map (fun i => ws[i]?) = wr.map some) (hnC : va_nd isC = true) (hn : va_nd isR = true) (hdis : ∀ i ∈ isR, i ∉ isC)
    (hst : st0 = As.reverse ++ .ref b :: rest) (hW : (rest.map fun v => v.category).sum ≤ 8) (hdg : decode cc pc = .ok (.invokevirtual idx, 3)) (hf : cells + rm.cells ≤ R.cells ∧ slots + rm.slots ≤ R.slots) (hRm : rm.frames + 1 ≤ R.frames ∧ 8 + (maxL + 11) + rm.locals ≤ R.locals)
    (kk : ∀ (v : Option Value) (u : S) (H1 : Heap) (locs1 : List Loc), Q v u → va_P G.1 pCl (wr ++ w1 u) H1 → va_D A0 (wr ++ w1 u) → va_S A0 s.heap H1 locs1 → W p l e R s m args below meth c H1 locs1 (cells + rm.cells) (slots + rm.slots) Qg (F0 m (pc + 3) ls (v.toList ++ rest))) : W p l e R s m args below meth c H locs cells slots Qg (F0 m pc ls st0) := by
  subst hst
  obtain ⟨cell, g1, g2, g3⟩ := va_recv hE.1.1 hP hr2 hr1
  rw [hr3] at g3
  exact pc_go (vx_runVW (As := As) (rest := rest) ⟨hx, hb, hml, hown, hq⟩ (hM H.size) (vx_cwVW As.length hq g rfl rfl rfl hd hRm) ⟨pPc.blind hXm, ⟨cell, g1, g2, g3⟩, pc_pre (av := .ref b :: As) hE hX hXm hP hD hS hA hC hnC⟩ rfl rfl hl rfl (lv_room hW) hdg hf) hP hD hS hA isC isR hC hR hn hdis kk
/-- invokestatic of a method with a table -/
theorem pc_SW {hh : List (Nat × Nat × Nat × Nat)} {S : Type} {Q : Option Value → S → Prop} {w1 : S → va_W} (hx : p.tables.exec = Jvm.exec) (hb : c.code = cc) (hml : c.maxLocals = nL) (hown : s.vm.findClass own = some m.cls) (hq : ∀ w ∈ pw, w.before args s = true) (hE : pE G A0 s s.heap) (hX : X s) (hXm : pAl X)
    (hP : va_P G.1 pCl ws H) (hD : va_D A0 ws) (hS : va_S A0 s.heap H locs) (hA : ∀ q, s.heap.size ≤ q → A0 q) (hl : ls.size = nL)
    (hM : PMW l G X y bytes maxL ret hh rm As wc Q w1) (g : GoodIn pw (va_wsS own idx y (Cond.codeWith y bytes maxL ret hh :: pw)))
    (hd : y.cls ≠ "java/lang/invoke/MethodHandle" ∧ y.cls ≠ "java/lang/invoke/VarHandle" ∧ (parseMethodDescriptor y.desc).map (fun d => d.parameters.length) = some As.length)
    (isC isR : List Nat) (hC : isC.map (fun i => ws[i]?) = wc.map some) (hR : isR.map (fun i => ws[i]?) = wr.map some) (hnC : va_nd isC = true) (hn : va_nd isR = true) (hdis : ∀ i ∈ isR, i ∉ isC)
    (hst : st0 = As.reverse ++ rest) (hW : (rest.map fun v => v.category).sum ≤ 8) (hdg : decode cc pc = .ok (.invokestatic idx, 3)) (hf : cells + rm.cells ≤ R.cells ∧ slots + rm.slots ≤ R.slots) (hRm : rm.frames + 1 ≤ R.frames ∧ 8 + (maxL + 11) + rm.locals ≤ R.locals)
    (kk : ∀ (v : Option Value) (u : S) (H1 : Heap) (locs1 : List Loc), Q v u → va_P G.1 pCl (wr ++ w1 u) H1 → va_D A0 (wr ++ w1 u) → va_S A0 s.heap H1 locs1 → W p l e R s m args below meth c H1 locs1 (cells + rm.cells) (slots + rm.slots) Qg (F0 m (pc + 3) ls (v.toList ++ rest))) : W p l e R s m args below meth c H locs cells slots Qg (F0 m pc ls st0) := by
  subst hst
  exact pc_go (vx_runSW (As := As) (rest := rest) ⟨hx, hb, hml, hown, hq⟩ (hM H.size) (vx_cwSW As.length hq g rfl rfl rfl hd hRm) ⟨pPc.blind hXm, pc_pre (av := As) hE hX hXm hP hD hS hA hC hnC⟩ rfl rfl hl rfl (lv_room hW) hdg hf) hP hD hS hA isC isR hC hR hn hdis kk
/-- what a callee has thrown goes on to the caller -/
theorem px_out {S : Type} {E0 : String} {w1 : S → va_W} {Qc : Array Value → State → Outcome → State → Prop} (u : S) {q9 : Addr} {ce : Cell} (hnt : ∀ x ∈ c.exceptionTable.toList, False) (hlocks : meth.locks = false) (hcell : H[q9]? = some ce) (hv : ce.vm = .none) (hcl : s.vm.findClass E0 = some ce.cls)
    (hP : va_P G.1 pCl ws H) (hD : va_D A0 ws) (hS : va_S A0 s.heap H locs) (is : List Nat) (hnd : va_nd is = true) (hsub0 : is.filterMap (fun i => ws[i]?) = w1 u) (hsub : is.map (fun i => ws[i]?) = (w1 u).map some) (hc : cells ≤ mc) (hs : slots ≤ ms) :
    vx_W p l e R s m args below meth c H locs cells slots (vx_MQ below Qc (pX G A0 E0 w1) args s mc ms A0) (F0 m pc ls rest) q9 :=
  vx_out (fun x hx => (hnt x hx).elim) hlocks hcell hv hcl (fun t ht _ => ⟨u, trivial, ⟨rfl, by rw [ht]; exact hP.sub is hsub0, hD.sub is hnd hsub⟩, hS.F ht⟩) hS.2.2 hc hs
/-- 'throw new E("text")' -/
theorem px_throw {S : Type} {cls E0 text : String} {w1 : S → va_W} {Qc : Array Value → State → Outcome → State → Prop} {ik is ic sa : Nat} (u : S) (hx : p.tables.exec = Jvm.exec) (hb : c.code = cc) (hl0 : l.stackTraces = false) (hown : s.vm.findClass own = some m.cls) (hq : ∀ w ∈ pw, w.before args s = true) (hE : pE G A0 s s.heap) (hcE : cls = E0)
    (hf : Bundle.fit cls = true ∧ ∀ n ∈ xNm, Bundle.fit n = true) (hk : Cond.classLink own ik cls ∈ pw) (hini : Cond.initialized cls ∈ pw) (hstr : vk_R own is text sa s) (hat : ∀ w ∈ (vx_atS own ic cls xNm).filter goodWord, w ∈ pw) (hbad : ∀ w ∈ (vx_atS own ic cls xNm).filter (fun w => !goodWord w), w ∈ xBd cls) (hca : pCa cls cls s)
    (hgood : ∀ w ∈ Cond.classLink own ik cls :: Cond.initialized cls :: vx_atS own ic cls xNm, vx_ot w = true) (hnt : ∀ x ∈ c.exceptionTable.toList, False) (hlocks : meth.locks = false) (hml : c.maxLocals = nL) (hl : ls.size = nL)
    (hP : va_P G.1 pCl ws H) (hD : va_D A0 ws) (hS : va_S A0 s.heap H locs) (isw : List Nat) (hnd : va_nd isw = true) (hsub0 : isw.filterMap (fun i => ws[i]?) = w1 u) (hsub : isw.map (fun i => ws[i]?) = (w1 u).map some)
    (d0 : decode cc pc = .ok (.new ik, 3)) (d3 : decode cc (pc + 3) = .ok (.dup, 1)) (d4 : decode cc (pc + 4) = .ok (.ldc is, 2)) (d6 : decode cc (pc + 6) = .ok (.invokespecial ic, 3)) (d9 : decode cc (pc + 9) = .ok (.athrow, 1))
    (hRf : 6 ≤ R.frames) (hRl : (rest.map fun v => v.category).sum + 82 ≤ R.locals) (hRc : cells + 1 ≤ R.cells) (hRs : slots + 6 ≤ R.slots) (hc : cells + 1 ≤ mc) (hs : slots + 6 ≤ ms) :
    W p l e R s m args below meth c H locs cells slots (vx_MQ below Qc (pX G A0 E0 w1) args s mc ms A0) (F0 m pc ls rest) := by
  refine vx_throwS (names := xNm) (text := text) (sa := sa) hx hb hl0 hown hf.1 hf.2 (hq _ hk) (hq _ hini) hstr (vx_hat (fun w hw => hq _ (hat w hw)) hbad (vx_c hca.use (vx_c (pDc_moved (Vm.Alike.refl _) hE.pc.2.2.2.2.1.1) (vx_c (pDc_moved (Vm.Alike.refl _) hE.pc.2.2.2.2.1.2.1) (vx_c (pDc_moved (Vm.Alike.refl _) hE.pc.2.2.2.2.1.2.2) vx_n))))) hgood hE.th.1 hE.th.2 hS (by rw [hml]; exact hl) d0 d3 d4 d6 d9 (fun x hx => (hnt x hx).elim) hRf hRl hRc hRs hlocks (fun t _ hz hk9 => ?_) hS.2.2 hc hs
  have hk1 : ∀ (k : Nat) (x : Nat × va_E), ws[k]? = some x → t.heap[x.1]? = H[x.1]? := fun k x hx => hk9 x.1 ((hP k x hx).lt)
  exact ⟨u, trivial, ⟨hcE, (hP.kept hk1).sub isw hsub0, hD.sub isw hnd hsub⟩, Nat.le_trans hS.1 hz, fun q h1 h2 => by rw [hk9 q (Nat.lt_of_lt_of_le h1 hS.1)]; exact hS.2.1 q h1 h2⟩
/-- anewarray, of a class that is known -/
theorem pn_newq (hx : p.tables.exec = Jvm.exec) (hb : c.code = cc) {index : Nat} (hown : s.vm.findClass own = some m.cls) (hclink : (Cond.classLink own index C).before args s = true) (hover : va_AO C s) {cA0 : ClassId} (hf : s.vm.findClass ("[" ++ (FieldType.object C).toString) = some cA0) (hK : va_K G.1 pCl (pTy G.2.1) s) (hP : va_P G.1 pCl ws H) (hD : va_D A0 ws) (hS : va_S A0 s.heap H locs) (hA : ∀ q, s.heap.size ≤ q → A0 q)
    {k : Int32} {N' : Nat} (hn : ¬ k < 0) (hN : k.toNatClampNeg = N') (hbytes : N' * 4 ≤ 536870912) (hcells : cells + 1 ≤ R.cells) (hslots : slots + N' ≤ R.slots) (hdg : decode cc pc = .ok (.anewarray index, 3))
    (kk : ∀ (q : Nat) (H1 : Heap), va_P G.1 pCl (ws ++ [(q, .inl (cA0, N', .inr (.inr (.inr (.inr (fun _ => none))))))]) H1 → va_D A0 (ws ++ [(q, .inl (cA0, N', .inr (.inr (.inr (.inr (fun _ => none))))))]) → va_S A0 s.heap H1 locs →
      W p l e R s m args below meth c H1 locs (cells + 1) (slots + N') Qg (F0 m (pc + 3) ls (.ref q :: rest))) : W p l e R s m args below meth c H locs cells slots Qg (F0 m pc ls (.int k :: rest)) := by
  refine va_newq hx hb hown hclink hover hK hP hD hS hA hn hN hbytes hcells hslots hdg fun q cA H1 hK1 hP1 hD1 hS1 => ?_
  obtain ⟨-, kA, comp, -, -, -, f1⟩ := hK1.2 6 (cA, .object C) rfl
  cases Option.some.inj (f1.symm.trans hf)
  exact kk q H1 hP1 hD1 hS1
end PXS
/-- seven Decls, at the places d -/
def dcl (d : Nat → Nat) : Nat → Option Nat := fun k => if k < 7 then some (d k) else none
theorem xw_0 : ∀ w ∈ (vx_atS RX10 152 eIS xNm).filter goodWord, w ∈ pw := fun w h => pin_pwx_0 w h
theorem xb_0 : ∀ w ∈ (vx_atS RX10 152 eIS xNm).filter (fun w => !goodWord w), w ∈ xBd eIS := by decide +kernel
theorem xg_0 : ∀ w ∈ Cond.classLink RX10 148 eIS :: Cond.initialized eIS :: vx_atS RX10 152 eIS xNm, vx_ot w = true := by decide +kernel
theorem xw_1 : ∀ w ∈ (vx_atS RX9 113 eIS xNm).filter goodWord, w ∈ pw := fun w h => pin_pwx_1 w h
theorem xb_1 : ∀ w ∈ (vx_atS RX9 113 eIS xNm).filter (fun w => !goodWord w), w ∈ xBd eIS := by decide +kernel
theorem xg_1 : ∀ w ∈ Cond.classLink RX9 109 eIS :: Cond.initialized eIS :: vx_atS RX9 113 eIS xNm, vx_ot w = true := by decide +kernel
theorem xw_2 : ∀ w ∈ (vx_atS RX11 170 eIA xNm).filter goodWord, w ∈ pw := fun w h => pin_pwx_2 w h
theorem xb_2 : ∀ w ∈ (vx_atS RX11 170 eIA xNm).filter (fun w => !goodWord w), w ∈ xBd eIA := by decide +kernel
theorem xg_2 : ∀ w ∈ Cond.classLink RX11 166 eIA :: Cond.initialized eIA :: vx_atS RX11 170 eIA xNm, vx_ot w = true := by decide +kernel
theorem xw_3 : ∀ w ∈ (vx_atS RX11 175 eIS xNm).filter goodWord, w ∈ pw := fun w h => pin_pwx_3 w h
theorem xb_3 : ∀ w ∈ (vx_atS RX11 175 eIS xNm).filter (fun w => !goodWord w), w ∈ xBd eIS := by decide +kernel
theorem xg_3 : ∀ w ∈ Cond.classLink RX11 86 eIS :: Cond.initialized eIS :: vx_atS RX11 175 eIS xNm, vx_ot w = true := by decide +kernel
theorem xf_IS : Bundle.fit eIS = true ∧ ∀ n ∈ xNm, Bundle.fit n = true := by decide +kernel
theorem xf_IA : Bundle.fit eIA = true ∧ ∀ n ∈ xNm, Bundle.fit n = true := by decide +kernel
