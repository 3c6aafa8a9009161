/-! what every contract here is made of: the worlds' classes, what is given of the start, a contract's form, the rows for calls -/
abbrev pCl : List vw_C := [(RX0, TX0, 13), (RX1, TX1, 13), (RX2, TX2, 13), (RX3, TX3, 5), (RX5, TX5, 19), (RX8, TX8, 5), (RX9, TX9, 5), (RX10, TX10, 15), (RX11, TX11, 8), (RX12, TX12, 134), (RJx4a65c, TJx4a65c, 3), (RX4, TX4, 6), (RX6, TX6, 12), (RX7, TX7, 11)]
/-- the classes' places and slots, the array classes, the constants' addresses, their rows', ArrayList's empty row -/
abbrev pT : Type := va_G × (Nat → ClassId) × (Nat → Nat) × (Nat → Nat) × Nat
abbrev pTy (cs : Nat → ClassId) : List (ClassId × FieldType) := [(cs 0, .int), (cs 1, .byte), (cs 2, .long), (cs 3, .boolean), (cs 4, .object "JinjaTongue$Decl"), (cs 5, .object "java/lang/Object")]
def pK (G : pT) (U : State) : Prop := va_K G.1 pCl (pTy G.2.1) U ∧ U.vm.findClass ("[" ++ FieldType.toString .int) = some (G.2.1 0) ∧ U.vm.findClass ("[" ++ FieldType.toString .byte) = some (G.2.1 1) ∧ U.vm.findClass ("[" ++ FieldType.toString .long) = some (G.2.1 2) ∧ U.vm.findClass ("[" ++ FieldType.toString .boolean) = some (G.2.1 3) ∧ U.vm.findClass ("[" ++ (FieldType.object "JinjaTongue$Decl").toString) = some (G.2.1 4) ∧ U.vm.findClass ("[" ++ (FieldType.object "java/lang/Object").toString) = some (G.2.1 5)
theorem pK.moved {G : pT} {u U : State} (hvm : u.vm.Alike U.vm) (h : pK G u) : pK G U := by
  obtain ⟨h0, h1, h2, h3, h4, h5, h6⟩ := h
  exact ⟨va_K.moved hvm h0, by rw [hvm.findClass]; exact h1, by rw [hvm.findClass]; exact h2, by rw [hvm.findClass]; exact h3, by rw [hvm.findClass]; exact h4, by rw [hvm.findClass]; exact h5, by rw [hvm.findClass]; exact h6⟩
/-- 'castable', as the tables have it -/
def pCa (C T : String) (U : State) : Prop := ∃ c t : ClassId, U.vm.findClass C = some c ∧ U.vm.findClass T = some t ∧ U.vm.assignable c t = true
theorem pCa.moved {C T : String} {u U : State} (hvm : u.vm.Alike U.vm) (h : pCa C T u) : pCa C T U := by
  obtain ⟨c, t, h1, h2, h3⟩ := h
  exact ⟨c, t, by rw [hvm.findClass]; exact h1, by rw [hvm.findClass]; exact h2, by rw [hvm.assignable]; exact h3⟩
theorem pCa.use {C T : String} {U : State} {args : Array Value} (h : pCa C T U) : (Cond.castable C T).before args U = true := by
  obtain ⟨c, t, h1, h2, h3⟩ := h
  simp only [Cond.before, Cond.holds, Cond.value, h1, h2, h3]
  rfl
theorem pCa.of {C T : String} {U : State} {args : Array Value} (h : (Cond.castable C T).before args U = true) : pCa C T U := Cond.castable_spec h
abbrev eIS : String := "java/lang/IllegalStateException"
abbrev eIA : String := "java/lang/IllegalArgumentException"
theorem pDc_moved {x : MethodName} {u U : State} {A A' : Array Value} (hvm : u.vm.Alike U.vm) (h : (Cond.declares x).before A u = true) : (Cond.declares x).before A' U = true := by
  have h1 : (Cond.declares x).before A (u.setVm U.vm) = true := Cond.faceAtom_setVm (args := A) hvm (.declares x) rfl h
  rw [Cond.onTables_vm (A' := A') (U' := U) U.vm (.declares x) rfl] at h1
  exact h1
/-- the constructors of the classes above an exception -/
def pDc (U : State) : Prop := (Cond.declares (Bundle.initS "java/lang/RuntimeException")).before #[] U = true ∧ (Cond.declares (Bundle.initS "java/lang/Exception")).before #[] U = true ∧ (Cond.declares (Bundle.initS Bundle.tN)).before #[] U = true
theorem pDc.moved {u U : State} (hvm : u.vm.Alike U.vm) (h : pDc u) : pDc U := ⟨pDc_moved hvm h.1, pDc_moved hvm h.2.1, pDc_moved hvm h.2.2⟩
/-- what throwing and catching want of the tables, and the array class of Decl -/
def pC (U : State) : Prop := pCa eIS eIS U ∧ pCa eIA eIA U ∧ va_Nc eIS eIA U ∧ va_AO "JinjaTongue$Decl" U ∧ pDc U ∧ va_AO "java/lang/Object" U ∧ pCa "JinjaTongue$Node" "JinjaTongue$Node" U ∧ pCa "JinjaTongue$Method" "JinjaTongue$Method" U ∧ pCa "JinjaTongue$Node" "java/lang/Object" U ∧ pCa "JinjaTongue$Method" "java/lang/Object" U
theorem pC.moved {u U : State} (hvm : u.vm.Alike U.vm) (h : pC u) : pC U := ⟨h.1.moved hvm, h.2.1.moved hvm, h.2.2.1.moved hvm, h.2.2.2.1.moved hvm, h.2.2.2.2.1.moved hvm, h.2.2.2.2.2.1.moved hvm, h.2.2.2.2.2.2.1.moved hvm, h.2.2.2.2.2.2.2.1.moved hvm, h.2.2.2.2.2.2.2.2.1.moved hvm, h.2.2.2.2.2.2.2.2.2.moved hvm⟩
/-- the two statics that a Throwable takes -/
def pTh (A : Nat → Prop) (U : State) (H : Heap) : Prop := vx_Zq Bundle.tN "UNASSIGNED_STACK" Bundle.steD A U H ∧ vx_Zq Bundle.tN "SUPPRESSED_SENTINEL" Bundle.listD A U H
theorem pTh.moved {A : Nat → Prop} {u U : State} {H : Heap} (hvm : u.vm.Alike U.vm) (h : pTh A u H) : pTh A U H := ⟨vx_Zq.moved hvm h.1, vx_Zq.moved hvm h.2⟩
theorem pTh.kept {A : Nat → Prop} {U : State} {H H1 : Heap} (h : pTh A U H) (hq : ∀ a : Nat, a < H.size → ¬ A a → H1[a]? = H[a]?) : pTh A U H1 := ⟨vx_Zq.kept h.1 hq, vx_Zq.kept h.2 hq⟩
theorem pTh.narrow {A B : Nat → Prop} {U : State} {H : Heap} (h : pTh A U H) (hAB : ∀ q, B q → A q) : pTh B U H := ⟨vx_Zq.narrow h.1 hAB, vx_Zq.narrow h.2 hAB⟩
/-- the string constants whose contents count: owner, entry, text -/
def sOwn : List (String × Nat × String) := [(RX10, 11, "as boolean break catch class continue else extends false finally for if implements int interface is "), (RX10, 13, "length new null print read return super this throw true try void while "), (RX10, 15, "Object Null Cast Zero Index Store Size Main main "), (RX12, 292, "Object"), (RX12, 298, "Null"), (RX12, 300, "Cast"), (RX12, 302, "Zero"), (RX12, 304, "Index"), (RX12, 306, "Store"), (RX12, 308, "Size"), (RX12, 310, "Main"), (RX12, 312, "main"), (RX9, 111, "the names are at fault"), (RX11, 168, "fuel is 0 .. 20000, cells are 10 .. 3000"), (RX11, 173, "there is no program"), (RX10, 138, "<=>===!=&&||<<>>"), (RX10, 140, "{}()[];,.?:=+-*/%&|^~!<>"), (RX10, 150, "the text is at fault"), (RX12, 265, "as boolean break catch class continue else extends false finally for if implements int interface is length new null print read return super this throw true try void while ")]
def sByt : List (List Int32) := sOwn.map (fun q => q.2.2.toList.map (fun ch => nI ch.toNat))
def sLen : List Nat := sByt.map List.length
/-- getClass of a row of references -/
def pMi (U : State) : Prop := (∃ mi : Nat, va_Mi "[Ljava/lang/Object;" mi U) ∧ va_Dc U
theorem pMi.moved {u U : State} (hvm : u.vm.Alike U.vm) (h : pMi u) : pMi U := ⟨h.1.imp (fun _ z => z.moved hvm), h.2.moved hvm⟩
/-- what is given of the start, as long as no cell of A is among it -/
def pE (G : pT) (A : Nat → Prop) (U : State) (H : Heap) : Prop := pK G U ∧ vk_S 19 sLen sByt G.2.2.1 G.2.2.2.1 A U H ∧ (∀ i : Nat, i < 19 → vk_R (sOwn.getD i ("", 0, "")).1 (sOwn.getD i ("", 0, "")).2.1 (sOwn.getD i ("", 0, "")).2.2 (G.2.2.1 i) U) ∧ va_Z "java/lang/String" "COMPACT_STRINGS" "Z" (.int 1) A U H ∧ va_Zq "jdk/internal/util/Preconditions" "SIOOBE_FORMATTER" "Ljava/util/function/BiFunction;" A U H ∧ va_Z "java/util/ArrayList" "DEFAULTCAPACITY_EMPTY_ELEMENTDATA" "[Ljava/lang/Object;" (.ref G.2.2.2.2) A U H ∧ pTh A U H ∧ pC U ∧ vk_R RX12 287 "{}()[];,.?:=+-*/%&|^~!<>" (G.2.2.1 16) U ∧ va_T (.object "java/lang/Object") G.2.2.2.2 0 (fun _ => .null) A U H ∧ pMi U
theorem pE.to {G : pT} {A B : Nat → Prop} {s U : State} {H : Heap} (h : pE G A s s.heap) (hW : s.WarmedH U.vm) (hk : ∀ a : Nat, a < s.heap.size → ¬ A a → H[a]? = s.heap[a]?) (hB : ∀ q, B q → A q) : pE G B U H := by
  obtain ⟨h0, h1, h2, h3, h4, h5, h6, h7, h8, h9, h10⟩ := h
  exact ⟨h0.moved hW.alike, (vk_S.moved hW.alike (h1.kept hk)).narrow hB, fun i hi => (h2 i hi).warm hW, (va_Z.moved hW.alike (h3.kept hk)).narrow hB, (va_Zq.moved hW.alike (h4.kept hk)).narrow hB, (va_Z.moved hW.alike (h5.kept hk)).narrow hB, (pTh.moved hW.alike (h6.kept hk)).narrow hB, h7.moved hW.alike, h8.warm hW, (va_T.moved hW.alike (h9.kept hk)).narrow hB, h10.moved hW.alike⟩
theorem pE.th {G : pT} {A : Nat → Prop} {U : State} {H : Heap} (h : pE G A U H) : pTh A U H := h.2.2.2.2.2.2.1
theorem pE.pc {G : pT} {A : Nat → Prop} {U : State} {H : Heap} (h : pE G A U H) : pC U := h.2.2.2.2.2.2.2.1
theorem pE.same {G : pT} {A : Nat → Prop} {u U : State} {H : Heap} (h : pE G A u H) (hv : U.vm = u.vm) : pE G A U H := by
  have ha : u.vm.Alike U.vm := by rw [hv]; exact Vm.Alike.refl _
  obtain ⟨h0, h1, h2, h3, h4, h5, h6, h7, h8, h9, h10⟩ := h
  exact ⟨h0.moved ha, vk_S.moved ha h1, fun i hi => (h2 i hi).same hv, va_Z.moved ha h3, va_Zq.moved ha h4, va_Z.moved ha h5, pTh.moved ha h6, h7.moved ha, h8.same hv, va_T.moved ha h9, h10.moved ha⟩
/-- a condition on the tables alone -/
def pAl (X : State → Prop) : Prop := ∀ u U : State, u.vm.Alike U.vm → X u → X U
def pX0 : State → Prop := fun _ => True
theorem pX0_al : pAl pX0 := fun _ _ _ h => h
def pPc (G : pT) (X : State → Prop) (av : List Value) (w : va_W) (sz : Nat) : Array Value → State → Prop := va_Pc av (fun U => U.heap.size = sz ∧ va_P G.1 pCl w U.heap ∧ va_D (fun _ => True) w ∧ pE G (va_A w sz) U U.heap ∧ X U)
def pQ {S : Type} (G : pT) (A : Nat → Prop) (Q : Option Value → S → Prop) (w1 : S → va_W) : Array Value → State → Outcome → State → Prop := fun _ st oc t => (∃ (v : Option Value) (u : S), oc = .returned v ∧ Q v u ∧ va_P G.1 pCl (w1 u) t.heap ∧ va_D A (w1 u)) ∧ va_F A st t
/-- a method's contract: from the world w with the arguments av it returns v with 'Q v u', and leaves the world 'w1 u' -/
def PM (l : Launch) (G : pT) (X : State → Prop) (y : MethodName) (cc : ByteArray) (n : Nat) (ret : Option FieldType) (rm : Room) (av : List Value) (w : va_W) {S : Type} (Q : Option Value → S → Prop) (w1 : S → va_W) : Prop :=
  ∀ sz : Nat, Met l y (Cond.code y cc n ret :: pw) rm (pPc G X av w sz) (pQ G (va_A w sz) Q w1) rm.cells rm.slots (va_A w sz)
theorem pPc.blind {G : pT} {X : State → Prop} {av : List Value} {w : va_W} {sz : Nat} (hX : pAl X) : FrameBlind (pPc G X av w sz) := fun a U g mk q => by
  obtain ⟨q0, q1, qP, qD, qE, qX⟩ := q
  exact ⟨q0, q1, qP, qD, pE.same (u := U) (U := U.calling g mk a) qE rfl, hX U _ (Vm.Alike.refl U.vm) qX⟩
theorem pw_in {w : Cond} (h : w ∈ pw) : w ∈ pw ∧ ((w.onTables && w.keeps) = true ∨ ∃ ty, w = .arrayClass ty) := ⟨h, good_of_word (List.all_eq_true.mp pw_good w h)⟩
theorem gW {cw : Cond} (h : cw ∈ pw) : GoodIn pw (cw :: pw) := fun w hw => by
  rcases List.mem_cons.mp hw with e | e
  · rw [e]; exact pw_in h
  · exact pw_in e
theorem gV {own C : String} {idx : Nat} {y : MethodName} {cw : Cond} (h1 : Cond.methodLink own idx y ∈ pw) (h2 : Cond.instanceMethod y ∈ pw) (h3 : Cond.selects C y y ∈ pw) (h4 : Cond.initialized C ∈ pw) (h5 : cw ∈ pw) : GoodIn pw (wsV own idx C y (cw :: pw)) := fun w hw => by
  rcases List.mem_append.mp hw with e | e
  · simp only [List.mem_cons, List.not_mem_nil, or_false] at e
    rcases e with e | e | e | e <;> rw [e]
    · exact pw_in h1
    · exact pw_in h2
    · exact pw_in h3
    · exact pw_in h4
  · exact gW h5 w e
theorem gS {own : String} {idx : Nat} {y : MethodName} {cw : Cond} (h1 : Cond.methodLink own idx y ∈ pw) (h2 : Cond.static y ∈ pw) (h3 : Cond.initialized y.cls ∈ pw) (h5 : cw ∈ pw) : GoodIn pw (va_wsS own idx y (cw :: pw)) := fun w hw => by
  rcases List.mem_append.mp hw with e | e
  · simp only [List.mem_cons, List.not_mem_nil, or_false] at e
    rcases e with e | e | e <;> rw [e]
    · exact pw_in h1
    · exact pw_in h2
    · exact pw_in h3
  · exact gW h5 w e
section PB
variable {p : Program} {l : Launch} {e : Env} {R : Room} {s : State} {m : MethodId} {args : Array Value} {below : List Frame} {meth : Method} {c : Code} {H : Heap} {locs : List Loc} {cells slots : Nat} {Qg : State → Prop}
variable {cc bytes : ByteArray} {pc nL maxL mc ms idx n : Nat} {ls : Array Slot} {st0 rest As : List Value} {A0 : Nat → Prop} {ws wc wr : va_W} {G : pT} {X : State → Prop} {own C : String} {y : MethodName} {ret : Option FieldType} {rm : Room} {b : Nat}
/-- behind a call: the callee's world beside what the caller has else -/
theorem pc_go {S : Type} {Q : Option Value → S → Prop} {w1 : S → va_W} {av : Array Value} (hr : va_Run p l e R s m args below meth c H locs cells slots mc ms (F0 m pc ls st0) rest (pQ G (va_A wc H.size) Q w1 av) (va_A wc H.size))
    (hP : va_P G.1 pCl ws H) (hD : va_D A0 ws) (hS : va_S A0 s.heap H locs) (hA : ∀ q, s.heap.size ≤ q → A0 q) (isC isR : List Nat) (hC : isC.map (fun i => ws[i]?) = wc.map some) (hR : isR.map (fun i => ws[i]?) = wr.map some) (hn : va_nd isR = true) (hdis : ∀ i ∈ isR, i ∉ isC)
    (kk : ∀ (v : Option Value) (u : S) (H1 : Heap) (locs1 : List Loc), Q v u → va_P G.1 pCl (wr ++ w1 u) H1 → va_D A0 (wr ++ w1 u) → va_S A0 s.heap H1 locs1 → W p l e R s m args below meth c H1 locs1 (cells + mc) (slots + ms) Qg (F0 m (pc + 3) ls (v.toList ++ rest))) : W p l e R s m args below meth c H locs cells slots Qg (F0 m pc ls st0) := by
  have hF := va_free (wc := wc) hD hS hA isC hC
  intro T hT Y
  obtain ⟨v, st₀, t, T', L, h0, Y', hL, e1, e2, ⟨⟨v', u, hv, hq, hP1, hD1⟩, hz, hk⟩, st⟩ := hr T hT Y
  cases hv
  rw [h0] at hz hk
  have hk' : ∀ q : Nat, q < H.size → ¬ va_A wc H.size q → T'.heap[q]? = H[q]? := fun q h1 h2 => by rw [e1]; exact hk q h1 h2
  obtain ⟨hP2, hD2⟩ := va_join (w1 := w1 u) hP hD isC isR hC hR hn hdis hk' hF (by rw [e1]; exact hP1) hD1
  obtain ⟨t2, a1, b1⟩ := kk v u T'.heap (locs ++ L) hq hP2 hD2
    ⟨Nat.le_trans hS.1 (by rw [e1]; exact hz), fun q h1 h2 => by rw [hk' q (Nat.lt_of_lt_of_le h1 hS.1) (fun z => h2 (hF q z))]; exact hS.2.1 q h1 h2, fun q hq => by
      rcases List.mem_append.mp hq with h | h
      · exact hS.2.2 q h
      · exact hF _ (hL q h)⟩ T' rfl Y'
  exact ⟨t2, st t2 a1, b1⟩
theorem pc_pre (hE : pE G A0 s s.heap) (hX : X s) (hXm : pAl X) (hP : va_P G.1 pCl ws H) (hD : va_D A0 ws) (hS : va_S A0 s.heap H locs) (hA : ∀ q, s.heap.size ≤ q → A0 q) {isC : List Nat} (hC : isC.map (fun i => ws[i]?) = wc.map some) (hnC : va_nd isC = true) {av : List Value} : ∀ U : State, U.heap = H → s.WarmedH U.vm → pPc G X av wc H.size av.toArray U := fun U hU hW => by
  have hF := va_free (wc := wc) hD hS hA isC hC
  refine ⟨rfl, by rw [hU], ?_, (hD.sub isC hnC hC).weaken (fun _ _ _ _ => trivial), ?_, hXm s U hW.alike hX⟩
  · rw [hU]
    intro k q hq
    have h1 : (isC.map (fun i => ws[i]?))[k]? = some (some q) := by rw [hC, List.getElem?_map, hq]; rfl
    rw [List.getElem?_map] at h1
    cases hi : isC[k]? with
    | none => rw [hi] at h1; cases h1
    | some i => rw [hi] at h1; exact hP i q (Option.some.inj h1)
  · rw [hU]
    exact hE.to hW hS.2.1 hF
/-- invokevirtual -/
theorem pc_V {S : Type} {Q : Option Value → S → Prop} {w1 : S → va_W} (hx : p.tables.exec = Jvm.exec) (hb : c.code = cc) (hml : c.maxLocals = nL) (hown : s.vm.findClass own = some m.cls) (hq : ∀ w ∈ pw, w.before args s = true) (hE : pE G A0 s s.heap) (hX : X s) (hXm : pAl X)
    (hP : va_P G.1 pCl ws H) (hD : va_D A0 ws) (hS : va_S A0 s.heap H locs) (hA : ∀ q, s.heap.size ≤ q → A0 q) (hl : ls.size = nL)
    (hM : PM l G X y bytes maxL ret rm (.ref b :: As) wc Q w1) (g : GoodIn pw (wsV own idx C y (Cond.code y bytes maxL ret :: pw)))
    (hd : y.cls = C ∧ y.cls ≠ "java/lang/invoke/MethodHandle" ∧ y.cls ≠ "java/lang/invoke/VarHandle" ∧ (parseMethodDescriptor y.desc).map (fun d => d.parameters.length) = some As.length)
    (qr ci : Nat) {fs : List Value} {r : vw_C} (hr1 : ws[qr]? = some (b, .inr (ci, fs))) (hr2 : pCl[ci]? = some r) (hr3 : r.1 = C)
    (isC isR : List Nat) (hC : isC.map (fun i => ws[i]?) = wc.map some) (hR : isR.map (fun i => ws[i]?) = wr.map some) (hnC : va_nd isC = true) (hn : va_nd isR = true) (hdis : ∀ i ∈ isR, i ∉ isC)
    (hst : st0 = As.reverse ++ .ref b :: rest) (hW : (rest.map fun v => v.category).sum ≤ 8) (hdg : decode cc pc = .ok (.invokevirtual idx, 3)) (hf : cells + rm.cells ≤ R.cells ∧ slots + rm.slots ≤ R.slots) (hRm : rm.frames + 1 ≤ R.frames ∧ 8 + (maxL + 11) + rm.locals ≤ R.locals)
    (kk : ∀ (v : Option Value) (u : S) (H1 : Heap) (locs1 : List Loc), Q v u → va_P G.1 pCl (wr ++ w1 u) H1 → va_D A0 (wr ++ w1 u) → va_S A0 s.heap H1 locs1 → W p l e R s m args below meth c H1 locs1 (cells + rm.cells) (slots + rm.slots) Qg (F0 m (pc + 3) ls (v.toList ++ rest))) : W p l e R s m args below meth c H locs cells slots Qg (F0 m pc ls st0) := by
  subst hst
  obtain ⟨cell, g1, g2, g3⟩ := va_recv hE.1.1 hP hr2 hr1
  rw [hr3] at g3
  exact pc_go (va_runV (As := As) (rest := rest) ⟨hx, hb, hml, hown, hq⟩ (hM H.size) (cwV As.length hq g rfl rfl rfl hd hRm) ⟨pPc.blind hXm, ⟨cell, g1, g2, g3⟩, pc_pre (av := .ref b :: As) hE hX hXm hP hD hS hA hC hnC⟩ rfl rfl hl rfl (lv_room hW) hdg hf) hP hD hS hA isC isR hC hR hn hdis kk
/-- invokespecial of a constructor -/
theorem pc_I {S : Type} {Q : Option Value → S → Prop} {w1 : S → va_W} (hx : p.tables.exec = Jvm.exec) (hb : c.code = cc) (hml : c.maxLocals = nL) (hown : s.vm.findClass own = some m.cls) (hq : ∀ w ∈ pw, w.before args s = true) (hE : pE G A0 s s.heap) (hX : X s) (hXm : pAl X)
    (hP : va_P G.1 pCl ws H) (hD : va_D A0 ws) (hS : va_S A0 s.heap H locs) (hA : ∀ q, s.heap.size ≤ q → A0 q) (hl : ls.size = nL)
    (hM : PM l G X y bytes maxL none rm (.ref b :: As) wc Q w1) (h1 : Cond.methodLink own idx y ∈ pw) (h2 : Cond.instanceMethod y ∈ pw) (h3 : Cond.initialized y.cls ∈ pw) (h4 : Cond.code y bytes maxL none ∈ pw)
    (hy : y.name = "<init>") (hd : y.cls ≠ "java/lang/invoke/MethodHandle" ∧ y.cls ≠ "java/lang/invoke/VarHandle" ∧ (parseMethodDescriptor y.desc).map (fun d => d.parameters.length) = some As.length)
    (isC isR : List Nat) (hC : isC.map (fun i => ws[i]?) = wc.map some) (hR : isR.map (fun i => ws[i]?) = wr.map some) (hnC : va_nd isC = true) (hn : va_nd isR = true) (hdis : ∀ i ∈ isR, i ∉ isC)
    (hst : st0 = As.reverse ++ .ref b :: rest) (hW : (rest.map fun v => v.category).sum ≤ 8) (hdg : decode cc pc = .ok (.invokespecial idx, 3)) (hf : cells + rm.cells ≤ R.cells ∧ slots + rm.slots ≤ R.slots) (hRm : rm.frames + 1 ≤ R.frames ∧ 8 + (maxL + 11) + rm.locals ≤ R.locals)
    (kk : ∀ (v : Option Value) (u : S) (H1 : Heap) (locs1 : List Loc), Q v u → va_P G.1 pCl (wr ++ w1 u) H1 → va_D A0 (wr ++ w1 u) → va_S A0 s.heap H1 locs1 → W p l e R s m args below meth c H1 locs1 (cells + rm.cells) (slots + rm.slots) Qg (F0 m (pc + 3) ls (v.toList ++ rest))) : W p l e R s m args below meth c H locs cells slots Qg (F0 m pc ls st0) := by
  subst hst
  exact pc_go (va_runI (As := As) (rest := rest) ⟨hx, hb, hml, hown, hq⟩ (hM H.size) (cwI As.length hq (gW h4) rfl rfl rfl (hq _ h3) (hq _ h1) (hq _ h2) hy hd hRm) ⟨pPc.blind hXm, pc_pre (av := .ref b :: As) hE hX hXm hP hD hS hA hC hnC⟩ rfl rfl hl rfl (lv_room hW) hdg hf) hP hD hS hA isC isR hC hR hn hdis kk
/-- invokestatic -/
theorem pc_S {S : Type} {Q : Option Value → S → Prop} {w1 : S → va_W} (hx : p.tables.exec = Jvm.exec) (hb : c.code = cc) (hml : c.maxLocals = nL) (hown : s.vm.findClass own = some m.cls) (hq : ∀ w ∈ pw, w.before args s = true) (hE : pE G A0 s s.heap) (hX : X s) (hXm : pAl X)
    (hP : va_P G.1 pCl ws H) (hD : va_D A0 ws) (hS : va_S A0 s.heap H locs) (hA : ∀ q, s.heap.size ≤ q → A0 q) (hl : ls.size = nL)
    (hM : PM l G X y bytes maxL ret rm As wc Q w1) (g : GoodIn pw (va_wsS own idx y (Cond.code y bytes maxL ret :: pw)))
    (hd : y.cls ≠ "java/lang/invoke/MethodHandle" ∧ y.cls ≠ "java/lang/invoke/VarHandle" ∧ (parseMethodDescriptor y.desc).map (fun d => d.parameters.length) = some As.length)
    (isC isR : List Nat) (hC : isC.map (fun i => ws[i]?) = wc.map some) (hR : isR.map (fun i => ws[i]?) = wr.map some) (hnC : va_nd isC = true) (hn : va_nd isR = true) (hdis : ∀ i ∈ isR, i ∉ isC)
    (hst : st0 = As.reverse ++ rest) (hW : (rest.map fun v => v.category).sum ≤ 8) (hdg : decode cc pc = .ok (.invokestatic idx, 3)) (hf : cells + rm.cells ≤ R.cells ∧ slots + rm.slots ≤ R.slots) (hRm : rm.frames + 1 ≤ R.frames ∧ 8 + (maxL + 11) + rm.locals ≤ R.locals)
    (kk : ∀ (v : Option Value) (u : S) (H1 : Heap) (locs1 : List Loc), Q v u → va_P G.1 pCl (wr ++ w1 u) H1 → va_D A0 (wr ++ w1 u) → va_S A0 s.heap H1 locs1 → W p l e R s m args below meth c H1 locs1 (cells + rm.cells) (slots + rm.slots) Qg (F0 m (pc + 3) ls (v.toList ++ rest))) : W p l e R s m args below meth c H locs cells slots Qg (F0 m pc ls st0) := by
  subst hst
  exact pc_go (va_runS (As := As) (rest := rest) ⟨hx, hb, hml, hown, hq⟩ (hM H.size) (va_cwS As.length hq g rfl rfl rfl hd hRm) ⟨pPc.blind hXm, pc_pre (av := As) hE hX hXm hP hD hS hA hC hnC⟩ rfl rfl hl rfl (lv_room hW) hdg hf) hP hD hS hA isC isR hC hR hn hdis kk
/-- newarray, of a class that is known -/
theorem pn_newa (hx : p.tables.exec = Jvm.exec) (hb : c.code = cc) {atype : ArrayType} (harr : (Cond.arrayClass (newarray.typeOf atype)).before args s = true) {ty : FieldType} (hty : newarray.typeOf atype = ty) {cA0 : ClassId} (hf : s.vm.findClass ("[" ++ FieldType.toString ty) = some cA0) (hP : va_P G.1 pCl ws H) (hD : va_D A0 ws) (hS : va_S A0 s.heap H locs) (hA : ∀ q, s.heap.size ≤ q → A0 q)
    {k : Int32} {N' : Nat} {a0 : vp_A} (ha : ∀ cA : ClassId, vp_cell cA a0 = arrV cA N' (fun _ => defaultValue ty)) (hn : ¬ k < 0) (hN : k.toNatClampNeg = N') (hbytes : N' * componentBytes ty ≤ 536870912) (hcells : cells + 1 ≤ R.cells) (hslots : slots + N' ≤ R.slots) (hdg : decode cc pc = .ok (.newarray atype, 2))
    (kk : ∀ (q : Nat) (H1 : Heap), va_P G.1 pCl (ws ++ [(q, .inl (cA0, a0))]) H1 → va_D A0 (ws ++ [(q, .inl (cA0, a0))]) → va_S A0 s.heap H1 locs →
      W p l e R s m args below meth c H1 locs (cells + 1) (slots + N') Qg (F0 m (pc + 2) ls (.ref q :: rest))) : W p l e R s m args below meth c H locs cells slots Qg (F0 m pc ls (.int k :: rest)) := by
  subst hty
  refine va_newaK hx hb harr rfl hdg rfl hn hN hbytes hcells hslots rfl fun H1 cA e1 z1 o1 hAr hNm => ?_
  cases Option.some.inj (hNm.symm.trans hf)
  have hk : ∀ (k : Nat) (x : Nat × va_E), ws[k]? = some x → H1[x.1]? = H[x.1]? := fun k x hx => o1 x.1 ((hP k x hx).lt)
  refine kk H.size H1 ((hP.kept hk).app (fun k x hx => ?_)) (hD.push hP rfl (hA _ hS.1)) ⟨Nat.le_trans hS.1 (by omega), fun x h1 h2 => (o1 x (Nat.lt_of_lt_of_le h1 hS.1)).trans (hS.2.1 x h1 h2), hS.2.2⟩
  have hz : k < 1 := (List.getElem?_eq_some_iff.mp hx).1
  rw [show k = 0 by omega] at hx
  cases hx
  show H1[H.size]? = some (vp_cell _ _)
  rw [ha]
  exact e1
end PB
