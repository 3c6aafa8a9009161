/-! the reference's world as one thing: fields F, rows A; calls that take it whole, and calls that take nothing of the world -/
section RB
variable {p : Program} {l : Launch} {e : Env} {R : Room} {s : State} {m : MethodId} {args : Array Value} {below : List Frame} {meth : Method} {c : Code} {H : Heap} {locs : List Loc} {cells slots : Nat} {Qg : State → Prop}
variable {cc bytes : ByteArray} {pc nL maxL mc ms idx n : Nat} {ls : Array Slot} {st0 rest As : List Value} {A0 : Nat → Prop} {ws wc wr : va_W} {G : pT} {X : State → Prop} {own C : String} {y : MethodName} {ret : Option FieldType} {rm : Room} {b : Nat}
theorem pc_free0 (hD : va_D A0 ws) (hS : va_S A0 s.heap H locs) (hA : ∀ q, s.heap.size ≤ q → A0 q) : ∀ q, va_A ws H.size q → A0 q := fun q h => by
  rcases h with ⟨k, e, h⟩ | h
  · exact hD.2 k _ h
  · exact hA q (Nat.le_trans hS.1 h)
/-- behind a call that takes the whole world -/
theorem pc_go0 {S : Type} {Q : Option Value → S → Prop} {w1 : S → va_W} {av : Array Value} (hr : va_Run p l e R s m args below meth c H locs cells slots mc ms (F0 m pc ls st0) rest (pQ G (va_A ws H.size) Q w1 av) (va_A ws H.size))
    (hD : va_D A0 ws) (hS : va_S A0 s.heap H locs) (hA : ∀ q, s.heap.size ≤ q → A0 q)
    (kk : ∀ (v : Option Value) (u : S) (H1 : Heap) (locs1 : List Loc), Q v u → va_P G.1 pCl (w1 u) H1 → va_D A0 (w1 u) → va_S A0 s.heap H1 locs1 → W p l e R s m args below meth c H1 locs1 (cells + mc) (slots + ms) Qg (F0 m (pc + 3) ls (v.toList ++ rest))) : W p l e R s m args below meth c H locs cells slots Qg (F0 m pc ls st0) := by
  have hF := pc_free0 hD hS hA
  intro T hT Y
  obtain ⟨v, st₀, t, T', L, h0, Y', hL, e1, e2, ⟨⟨v', u, hv, hq, hP1, hD1⟩, hz, hk⟩, st⟩ := hr T hT Y
  cases hv
  rw [h0] at hz hk
  obtain ⟨t2, a1, b1⟩ := kk v u T'.heap (locs ++ L) hq (by rw [e1]; exact hP1) (hD1.weaken (fun _ _ _ h => hF _ h))
    ⟨Nat.le_trans hS.1 (by rw [e1]; exact hz), fun q h1 h2 => by rw [e1, hk q (Nat.lt_of_lt_of_le h1 hS.1) (fun z => h2 (hF q z))]; exact hS.2.1 q h1 h2, fun q hq => by
      rcases List.mem_append.mp hq with h | h
      · exact hS.2.2 q h
      · exact hF _ (hL q h)⟩ T' rfl Y'
  exact ⟨t2, st t2 a1, b1⟩
theorem pc_pre0 (hE : pE G A0 s s.heap) (hX : X s) (hXm : pAl X) (hP : va_P G.1 pCl ws H) (hD : va_D A0 ws) (hS : va_S A0 s.heap H locs) (hA : ∀ q, s.heap.size ≤ q → A0 q) {av : List Value} : ∀ U : State, U.heap = H → s.WarmedH U.vm → pPc G X av ws H.size av.toArray U := fun U hU hW => by
  have hF := pc_free0 hD hS hA
  refine ⟨rfl, by rw [hU], by rw [hU]; exact hP, hD.weaken (fun _ _ _ _ => trivial), ?_, hXm s U hW.alike hX⟩
  rw [hU]
  exact hE.to hW hS.2.1 hF
/-- invokevirtual, the whole world -/
theorem pc_V0 {S : Type} {Q : Option Value → S → Prop} {w1 : S → va_W} (hx : p.tables.exec = Jvm.exec) (hb : c.code = cc) (hml : c.maxLocals = nL) (hown : s.vm.findClass own = some m.cls) (hq : ∀ w ∈ pw, w.before args s = true) (hE : pE G A0 s s.heap) (hX : X s) (hXm : pAl X)
    (hP : va_P G.1 pCl ws H) (hD : va_D A0 ws) (hS : va_S A0 s.heap H locs) (hA : ∀ q, s.heap.size ≤ q → A0 q) (hl : ls.size = nL)
    (hM : PM l G X y bytes maxL ret rm (.ref b :: As) ws Q w1) (g : GoodIn pw (wsV own idx C y (Cond.code y bytes maxL ret :: pw)))
    (hd : y.cls = C ∧ y.cls ≠ "java/lang/invoke/MethodHandle" ∧ y.cls ≠ "java/lang/invoke/VarHandle" ∧ (parseMethodDescriptor y.desc).map (fun d => d.parameters.length) = some As.length)
    (qr ci : Nat) {fs : List Value} {r : vw_C} (hr1 : ws[qr]? = some (b, .inr (ci, fs))) (hr2 : pCl[ci]? = some r) (hr3 : r.1 = C)
    (hst : st0 = As.reverse ++ .ref b :: rest) (hW : (rest.map fun v => v.category).sum ≤ 8) (hdg : decode cc pc = .ok (.invokevirtual idx, 3)) (hf : cells + rm.cells ≤ R.cells ∧ slots + rm.slots ≤ R.slots) (hRm : rm.frames + 1 ≤ R.frames ∧ 8 + (maxL + 11) + rm.locals ≤ R.locals)
    (kk : ∀ (v : Option Value) (u : S) (H1 : Heap) (locs1 : List Loc), Q v u → va_P G.1 pCl (w1 u) H1 → va_D A0 (w1 u) → va_S A0 s.heap H1 locs1 → W p l e R s m args below meth c H1 locs1 (cells + rm.cells) (slots + rm.slots) Qg (F0 m (pc + 3) ls (v.toList ++ rest))) : W p l e R s m args below meth c H locs cells slots Qg (F0 m pc ls st0) := by
  subst hst
  obtain ⟨cell, g1, g2, g3⟩ := va_recv hE.1.1 hP hr2 hr1
  rw [hr3] at g3
  exact pc_go0 (va_runV (As := As) (rest := rest) ⟨hx, hb, hml, hown, hq⟩ (hM H.size) (cwV As.length hq g rfl rfl rfl hd hRm) ⟨pPc.blind hXm, ⟨cell, g1, g2, g3⟩, pc_pre0 (av := .ref b :: As) hE hX hXm hP hD hS hA⟩ rfl rfl hl rfl (lv_room hW) hdg hf) hD hS hA kk
/-- behind a call that takes nothing of the world and leaves nothing -/
theorem pc_goN {S : Type} {Q : Option Value → S → Prop} {av : Array Value} (hr : va_Run p l e R s m args below meth c H locs cells slots mc ms (F0 m pc ls st0) rest (pQ G (va_A [] H.size) Q (fun _ : S => []) av) (va_A [] H.size))
    (hP : va_P G.1 pCl ws H) (hS : va_S A0 s.heap H locs) (hA : ∀ q, s.heap.size ≤ q → A0 q)
    (kk : ∀ (v : Option Value) (u : S) (H1 : Heap) (locs1 : List Loc), Q v u → va_P G.1 pCl ws H1 → va_S A0 s.heap H1 locs1 → W p l e R s m args below meth c H1 locs1 (cells + mc) (slots + ms) Qg (F0 m (pc + 3) ls (v.toList ++ rest))) : W p l e R s m args below meth c H locs cells slots Qg (F0 m pc ls st0) := by
  have hF : ∀ q, va_A [] H.size q → A0 q := fun q h => by
    rcases h with ⟨k, e, h⟩ | h
    · simp at h
    · exact hA q (Nat.le_trans hS.1 h)
  intro T hT Y
  obtain ⟨v, st₀, t, T', L, h0, Y', hL, e1, e2, ⟨⟨v', u, hv, hq, -, -⟩, hz, hk⟩, st⟩ := hr T hT Y
  cases hv
  rw [h0] at hz hk
  have hk1 : ∀ q : Nat, q < H.size → T'.heap[q]? = H[q]? := fun q h => by
    rw [e1]
    exact hk q h (fun z => by
      rcases z with ⟨k, e, z⟩ | z
      · simp at z
      · exact absurd h (Nat.not_lt.mpr z))
  obtain ⟨t2, a1, b1⟩ := kk v u T'.heap (locs ++ L) hq (hP.kept (fun k x hx => hk1 x.1 ((hP k x hx).lt)))
    ⟨Nat.le_trans hS.1 (by rw [e1]; exact hz), fun q h1 h2 => by rw [hk1 q (Nat.lt_of_lt_of_le h1 hS.1)]; exact hS.2.1 q h1 h2, fun q hq => by
      rcases List.mem_append.mp hq with h | h
      · exact hS.2.2 q h
      · exact hF _ (hL q h)⟩ T' rfl Y'
  exact ⟨t2, st t2 a1, b1⟩
theorem pc_preN (hE : pE G A0 s s.heap) (hX : X s) (hXm : pAl X) (hS : va_S A0 s.heap H locs) (hA : ∀ q, s.heap.size ≤ q → A0 q) {av : List Value} : ∀ U : State, U.heap = H → s.WarmedH U.vm → pPc G X av [] H.size av.toArray U := fun U hU hW => by
  have hF : ∀ q, va_A [] H.size q → A0 q := fun q h => by
    rcases h with ⟨k, e, h⟩ | h
    · simp at h
    · exact hA q (Nat.le_trans hS.1 h)
  refine ⟨rfl, by rw [hU], fun k q h => by simp at h, ⟨fun i j p q h => by simp at h, fun k q h => by simp at h⟩, ?_, hXm s U hW.alike hX⟩
  rw [hU]
  exact hE.to hW hS.2.1 hF
/-- invokestatic, nothing of the world -/
theorem pc_SN {S : Type} {Q : Option Value → S → Prop} (hx : p.tables.exec = Jvm.exec) (hb : c.code = cc) (hml : c.maxLocals = nL) (hown : s.vm.findClass own = some m.cls) (hq : ∀ w ∈ pw, w.before args s = true) (hE : pE G A0 s s.heap) (hX : X s) (hXm : pAl X)
    (hP : va_P G.1 pCl ws H) (hS : va_S A0 s.heap H locs) (hA : ∀ q, s.heap.size ≤ q → A0 q) (hl : ls.size = nL)
    (hM : PM l G X y bytes maxL ret rm As [] Q (fun _ : S => [])) (g : GoodIn pw (va_wsS own idx y (Cond.code y bytes maxL ret :: pw)))
    (hd : y.cls ≠ "java/lang/invoke/MethodHandle" ∧ y.cls ≠ "java/lang/invoke/VarHandle" ∧ (parseMethodDescriptor y.desc).map (fun d => d.parameters.length) = some As.length)
    (hst : st0 = As.reverse ++ rest) (hW : (rest.map fun v => v.category).sum ≤ 8) (hdg : decode cc pc = .ok (.invokestatic idx, 3)) (hf : cells + rm.cells ≤ R.cells ∧ slots + rm.slots ≤ R.slots) (hRm : rm.frames + 1 ≤ R.frames ∧ 8 + (maxL + 11) + rm.locals ≤ R.locals)
    (kk : ∀ (v : Option Value) (u : S) (H1 : Heap) (locs1 : List Loc), Q v u → va_P G.1 pCl ws H1 → va_S A0 s.heap H1 locs1 → W p l e R s m args below meth c H1 locs1 (cells + rm.cells) (slots + rm.slots) Qg (F0 m (pc + 3) ls (v.toList ++ rest))) : W p l e R s m args below meth c H locs cells slots Qg (F0 m pc ls st0) := by
  subst hst
  exact pc_goN (va_runS (As := As) (rest := rest) ⟨hx, hb, hml, hown, hq⟩ (hM H.size) (va_cwS As.length hq g rfl rfl rfl hd hRm) ⟨pPc.blind hXm, pc_preN (av := As) hE hX hXm hS hA⟩ rfl rfl hl rfl (lv_room hW) hdg hf) hP hS hA kk
/-- invokevirtual of a constant String, nothing of the world -/
theorem pc_VN {S : Type} {Q : Option Value → S → Prop} (hx : p.tables.exec = Jvm.exec) (hb : c.code = cc) (hml : c.maxLocals = nL) (hown : s.vm.findClass own = some m.cls) (hq : ∀ w ∈ pw, w.before args s = true) (hE : pE G A0 s s.heap) (hX : X s) (hXm : pAl X)
    (hP : va_P G.1 pCl ws H) (hS : va_S A0 s.heap H locs) (hA : ∀ q, s.heap.size ≤ q → A0 q) (hl : ls.size = nL)
    (hM : PM l G X y bytes maxL ret rm (.ref b :: As) [] Q (fun _ : S => [])) (g : GoodIn pw (wsV own idx C y (Cond.code y bytes maxL ret :: pw)))
    (hd : y.cls = C ∧ y.cls ≠ "java/lang/invoke/MethodHandle" ∧ y.cls ≠ "java/lang/invoke/VarHandle" ∧ (parseMethodDescriptor y.desc).map (fun d => d.parameters.length) = some As.length)
    (hr : ∃ cell : Cell, H[b]? = some cell ∧ cell.vm.isStatics = false ∧ s.vm.findClass C = some cell.cls)
    (hst : st0 = As.reverse ++ .ref b :: rest) (hW : (rest.map fun v => v.category).sum ≤ 8) (hdg : decode cc pc = .ok (.invokevirtual idx, 3)) (hf : cells + rm.cells ≤ R.cells ∧ slots + rm.slots ≤ R.slots) (hRm : rm.frames + 1 ≤ R.frames ∧ 8 + (maxL + 11) + rm.locals ≤ R.locals)
    (kk : ∀ (v : Option Value) (u : S) (H1 : Heap) (locs1 : List Loc), Q v u → va_P G.1 pCl ws H1 → va_S A0 s.heap H1 locs1 → W p l e R s m args below meth c H1 locs1 (cells + rm.cells) (slots + rm.slots) Qg (F0 m (pc + 3) ls (v.toList ++ rest))) : W p l e R s m args below meth c H locs cells slots Qg (F0 m pc ls st0) := by
  subst hst
  exact pc_goN (va_runV (As := As) (rest := rest) ⟨hx, hb, hml, hown, hq⟩ (hM H.size) (cwV As.length hq g rfl rfl rfl hd hRm) ⟨pPc.blind hXm, hr, pc_preN (av := .ref b :: As) hE hX hXm hS hA⟩ rfl rfl hl rfl (lv_room hW) hdg hf) hP hS hA kk
end RB
def updA (A : Nat → Nat → Int32) (i : Nat) (f : Nat → Int32) : Nat → Nat → Int32 := fun j => if j = i then f else A j
theorem nI_mulN (a b : Nat) : nI a * nI b = nI (a * b) := by
  unfold nI
  exact (Int32.ofNat_mul a b).symm
theorem nI_subN {a b : Nat} (h : a ≤ b) : nI b - nI a = nI (b - a) := by
  have e : nI b = nI (b - a) + nI a := by rw [nI_add, Nat.sub_add_cancel h]
  rw [e, Int32.add_sub_cancel]
section PW
variable {p : Program} {l : Launch} {e : Env} {R : Room} {s : State} {m : MethodId} {args : Array Value} {below : List Frame} {meth : Method} {c : Code} {H : Heap} {locs : List Loc} {cells slots : Nat} {Q : State → Prop}
variable {cc : ByteArray} {pc : Nat} {ls : Array Slot} {rest : List Value}
theorem pn_ldcSW (hexec : p.tables.exec = Jvm.exec) (hb : c.code = cc) {own tx : String} {index q : Nat} (hown : s.vm.findClass own = some m.cls) (hZ : vk_R own index tx q s) (hdg : decode cc pc = .ok (.ldc_w index, 3))
    (k : W p l e R s m args below meth c H locs cells slots Q (F0 m (pc + 3) ls (.ref q :: rest))) : W p l e R s m args below meth c H locs cells slots Q (F0 m pc ls rest) := by
  intro T hT X
  obtain ⟨t, a1, b1⟩ := k T hT X
  exact ⟨t, Stand.ldcStringW X hexec hown (text := tx) (a := q) hZ.1 hZ.2 (g := F0 m pc ls rest) rfl (by rw [hb]; exact hdg) t a1, b1⟩
end PW
theorem pE.al {G : pT} {A : Nat → Prop} {U : State} {H : Heap} (h : pE G A U H) : vk_R RX12 287 "{}()[];,.?:=+-*/%&|^~!<>" (G.2.2.1 16) U := h.2.2.2.2.2.2.2.2.1
/-- character k of constant i -/
def sCh (i k : Nat) : Int32 := (sByt.getD i []).getD k 0
theorem sCh_and : ∀ i, i < 19 → ∀ k, k < sLen.getD i 0 → sCh i k &&& 255 = sCh i k := by decide +kernel
