/-- a method that returns, or throws an IllegalStateException -/
def pXX {S2 : Type} (G : pT) (A : Nat → Prop) (Qx : S2 → Prop) (w2 : S2 → va_W) : String → State → State → Prop := vx_X Qx (fun E u t => E = eIS ∧ va_P G.1 pCl (w2 u) t.heap ∧ va_D A (w2 u)) A
def PB (l : Launch) (G : pT) (X : State → Prop) (y : MethodName) (cc : ByteArray) (n : Nat) (ret : Option FieldType) (rm : Room) (av : List Value) (w : va_W) {S S2 : Type} (Q : Option Value → S → Prop) (w1 : S → va_W) (Qx : S2 → Prop) (w2 : S2 → va_W) : Prop :=
  ∀ sz : Nat, vx_Met l y (Cond.code y cc n ret :: pw) rm (pPc G X av w sz) (pQ G (va_A w sz) Q w1) (pXX G (va_A w sz) Qx w2) rm.cells rm.slots (va_A w sz)
section PBS
variable {p : Program} {l : Launch} {e : Env} {R : Room} {s : State} {m : MethodId} {args : Array Value} {below : List Frame} {meth : Method} {c : Code} {H : Heap} {locs : List Loc} {cells slots : Nat} {Qg : State → Prop}
variable {cc bytes : ByteArray} {pc nL maxL mc ms idx n : Nat} {ls : Array Slot} {st0 rest As : List Value} {A0 : Nat → Prop} {ws : va_W} {G : pT} {X : State → Prop} {own C : String} {y : MethodName} {ret : Option FieldType} {rm : Room} {b : Nat}
theorem pb_go0 {S S2 : Type} {Q : Option Value → S → Prop} {w1 : S → va_W} {Qx : S2 → Prop} {w2 : S2 → va_W} {av : Array Value} (hr : vx_Run p l e R s m args below meth c H locs cells slots mc ms (F0 m pc ls st0) rest (pQ G (va_A ws H.size) Q w1 av) (pXX G (va_A ws H.size) Qx w2) (va_A ws H.size))
    (hD : va_D A0 ws) (hS : va_S A0 s.heap H locs) (hA : ∀ q, s.heap.size ≤ q → A0 q)
    (kk : ∀ (v : Option Value) (u : S) (H1 : Heap) (locs1 : List Loc), Q v u → va_P G.1 pCl (w1 u) H1 → va_D A0 (w1 u) → va_S A0 s.heap H1 locs1 → W p l e R s m args below meth c H1 locs1 (cells + mc) (slots + ms) Qg (F0 m (pc + 3) ls (v.toList ++ rest)))
    (kx : ∀ (u : S2) (ce : Cell) (q9 : Addr) (H1 : Heap) (locs1 : List Loc), Qx u → va_P G.1 pCl (w2 u) H1 → va_D A0 (w2 u) → va_S A0 s.heap H1 locs1 → H1[q9]? = some ce → ce.vm = .none → s.vm.findClass eIS = some ce.cls → vx_W p l e R s m args below meth c H1 locs1 (cells + mc) (slots + ms) Qg (F0 m pc ls rest) q9) : W p l e R s m args below meth c H locs cells slots Qg (F0 m pc ls st0) := by
  have hF := pc_free0 hD hS hA
  intro T hT Y
  rcases hr T hT Y with ⟨v, st₀, t, T', L, h0, Y', hL, e1, e2, ⟨⟨v', u, hv, hq, hP1, hD1⟩, hz, hk⟩, st⟩ | ⟨q, st₀, t, T', L, E, ce, h0, Y', hL, e1, e2, ⟨u, hpx, ⟨hE0, hP1, hD1⟩, hz, hk⟩, hce, hcv, hcl, st⟩
  · cases hv
    rw [h0] at hz hk
    obtain ⟨t2, a1, b1⟩ := kk v u T'.heap (locs ++ L) hq (by rw [e1]; exact hP1) (hD1.weaken (fun _ _ _ h => hF _ h))
      ⟨Nat.le_trans hS.1 (by rw [e1]; exact hz), fun q h1 h2 => by rw [e1, hk q (Nat.lt_of_lt_of_le h1 hS.1) (fun z => h2 (hF q z))]; exact hS.2.1 q h1 h2, fun q hq => by
        rcases List.mem_append.mp hq with h | h
        · exact hS.2.2 q h
        · exact hF _ (hL q h)⟩ T' rfl Y'
    exact ⟨t2, st t2 a1, b1⟩
  · rw [hE0] at hcl
    rw [h0] at hz hk
    obtain ⟨t2, a1, b1⟩ := kx u ce q T'.heap (locs ++ L) hpx (by rw [e1]; exact hP1) (hD1.weaken (fun _ _ _ h => hF _ h))
      ⟨Nat.le_trans hS.1 (by rw [e1]; exact hz), fun q h1 h2 => by rw [e1, hk q (Nat.lt_of_lt_of_le h1 hS.1) (fun z => h2 (hF q z))]; exact hS.2.1 q h1 h2, fun q hq => by
        rcases List.mem_append.mp hq with h | h
        · exact hS.2.2 q h
        · exact hF _ (hL q h)⟩ (by rw [e1]; exact hce) hcv hcl T' rfl Y'
    exact ⟨t2, st.trans a1, b1⟩
theorem pb_V0 {S S2 : Type} {Q : Option Value → S → Prop} {w1 : S → va_W} {Qx : S2 → Prop} {w2 : S2 → va_W} (hx : p.tables.exec = Jvm.exec) (hb : c.code = cc) (hml : c.maxLocals = nL) (hown : s.vm.findClass own = some m.cls) (hq : ∀ w ∈ pw, w.before args s = true) (hE : pE G A0 s s.heap) (hX : X s) (hXm : pAl X)
    (hP : va_P G.1 pCl ws H) (hD : va_D A0 ws) (hS : va_S A0 s.heap H locs) (hA : ∀ q, s.heap.size ≤ q → A0 q) (hl : ls.size = nL)
    (hM : PB l G X y bytes maxL ret rm (.ref b :: As) ws Q w1 Qx w2) (g : GoodIn pw (wsV own idx C y (Cond.code y bytes maxL ret :: pw)))
    (hd : y.cls = C ∧ y.cls ≠ "java/lang/invoke/MethodHandle" ∧ y.cls ≠ "java/lang/invoke/VarHandle" ∧ (parseMethodDescriptor y.desc).map (fun d => d.parameters.length) = some As.length)
    (qr ci : Nat) {fs : List Value} {r : vw_C} (hr1 : ws[qr]? = some (b, .inr (ci, fs))) (hr2 : pCl[ci]? = some r) (hr3 : r.1 = C)
    (hst : st0 = As.reverse ++ .ref b :: rest) (hW : (rest.map fun v => v.category).sum ≤ 8) (hdg : decode cc pc = .ok (.invokevirtual idx, 3)) (hf : cells + rm.cells ≤ R.cells ∧ slots + rm.slots ≤ R.slots) (hRm : rm.frames + 1 ≤ R.frames ∧ 8 + (maxL + 11) + rm.locals ≤ R.locals)
    (kk : ∀ (v : Option Value) (u : S) (H1 : Heap) (locs1 : List Loc), Q v u → va_P G.1 pCl (w1 u) H1 → va_D A0 (w1 u) → va_S A0 s.heap H1 locs1 → W p l e R s m args below meth c H1 locs1 (cells + rm.cells) (slots + rm.slots) Qg (F0 m (pc + 3) ls (v.toList ++ rest)))
    (kx : ∀ (u : S2) (ce : Cell) (q9 : Addr) (H1 : Heap) (locs1 : List Loc), Qx u → va_P G.1 pCl (w2 u) H1 → va_D A0 (w2 u) → va_S A0 s.heap H1 locs1 → H1[q9]? = some ce → ce.vm = .none → s.vm.findClass eIS = some ce.cls → vx_W p l e R s m args below meth c H1 locs1 (cells + rm.cells) (slots + rm.slots) Qg (F0 m pc ls rest) q9) : W p l e R s m args below meth c H locs cells slots Qg (F0 m pc ls st0) := by
  subst hst
  obtain ⟨cell, g1, g2, g3⟩ := va_recv hE.1.1 hP hr2 hr1
  rw [hr3] at g3
  exact pb_go0 (vx_runV (As := As) (rest := rest) ⟨hx, hb, hml, hown, hq⟩ (hM H.size) (cwV As.length hq g rfl rfl rfl hd hRm) ⟨pPc.blind hXm, ⟨cell, g1, g2, g3⟩, pc_pre0 (av := .ref b :: As) hE hX hXm hP hD hS hA⟩ rfl rfl hl rfl (lv_room hW) hdg hf) hD hS hA kk kx
/-- it goes on outward -/
theorem pb_out {S2 : Type} {Qx : S2 → Prop} {w2 : S2 → va_W} {Qc : Array Value → State → Outcome → State → Prop} (u : S2) (hu : Qx u) {q9 : Addr} {ce : Cell} (hnt : ∀ x ∈ c.exceptionTable.toList, False) (hlocks : meth.locks = false) (hcell : H[q9]? = some ce) (hv : ce.vm = .none) (hcl : s.vm.findClass eIS = some ce.cls)
    (hP : va_P G.1 pCl (w2 u) H) (hD : va_D A0 (w2 u)) (hS : va_S A0 s.heap H locs) (hc : cells ≤ mc) (hs : slots ≤ ms) :
    vx_W p l e R s m args below meth c H locs cells slots (vx_MQ below Qc (pXX G A0 Qx w2) args s mc ms A0) (F0 m pc ls rest) q9 :=
  vx_out (fun x hx => (hnt x hx).elim) hlocks hcell hv hcl (fun t ht _ => ⟨u, hu, ⟨rfl, by rw [ht]; exact hP, hD⟩, hS.F ht⟩) hS.2.2 hc hs
theorem pb_throw {S2 : Type} {text : String} {Qx : S2 → Prop} {w2 : S2 → va_W} {Qc : Array Value → State → Outcome → State → Prop} {ik is ic sa : Nat} (u : S2) (hu : Qx u) (hx : p.tables.exec = Jvm.exec) (hb : c.code = cc) (hl0 : l.stackTraces = false) (hown : s.vm.findClass own = some m.cls) (hq : ∀ w ∈ pw, w.before args s = true) (hE : pE G A0 s s.heap)
    (hf : Bundle.fit eIS = true ∧ ∀ n ∈ xNm, Bundle.fit n = true) (hk : Cond.classLink own ik eIS ∈ pw) (hini : Cond.initialized eIS ∈ pw) (hstr : vk_R own is text sa s) (hat : ∀ w ∈ (vx_atS own ic eIS xNm).filter goodWord, w ∈ pw) (hbad : ∀ w ∈ (vx_atS own ic eIS xNm).filter (fun w => !goodWord w), w ∈ xBd eIS) (hca : pCa eIS eIS s)
    (hgood : ∀ w ∈ Cond.classLink own ik eIS :: Cond.initialized eIS :: vx_atS own ic eIS xNm, vx_ot w = true) (hnt : ∀ x ∈ c.exceptionTable.toList, False) (hlocks : meth.locks = false) (hml : c.maxLocals = nL) (hl : ls.size = nL)
    (hP : va_P G.1 pCl (w2 u) H) (hD : va_D A0 (w2 u)) (hS : va_S A0 s.heap H locs)
    (d0 : decode cc pc = .ok (.new ik, 3)) (d3 : decode cc (pc + 3) = .ok (.dup, 1)) (d4 : decode cc (pc + 4) = .ok (.ldc is, 2)) (d6 : decode cc (pc + 6) = .ok (.invokespecial ic, 3)) (d9 : decode cc (pc + 9) = .ok (.athrow, 1))
    (hRf : 6 ≤ R.frames) (hRl : (rest.map fun v => v.category).sum + 82 ≤ R.locals) (hRc : cells + 1 ≤ R.cells) (hRs : slots + 6 ≤ R.slots) (hc : cells + 1 ≤ mc) (hs : slots + 6 ≤ ms) :
    W p l e R s m args below meth c H locs cells slots (vx_MQ below Qc (pXX G A0 Qx w2) args s mc ms A0) (F0 m pc ls rest) := by
  refine vx_throwS (names := xNm) (text := text) (sa := sa) hx hb hl0 hown hf.1 hf.2 (hq _ hk) (hq _ hini) hstr (vx_hat (fun w hw => hq _ (hat w hw)) hbad (vx_c hca.use (vx_c (pDc_moved (Vm.Alike.refl _) hE.pc.2.2.2.2.1.1) (vx_c (pDc_moved (Vm.Alike.refl _) hE.pc.2.2.2.2.1.2.1) (vx_c (pDc_moved (Vm.Alike.refl _) hE.pc.2.2.2.2.1.2.2) vx_n))))) hgood hE.th.1 hE.th.2 hS (by rw [hml]; exact hl) d0 d3 d4 d6 d9 (fun x hx => (hnt x hx).elim) hRf hRl hRc hRs hlocks (fun t _ hz hk9 => ?_) hS.2.2 hc hs
  have hk1 : ∀ (k : Nat) (x : Nat × va_E), (w2 u)[k]? = some x → t.heap[x.1]? = H[x.1]? := fun k x hx => hk9 x.1 ((hP k x hx).lt)
  exact ⟨u, hu, ⟨rfl, hP.kept hk1, hD⟩, Nat.le_trans hS.1 hz, fun q h1 h2 => by rw [hk9 q (Nat.lt_of_lt_of_le h1 hS.1)]; exact hS.2.1 q h1 h2⟩
end PBS
