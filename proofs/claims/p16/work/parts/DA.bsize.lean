/-- how many slots a heap's cells have -/
def hSl (H : Heap) : Nat := H.foldl (fun n c => n + c.slots.size) 0
section BZ
variable {p : Program} {l : Launch} {e : Env} {R : Room} {s : State} {m : MethodId} {args : Array Value} {below : List Frame} {meth : Method} {c : Code} {H : Heap} {T : State} {locs : List Loc} {cells slots : Nat} {Qg : State → Prop} {g : JFrame}
theorem hSl_of {s : State} (h : s.slotsTrue = true) : s.slotsUsed = hSl s.heap := eq_of_beq h
theorem st_true (X : Stand p l e R s m args below meth c T locs cells slots) : s.slotsTrue = true := by
  have h := X.room
  simp only [State.hasRoom, Bool.and_eq_true] at h
  exact h.2
/-- what is used so far is what the heap says -/
theorem W_size (kk : H.size ≤ s.heap.size + cells → hSl H ≤ hSl s.heap + slots → W p l e R s m args below meth c H locs cells slots Qg g) : W p l e R s m args below meth c H locs cells slots Qg g := fun T hT X => by
  have h1 := X.heapSize
  have h2 := X.used
  rw [hSl_of X.book, hSl_of (st_true X)] at h2
  rw [hT] at h1 h2
  exact kk h1 h2 T hT X
theorem stand_narrow {k n : Nat} (X : Stand p l e R s m args below meth c T locs cells slots) (h1 : T.heap.size ≤ s.heap.size + k) (h2 : hSl T.heap ≤ hSl s.heap + n) : Stand p l e R s m args below meth c T locs k n := by
  have hb := X.book
  have hs := st_true X
  obtain ⟨a1, a2, a3, a4, a5, a6, a7, a8, a9, a10, a11, a12, a13, a14⟩ := X
  obtain ⟨b1, b2, b3, b4, b5, b6⟩ := a14
  refine ⟨a1, a2, a3, a4, a5, a6, a7, a8, a9, a10, a11, a12, a13, b1, b2, h1, b4, ?_, b6⟩
  have b4' : T.slotsUsed = s.slotsUsed + ((T.heap.toList.drop s.heap.size).map (·.slots.size)).sum := b4
  rw [hSl_of hb, hSl_of hs] at b4'
  show ((T.heap.toList.drop s.heap.size).map (·.slots.size)).sum ≤ n
  omega
theorem W_narrow {k n : Nat} (h1 : H.size ≤ s.heap.size + k) (h2 : hSl H ≤ hSl s.heap + n) (kk : W p l e R s m args below meth c H locs k n Qg g) : W p l e R s m args below meth c H locs cells slots Qg g := fun T hT X => kk T hT (stand_narrow X (by rw [hT]; exact h1) (by rw [hT]; exact h2))
end BZ
/-- as pQ, pXX, and what was made in all -/
def pQn {S : Type} (G : pT) (A : Nat → Prop) (Q : Option Value → S → Prop) (w1 : S → va_W) (nc ns : S → Nat) : Array Value → State → Outcome → State → Prop := fun _ st oc t => (∃ (v : Option Value) (u : S), oc = .returned v ∧ Q v u ∧ va_P G.1 pCl (w1 u) t.heap ∧ va_D A (w1 u) ∧ t.heap.size ≤ st.heap.size + nc u ∧ hSl t.heap ≤ hSl st.heap + ns u) ∧ va_F A st t
def PBn (l : Launch) (G : pT) (X : State → Prop) (y : MethodName) (cc : ByteArray) (n : Nat) (ret : Option FieldType) (rm : Room) (av : List Value) (w : va_W) {S S2 : Type} (Q : Option Value → S → Prop) (w1 : S → va_W) (nc ns : S → Nat) (Qx : S2 → Prop) (w2 : S2 → va_W) : Prop :=
  ∀ sz : Nat, vx_Met l y (Cond.code y cc n ret :: pw) rm (pPc G X av w sz) (pQn G (va_A w sz) Q w1 nc ns) (pXX G (va_A w sz) Qx w2) rm.cells rm.slots (va_A w sz)
section PBN
variable {p : Program} {l : Launch} {e : Env} {R : Room} {s : State} {m : MethodId} {args : Array Value} {below : List Frame} {meth : Method} {c : Code} {H : Heap} {locs : List Loc} {cells slots : Nat} {Qg : State → Prop}
variable {cc bytes : ByteArray} {pc nL maxL mc ms idx n : Nat} {ls : Array Slot} {st0 rest As : List Value} {A0 : Nat → Prop} {ws : va_W} {G : pT} {X : State → Prop} {own C : String} {y : MethodName} {ret : Option FieldType} {rm : Room} {b : Nat}
theorem pn_go0 {S S2 : Type} {Q : Option Value → S → Prop} {w1 : S → va_W} {nc ns : S → Nat} {Qx : S2 → Prop} {w2 : S2 → va_W} {av : Array Value} (hr : vx_Run p l e R s m args below meth c H locs cells slots mc ms (F0 m pc ls st0) rest (pQn G (va_A ws H.size) Q w1 nc ns av) (pXX G (va_A ws H.size) Qx w2) (va_A ws H.size))
    (hD : va_D A0 ws) (hS : va_S A0 s.heap H locs) (hA : ∀ q, s.heap.size ≤ q → A0 q)
    (kk : ∀ (v : Option Value) (u : S) (H1 : Heap) (locs1 : List Loc), Q v u → va_P G.1 pCl (w1 u) H1 → va_D A0 (w1 u) → va_S A0 s.heap H1 locs1 → W p l e R s m args below meth c H1 locs1 (cells + nc u) (slots + ns u) Qg (F0 m (pc + 3) ls (v.toList ++ rest)))
    (kx : ∀ (u : S2) (ce : Cell) (q9 : Addr) (H1 : Heap) (locs1 : List Loc), Qx u → va_P G.1 pCl (w2 u) H1 → va_D A0 (w2 u) → va_S A0 s.heap H1 locs1 → H1[q9]? = some ce → ce.vm = .none → s.vm.findClass eIS = some ce.cls → vx_W p l e R s m args below meth c H1 locs1 (cells + mc) (slots + ms) Qg (F0 m pc ls rest) q9) : W p l e R s m args below meth c H locs cells slots Qg (F0 m pc ls st0) := by
  have hF := pc_free0 hD hS hA
  refine W_size (fun hz1 hz2 => ?_)
  intro T hT Y
  rcases hr T hT Y with ⟨v, st₀, t, T', L, h0, Y', hL, e1, e2, ⟨⟨v', u, hv, hq, hP1, hD1, hn1, hn2⟩, hz, hk⟩, st⟩ | ⟨q, st₀, t, T', L, E, ce, h0, Y', hL, e1, e2, ⟨u, hpx, ⟨hE0, hP1, hD1⟩, hz, hk⟩, hce, hcv, hcl, st⟩
  · cases hv
    rw [h0] at hz hk hn1 hn2
    have Y2 := stand_narrow (k := cells + nc u) (n := slots + ns u) Y' (by rw [e1]; omega) (by rw [e1]; omega)
    obtain ⟨t2, a1, b1⟩ := kk v u T'.heap (locs ++ L) hq (by rw [e1]; exact hP1) (hD1.weaken (fun _ _ _ h => hF _ h))
      ⟨Nat.le_trans hS.1 (by rw [e1]; exact hz), fun q h1 h2 => by rw [e1, hk q (Nat.lt_of_lt_of_le h1 hS.1) (fun z => h2 (hF q z))]; exact hS.2.1 q h1 h2, fun q hq => by
        rcases List.mem_append.mp hq with h | h
        · exact hS.2.2 q h
        · exact hF _ (hL q h)⟩ T' rfl Y2
    exact ⟨t2, st t2 a1, b1⟩
  · rw [hE0] at hcl
    rw [h0] at hz hk
    obtain ⟨t2, a1, b1⟩ := kx u ce q T'.heap (locs ++ L) hpx (by rw [e1]; exact hP1) (hD1.weaken (fun _ _ _ h => hF _ h))
      ⟨Nat.le_trans hS.1 (by rw [e1]; exact hz), fun q h1 h2 => by rw [e1, hk q (Nat.lt_of_lt_of_le h1 hS.1) (fun z => h2 (hF q z))]; exact hS.2.1 q h1 h2, fun q hq => by
        rcases List.mem_append.mp hq with h | h
        · exact hS.2.2 q h
        · exact hF _ (hL q h)⟩ (by rw [e1]; exact hce) hcv hcl T' rfl Y'
    exact ⟨t2, st.trans a1, b1⟩
theorem pn_V0 {S S2 : Type} {Q : Option Value → S → Prop} {w1 : S → va_W} {nc ns : S → Nat} {Qx : S2 → Prop} {w2 : S2 → va_W} (hx : p.tables.exec = Jvm.exec) (hb : c.code = cc) (hml : c.maxLocals = nL) (hown : s.vm.findClass own = some m.cls) (hq : ∀ w ∈ pw, w.before args s = true) (hE : pE G A0 s s.heap) (hX : X s) (hXm : pAl X)
    (hP : va_P G.1 pCl ws H) (hD : va_D A0 ws) (hS : va_S A0 s.heap H locs) (hA : ∀ q, s.heap.size ≤ q → A0 q) (hl : ls.size = nL)
    (hM : PBn l G X y bytes maxL ret rm (.ref b :: As) ws Q w1 nc ns Qx w2) (g : GoodIn pw (wsV own idx C y (Cond.code y bytes maxL ret :: pw)))
    (hd : y.cls = C ∧ y.cls ≠ "java/lang/invoke/MethodHandle" ∧ y.cls ≠ "java/lang/invoke/VarHandle" ∧ (parseMethodDescriptor y.desc).map (fun d => d.parameters.length) = some As.length)
    (qr ci : Nat) {fs : List Value} {r : vw_C} (hr1 : ws[qr]? = some (b, .inr (ci, fs))) (hr2 : pCl[ci]? = some r) (hr3 : r.1 = C)
    (hst : st0 = As.reverse ++ .ref b :: rest) (hW : (rest.map fun v => v.category).sum ≤ 8) (hdg : decode cc pc = .ok (.invokevirtual idx, 3)) (hf : cells + rm.cells ≤ R.cells ∧ slots + rm.slots ≤ R.slots) (hRm : rm.frames + 1 ≤ R.frames ∧ 8 + (maxL + 11) + rm.locals ≤ R.locals)
    (kk : ∀ (v : Option Value) (u : S) (H1 : Heap) (locs1 : List Loc), Q v u → va_P G.1 pCl (w1 u) H1 → va_D A0 (w1 u) → va_S A0 s.heap H1 locs1 → W p l e R s m args below meth c H1 locs1 (cells + nc u) (slots + ns u) Qg (F0 m (pc + 3) ls (v.toList ++ rest)))
    (kx : ∀ (u : S2) (ce : Cell) (q9 : Addr) (H1 : Heap) (locs1 : List Loc), Qx u → va_P G.1 pCl (w2 u) H1 → va_D A0 (w2 u) → va_S A0 s.heap H1 locs1 → H1[q9]? = some ce → ce.vm = .none → s.vm.findClass eIS = some ce.cls → vx_W p l e R s m args below meth c H1 locs1 (cells + rm.cells) (slots + rm.slots) Qg (F0 m pc ls rest) q9) : W p l e R s m args below meth c H locs cells slots Qg (F0 m pc ls st0) := by
  subst hst
  obtain ⟨cell, g1, g2, g3⟩ := va_recv hE.1.1 hP hr2 hr1
  rw [hr3] at g3
  exact pn_go0 (vx_runV (As := As) (rest := rest) ⟨hx, hb, hml, hown, hq⟩ (hM H.size) (cwV As.length hq g rfl rfl rfl hd hRm) ⟨pPc.blind hXm, ⟨cell, g1, g2, g3⟩, pc_pre0 (av := .ref b :: As) hE hX hXm hP hD hS hA⟩ rfl rfl hl rfl (lv_room hW) hdg hf) hD hS hA kk kx
end PBN
