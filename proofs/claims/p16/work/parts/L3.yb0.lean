/-! the typed program as one; what a step leaves -/
abbrev TY : Type := (Nat → Nat → Prop) × (Nat → Nat) × (Nat → Nat → Nat) × PXm × MX × RX × (Nat → Nat) × (Nat → Nat) × Nat
abbrev yfi (y : TY) : Nat → Nat → Prop := y.1
abbrev yfd (y : TY) : Nat → Nat := y.2.1
abbrev yft (y : TY) : Nat → Nat → Nat := y.2.2.1
abbrev yX (y : TY) : PXm := y.2.2.2.1
abbrev yM (y : TY) : MX := y.2.2.2.2.1
abbrev yQ (y : TY) : RX := y.2.2.2.2.2.1
abbrev yr0 (y : TY) : Nat → Nat := y.2.2.2.2.2.2.1
abbrev yr1 (y : TY) : Nat → Nat := y.2.2.2.2.2.2.2.1
abbrev ynm (y : TY) : Nat := y.2.2.2.2.2.2.2.2
abbrev yA (y : TY) (j : Nat) : Nat → AS := (yM y).1 j
abbrev ysl (y : TY) (j : Nat) : Nat := (yM y).2.1 j
abbrev ylo (y : TY) (j : Nat) : Nat := (yM y).2.2.1 j
abbrev yhi (y : TY) (j : Nat) : Nat := (yM y).2.2.2.1 j
abbrev yrt (y : TY) (j : Nat) : Nat := (yM y).2.2.2.2.1 j
abbrev ywp (y : TY) (j : Nat) : Nat → Nat → Prop := (yM y).2.2.2.2.2 j
/-- what a run makes of itself is there; every object has a type of which there are objects -/
def ExS (y : TY) (S : Nat → Nat) : Prop := (∀ p : Nat, 1 ≤ p → p < 7 → S p = p + 1) ∧ ∀ p d : Nat, S p = d + 1 → d < 60 → (yX y).1 d
/-- where a call waits exactly the slots are held that its place says -/
def HeK (y : TY) (H f : Nat → Int32) (on : Nat) : Prop := ∀ k pc i : Nat, 1 ≤ k → k < on → f (3 * k) = nI pc → f (3 * k + 2) = nI i → pc < 10000 → i < ynm y → H pc = nI ((yA y i pc).2.1)
def HTy (y : TY) (S nn : Nat → Nat) (sp : Nat → Int64) (hp : Nat) : Prop := HT (yfi y) (yfd y) (yft y) S nn sp hp ∧ ExS y S
def FFy (y : TY) (S : Nat → Nat) (j : Nat) (st : Nat → Int64) (a : AS) (b top : Nat) : Prop := FF (yfi y) S (yrt y j) (ywp y j) st a b (ysl y j) top
def MIy (y : TY) (H : Nat → Int32) (S nn : Nat → Nat) (sp : Nat → Int64) (hp : Nat) (f : Nat → Int32) (st : Nat → Int64) (on j base pc top : Nat) : Prop := MI (yfi y) (yfd y) (yft y) (yM y) (ynm y) S nn sp hp f st on j base pc top ∧ ExS y S ∧ HeK y H f on
def MWy (y : TY) (H : Nat → Int32) (S nn : Nat → Nat) (sp : Nat → Int64) (hp : Nat) (f : Nat → Int32) (st : Nat → Int64) (on j base pc : Nat) : Prop := MW (yfi y) (yfd y) (yft y) (yM y) (ynm y) S nn sp hp f st on j base pc ∧ ExS y S ∧ HeK y H f on
def MOy (y : TY) (O L R H : Nat → Int32) (j : Nat) : Prop := MO (yfi y) (yfd y) (yft y) (yX y) O L R H (yM y) (yQ y) (yr0 y) (yr1 y) j
def IRy (y : TY) (O L R : Nat → Int32) (pc j k : Nat) : Prop := IRk (yfi y) (yfd y) (yft y) (yX y) SgT PfT (fun z => ylo y j ≤ z ∧ z < yhi y j ∧ O z = 0) pc j (ysl y j) (yhi y j) (L pc) (R pc) (yA y j pc) (yA y j (pc + 1)) (yA y j) k
def RaO (S : Nat → Nat) (z : Int64) : Prop := ∃ p d : Nat, p < 3008 ∧ z = rfV p ∧ S p = d + 1 ∧ d < 60
/-- behind a step: the run is over, or it goes on, or something was thrown -/
def StQ (y : TY) (H : Nat → Int32) (S nn : Nat → Nat) (sp : Nat → Int64) (hp : Nat) (f O : Nat → Int32) (on j ba pc fl tp1 : Nat) (en1 nx1 : Int32) (z1 : Int64) (st1 : Nat → Int64) (fl1 : Nat) : Prop :=
  (¬ en1 = 5 ∧ z1 = 0) ∨ (en1 = 5 ∧ z1 = 0 ∧ ∃ x : Nat, nx1 = nI x ∧ MIy y H S nn sp hp f st1 on j ba x tp1 ∧ 20000 * fl1 + wt O x + 1 ≤ 20000 * fl + wt O pc) ∨
    (en1 = 5 ∧ RaO S z1 ∧ ¬ O pc = 0 ∧ fl1 ≤ fl ∧ MWy y H S nn sp hp f st1 on j ba pc)
theorem vpL_eq {f : Nat → Int64} {k : Nat} {x : Int64} : vp_updL f k x k = x := if_pos rfl
theorem vpL_ne {f : Nat → Int64} {k i : Nat} {x : Int64} (h : ¬ i = k) : vp_updL f k x i = f i := if_neg h
section YB
variable {y : TY} {S S1 nn : Nat → Nat} {sp st st1 : Nat → Int64} {f O L R H : Nat → Int32} {hp on j ba pc tp x tp1 fl fl1 t k u : Nat} {a a1 : AS} {v z : Int64} {l : List Nat}
theorem MIy.nums (h : MIy y H S nn sp hp f st on j ba pc tp) (hm : MOy y O L R H j) : 1 ≤ on ∧ on ≤ 100 ∧ j < ynm y ∧ ylo y j ≤ pc ∧ pc < yhi y j ∧ yhi y j ≤ 10000 ∧ ba ≤ 320 * (on - 1) ∧ tp + 1 ≤ 320 * on ∧ tp < 32000 ∧ ba + ysl y j ≤ tp ∧ (8 ≤ hp ∧ hp ≤ 3008) ∧ ysl y j ≤ 319 := by
  have r := MI.room h.1 hm
  obtain ⟨⟨a1, a2, a3, a4, a5, a6⟩, b, c, d⟩ := h.1
  exact ⟨a1, a2, a3, a4, a5, hm.2.1.2, a6, r.1, r.2.1, r.2.2, d.1, by have h9 : (yA y j pc).2.2.2.length + ysl y j ≤ 319 := (hm.2.2.2.1 pc a4 a5 b.1.1).2.2.1; omega⟩
theorem MIy.ff (h : MIy y H S nn sp hp f st on j ba pc tp) : FFy y S j st (yA y j pc) ba tp := h.1.2.1
theorem MIy.ht (h : MIy y H S nn sp hp f st on j ba pc tp) : HTy y S nn sp hp := ⟨h.1.2.2.2, h.2.1⟩
theorem MIy.wf (h : MIy y H S nn sp hp f st on j ba pc tp) (hm : MOy y O L R H j) : WfA (yA y j pc) := by
  obtain ⟨⟨a1, a2, a3, a4, a5, a6⟩, b, c, d⟩ := h.1
  exact (hm.2.2.2.1 pc a4 a5 b.1.1).1
theorem MIy.thr (h : MIy y H S nn sp hp f st on j ba pc tp) (hj : 1 ≤ on) : MWy y H S nn sp hp f st on j ba pc := by
  obtain ⟨n, hn⟩ : ∃ n, on = n + 1 := ⟨on - 1, by omega⟩
  subst hn
  exact ⟨h.1.thr, h.2⟩
/-- operands have changed, the slots have not: enough for a throw -/
theorem MIy.thr2 (h : MIy y H S nn sp hp f st on j ba pc tp) (hm : MOy y O L R H j) (e : ∀ i : Nat, i < ba + ysl y j → st1 i = st i) : MWy y H S nn sp hp f st1 on j ba pc := by
  obtain ⟨n1, n2, n3, n4, n5, n6, n7, n8, n9, n10, n11⟩ := h.nums hm
  obtain ⟨w1, w2, w3, w4⟩ := (h.thr n1).1
  have z : (yA y j pc).2.1 ≤ ysl y j := w2.1.2.1
  exact ⟨⟨w1, ⟨w2.1.same (fun i _ hi => e i hi), w2.2.same (fun i hi => e (ba + i) (by have : i < (yA y j pc).2.1 := hi; omega))⟩, w3.same (fun _ _ => rfl) (fun i hi => e i (by omega)), w4⟩, h.2⟩
theorem MIy.rule (h : MIy y H S nn sp hp f st on j ba pc tp) (hm : MOy y O L R H j) : ∃ k : Nat, k < 31 ∧ O pc = nI k ∧ IRy y O L R pc j k := by
  obtain ⟨⟨a1, a2, a3, a4, a5, a6⟩, b, c, d⟩ := h.1
  exact MO.rule hm a4 a5 b.1.1
theorem StQ.next (h : MIy y H S nn sp hp f st on j ba pc tp) (hm : MOy y O L R H j) (q : FFy y S j st1 a1 ba tp1) (g : Go (yfi y) a1 (yA y j x)) (h1 : ylo y j ≤ x) (h2 : x ≤ yhi y j) (e : ∀ i : Nat, i < ba → st1 i = st i)
    (hw : 20000 * fl1 + wt O x + 1 ≤ 20000 * fl + wt O pc) (hz : z = 0) : StQ y H S nn sp hp f O on j ba pc fl tp1 5 (nI x) z st1 fl1 :=
  Or.inr (Or.inl ⟨rfl, hz, x, rfl, ⟨MI.next h.1 hm (FF.go q g) h1 h2 e, h.2⟩, hw⟩)
/-- to the next place -/
theorem StQ.on1 (h : MIy y H S nn sp hp f st on j ba pc tp) (hm : MOy y O L R H j) (ho : ¬ O pc = 0) (q : FFy y S j st1 a1 ba tp1) (g : Go (yfi y) a1 (yA y j (pc + 1))) (e : ∀ i : Nat, i < ba → st1 i = st i) (hf : fl1 ≤ fl) (hz : z = 0) : StQ y H S nn sp hp f O on j ba pc fl tp1 5 (nI (pc + 1)) z st1 fl1 := by
  obtain ⟨n1, n2, n3, n4, n5, n6, n7, n8, n9, n10, n11⟩ := h.nums hm
  refine StQ.next h hm q g (by omega) (by omega) e ?_ hz
  have w := wt_on (O := O) (pc := pc) (x := pc + 1) ho (by omega) (Or.inl (by omega))
  omega
/-- to another place -/
theorem StQ.on2 (h : MIy y H S nn sp hp f st on j ba pc tp) (hm : MOy y O L R H j) (ho : ¬ O pc = 0) (q : FFy y S j st1 a1 ba tp1) (g : Go (yfi y) a1 (yA y j x)) (hx : x ≤ yhi y j) (hp9 : pc < x ∨ (ylo y j ≤ x ∧ x < yhi y j ∧ O x = 0)) (e : ∀ i : Nat, i < ba → st1 i = st i) (hf : fl1 ≤ fl) (hz : z = 0) : StQ y H S nn sp hp f O on j ba pc fl tp1 5 (nI x) z st1 fl1 := by
  obtain ⟨n1, n2, n3, n4, n5, n6, n7, n8, n9, n10, n11⟩ := h.nums hm
  refine StQ.next h hm q g (by omega) hx e ?_ hz
  have w := wt_on (O := O) (pc := pc) (x := x) ho (by omega) (hp9.imp id (fun z => z.2.2))
  omega
theorem StQ.thrown {nx1 : Int32} (h : MIy y H S nn sp hp f st on j ba pc tp) (hm : MOy y O L R H j) (ho : ¬ O pc = 0) (hz : RaO S z) (e : ∀ i : Nat, i < ba + ysl y j → st1 i = st i) (hf : fl1 ≤ fl) : StQ y H S nn sp hp f O on j ba pc fl tp1 5 nx1 z st1 fl1 :=
  Or.inr (Or.inr ⟨rfl, hz, ho, hf, h.thr2 hm e⟩)
theorem StQ.over {en1 nx1 : Int32} (h : ¬ en1 = 5) (hz : z = 0) : StQ y H S nn sp hp f O on j ba pc fl tp1 en1 nx1 z st1 fl1 := Or.inl ⟨h, hz⟩
theorem RaO.own (h : ExS y S) {p : Nat} (h1 : 1 ≤ p) (h7 : p < 7) : RaO S (rfV p) := ⟨p, p, by omega, rfl, h.1 p h1 h7, by omega⟩
theorem FFy.push (h : FFy y S j st a ba tp) (hv : VT (yfi y) S t v) : FFy y S j (vp_updL st tp v) (psh t a) ba (tp + 1) := FF.push (st1 := vp_updL st tp v) (v := v) h hv vpL_eq (fun i hi => vpL_ne (by omega))
theorem FFy.pop (h : FFy y S j st a ba tp) (e : a.2.2.2 = t :: l) : 1 ≤ tp ∧ ba + ysl y j + 1 ≤ tp ∧ VT (yfi y) S t (st (tp - 1)) ∧ FFy y S j st (wos l a) ba (tp - 1) := by
  obtain ⟨h1, h2, h3⟩ := FF.pop h e
  have w := h3.lo
  exact ⟨h1, by omega, h2, h3⟩
theorem FFy.put (h : FFy y S j st (wos l a) ba tp) (hv : VT (yfi y) S t v) : FFy y S j (vp_updL st tp v) (wos (t :: l) a) ba (tp + 1) := FF.push (a := wos l a) (st1 := vp_updL st tp v) (v := v) h hv vpL_eq (fun i hi => vpL_ne (by omega))
theorem FFy.lo (h : FFy y S j st a ba tp) : a.2.1 ≤ ysl y j ∧ ba + ysl y j ≤ tp ∧ tp = ba + ysl y j + a.2.2.2.length := FF.lo h
theorem FFy.slot (h : FFy y S j st a ba tp) (wf : WfA a) (hk : k < a.2.1) (h9 : a.2.2.1 k < 900) (hv : VT (yfi y) S (a.2.2.1 k) v) : FFy y S j (vp_updL st (ba + k) v) a ba tp := FF.slot (st1 := vp_updL st (ba + k) v) (v := v) h wf hk h9 hv vpL_eq (fun i _ hn => vpL_ne hn)
theorem FFy.clear (h : FFy y S j st a ba tp) (wf : WfA a) (hk : k = a.2.1) (hks : k < ysl y j) (ht : t = 60 ∨ t = 61 ∨ RfT t) : FFy y S j (vp_updL st (ba + k) 0) (a.1, k + 1, upM a.2.2.1 k t, a.2.2.2) ba tp := by
  subst hk
  exact FF.clear (st1 := vp_updL st (ba + a.2.1) 0) h wf hks ht vpL_eq (fun i _ hn => vpL_ne hn)
/-- fuel burns -/
def BuQ (fl r : Nat) (en1 : Int32) (fl1 : Nat) : Prop := (r = 1 ∧ en1 = 5 ∧ fl = fl1 + 1) ∨ (r = 0 ∧ en1 = 2 ∧ fl1 = fl)
theorem BuQ.le {r : Nat} {en1 : Int32} (h : BuQ fl r en1 fl1) : fl1 ≤ fl := by
  rcases h with ⟨_, _, h⟩ | ⟨_, _, h⟩ <;> omega
theorem StQ.fuel {r : Nat} {en1 : Int32} (h : MIy y H S nn sp hp f st on j ba pc tp) (hm : MOy y O L R H j) (ho : O pc = 0) (g : Go (yfi y) (yA y j pc) (yA y j (pc + 1))) (hb : BuQ fl r en1 fl1) (hz : z = 0) : StQ y H S nn sp hp f O on j ba pc fl tp en1 (nI (pc + 1)) z st fl1 := by
  obtain ⟨n1, n2, n3, n4, n5, n6, n7, n8, n9, n10, n11⟩ := h.nums hm
  rcases hb with ⟨b1, b2, b3⟩ | ⟨b1, b2, b3⟩
  · subst b2
    refine StQ.next h hm h.ff g (by omega) (by omega) (fun _ _ => rfl) ?_ hz
    have w := wt_le (O := O) (pc := pc + 1)
    omega
  · subst b2
    exact StQ.over (by decide) hz
/-- what an operation among operands leaves -/
def OuQ (y : TY) (S : Nat → Nat) (j : Nat) (st st1 : Nat → Int64) (ba tp1 : Nat) (z z1 : Int64) (a1 : AS) : Prop := (∀ i : Nat, i < ba + ysl y j → st1 i = st i) ∧ ((z1 = z ∧ FFy y S j st1 a1 ba tp1) ∨ RaO S z1)
theorem StQ.ou {z1 : Int64} (h : MIy y H S nn sp hp f st on j ba pc tp) (hm : MOy y O L R H j) (ho : ¬ O pc = 0) (q : OuQ y S j st st1 ba tp1 z z1 a1) (g : Go (yfi y) a1 (yA y j (pc + 1))) (hf : fl1 ≤ fl) (hz : z = 0) : StQ y H S nn sp hp f O on j ba pc fl tp1 5 (nI (pc + 1)) z1 st1 fl1 := by
  obtain ⟨q1, q2 | q2⟩ := q
  · exact StQ.on1 h hm ho q2.2 g (fun i hi => q1 i (by omega)) hf (q2.1.trans hz)
  · exact StQ.thrown h hm ho q2 q1 hf
/-- truths, numbers -/
theorem VT.tr {b : Nat} (h : b ≤ 1) (hv : v = if b = 0 then 0 else 1) : VT (yfi y) S 61 v := by
  refine VT.truth ?_
  by_cases z : b = 0
  · rw [if_pos z] at hv; exact Or.inl hv
  · rw [if_neg z] at hv; exact Or.inr hv
def CmK (x : Int32) : Prop := x = 44 ∨ x = 45 ∨ x = 46 ∨ x = 49 ∨ x = 50 ∨ x = 51 ∨ x = 62 ∨ x = 63 ∨ x = 64
end YB
