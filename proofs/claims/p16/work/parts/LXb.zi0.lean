/-! E's with jumps -/
/-- rows of the code below cs are as they were -/
def SmW (B B1 : Nat → Nat → Int32) (cs : Nat) : Prop := ∀ x : Nat, x < cs → B1 16 x = B 16 x ∧ B1 17 x = B 17 x ∧ B1 18 x = B 18 x ∧ B1 19 x = B 19 x
section ZI
variable {fi : Nat → Nat → Prop} {fdn : Nat → Nat} {fty : Nat → Nat → Nat} {X : PXm} {O L R H O1 L1 R1 H1 O2 L2 R2 H2 O3 L3 R3 H3 : Nat → Int32} {A A1 A2 A3 : Nat → AS} {b : AS} {pd pd1 pd2 : Nat → Prop} {m sn lo cs cs1 cs2 cs3 hd k t u u2 u3 j : Nat} {l r a0 a1 a2 as as1 as2 as3 wt wf lt lf wt2 wf2 wt3 wf3 : Int32} {sl : Nat → Nat} {os os1 os2 os3 : List Nat} {xs : List Nat}
theorem ChnJ.one (h : L j = -1) (hj : j < 10000) : ChnJ L (nI j) [j] := ⟨rfl, hj, fun y hy => absurd hy (List.not_mem_nil), h⟩
theorem EmS.pdm (h : EmS fi fdn fty X O L R H A pd m sn lo cs as hd sl os) (hp : ∀ z : Nat, pd z → pd1 z) : EmS fi fdn fty X O L R H A pd1 m sn lo cs as hd sl os := by
  obtain ⟨⟨h0, h1⟩, h2⟩ := h
  exact ⟨⟨fun pc a1 a2 a3 a4 => h0 pc a1 a2 a3 (fun z => a4 (hp pc z)), h1⟩, h2⟩
theorem EvQ.pend (h : EvQ fi fdn fty X O L R H O1 L1 R1 H1 A A1 pd m sn lo cs cs1 a0 as hd sl os1) (hl : os1.length ≤ 248) (hk : ¬ k = 21 ∧ ¬ k = 22 ∧ ¬ k = 23 ∧ ¬ k = 24 ∧ k < 26) (ha : AsE a0 as2) :
    EvQ fi fdn fty X O L R H (upI O1 cs1 (nI k)) (upI L1 cs1 l) (upI R1 cs1 r) (upI H1 cs1 (nI hd)) A (upS A1 (cs1 + 1) (rcA as2, hd, sl, os2)) (fun z => pd z ∨ z = cs1) m sn lo cs (cs1 + 1) a0 as2 hd sl os2 := by
  obtain ⟨h1, h2, h3, h4, h5, h6⟩ := h
  obtain ⟨p1, p2⟩ := h1.pend (l := l) (r := r) (as1 := as2) (os1 := os2) (k := k) hl ⟨hk.1, hk.2.1, hk.2.2.1, hk.2.2.2.1, by omega⟩
  exact ⟨p1, h2.trans p2 h4, h3.trans (EvC.one hk.2.2.2.2 h1.1.2 rfl) p2 h6, by omega, (upS_ne (by omega)).trans h5, ha⟩
/-- what stands at the jump, behind what came after it -/
theorem EvQ.jmp (h : EvQ fi fdn fty X O L R H O1 L1 R1 H1 A A1 pd m sn lo cs cs1 a0 as hd sl os1) (q : EvQ fi fdn fty X (upI O1 cs1 (nI k)) L2 R2 H2 O3 L3 R3 H3 (upS A1 (cs1 + 1) (rcA as2, hd, sl, os2)) A3 pd1 m sn lo (cs1 + 1) cs3 a2 as3 hd sl os3) :
    O3 cs1 = nI k ∧ A3 cs1 = (rcA as, hd, sl, os1) ∧ A3 (cs1 + 1) = (rcA as2, hd, sl, os2) := by
  obtain ⟨q1, q2, q3, q4, q5, q6⟩ := q
  obtain ⟨b1, b2, b3, b4, b5⟩ := q2 cs1 (by omega)
  exact ⟨b1.trans upI_eq, b5.trans ((upS_ne (by omega)).trans h.1.1.2), q5.trans upS_eq⟩
theorem EvQ.landed (h : EvQ fi fdn fty X O L R H O1 L1 R1 H1 A A1 pd m sn lo cs cs1 a0 as hd sl os1) (e : EmS fi fdn fty X O1 (aim L1 xs cs1) R1 H1 (upS A1 cs1 b) pd1 m sn lo cs1 as3 hd sl os3) (hx : ∀ z : Nat, z ∈ xs → cs ≤ z) (hc : cs < cs1) (ha : AsE a0 as3) :
    EvQ fi fdn fty X O L R H O1 (aim L1 xs cs1) R1 H1 A (upS A1 cs1 b) pd1 m sn lo cs cs1 a0 as3 hd sl os3 := by
  obtain ⟨h1, h2, h3, h4, h5, h6⟩ := h
  refine ⟨e, fun x hx9 => ?_, fun x x1 x2 => ?_, h4, (upS_ne (by omega)).trans h5, ha⟩
  · obtain ⟨b1, b2, b3, b4, b5⟩ := h2 x hx9
    exact ⟨b1, (aim_no (fun z => by have := hx x z; omega)).trans b2, b3, b4, (upS_ne (by omega)).trans b5⟩
  · rw [upS_ne (by omega)]; exact h3 x x1 x2
/-- what is known of a truth -/
abbrev BoQ (u : Nat) (as wt wf : Int32) : Prop := BoT u ∧ AsW as wt wf ∧ (¬ as = -1 → (maT u → ¬ wt = -1) ∧ (maF u → ¬ wf = -1))
theorem and_n1 {x y : Int32} (h : ¬ x = -1) : ¬ x &&& y = -1 := fun e => h (and_m1.mp e).1
theorem and_n2 {x y : Int32} (h : ¬ y = -1) : ¬ x &&& y = -1 := fun e => h (and_m1.mp e).2
theorem bcw_63 : ¬ bcw wt wf = 63 := by
  unfold bcw bcd
  split <;> split <;> omega
theorem AsW.and : AsW (wt &&& wf) wt wf := and_m1
theorem in1 (hj : cs ≤ j) : ∀ z : Nat, z ∈ [j] → cs ≤ z := fun z hz => by
  rw [List.mem_singleton.mp hz]; exact hj
/-- a and b -/
theorem EvQ.both (h : EvQ fi fdn fty X O L R H O1 L1 R1 H1 A A1 pd m sn lo cs cs1 a0 as1 hd sl (u :: os)) (hb : BoQ u as1 lt lf)
    (h2 : EvQ fi fdn fty X (upI O1 cs1 (nI 8)) L2 R2 H2 O3 L3 R3 H3 (upS A1 (cs1 + 1) (rcA lt, hd, sl, os)) A3 (fun z => pd z ∨ z = cs1) m sn lo (cs1 + 1) cs3 a2 as2 hd sl (u2 :: os)) (hb2 : BoQ u2 as2 wt2 wf2) (hc : cs1 + 2 ≤ cs3)
    (h3 : EvQ fi fdn fty X O L R H O3 L3 R3 H3 A A3 (fun z => pd z ∨ z = cs1) m sn lo cs cs3 a0 as2 hd sl (u2 :: os)) (ha : AsE a0 (wt2 &&& (wf2 &&& lf))) :
    EvQ fi fdn fty X O L R H O3 (aim L3 [cs1] cs3) R3 H3 A (upS A3 cs3 (rcA (wt2 &&& (wf2 &&& lf)), hd, sl, bcw wt2 (wf2 &&& lf) :: os)) pd m sn lo cs cs3 a0 (wt2 &&& (wf2 &&& lf)) hd sl (bcw wt2 (wf2 &&& lf) :: os) := by
  obtain ⟨j1, j2, j3⟩ := h.jmp h2
  have hcs := h.2.2.2.1
  have hlo := h.1.2.1
  have hlo0 : lo ≤ cs1 := hlo
  refine h3.landed (h3.1.both ⟨hlo0, by omega⟩ j1 j2 j3 hb.1 hb2.1 (fun z => (hb.2.2 z).1) (fun z q => and_n2 ((hb.2.2 z).2 q)) (fun z => (hb2.2.2 z).1) (fun z q => and_n1 ((hb2.2.2 z).2 q)) (fun z e => z ?_) (fun z => and_n2 z)) (in1 hcs) (by omega) ha
  have e1 := and_m1.mp e
  exact hb2.2.1.mpr ⟨e1.1, (and_m1.mp e1.2).1⟩
/-- a or b -/
theorem EvQ.either (h : EvQ fi fdn fty X O L R H O1 L1 R1 H1 A A1 pd m sn lo cs cs1 a0 as1 hd sl (u :: os)) (hb : BoQ u as1 lt lf)
    (h2 : EvQ fi fdn fty X (upI O1 cs1 (nI 9)) L2 R2 H2 O3 L3 R3 H3 (upS A1 (cs1 + 1) (rcA lf, hd, sl, os)) A3 (fun z => pd z ∨ z = cs1) m sn lo (cs1 + 1) cs3 a2 as2 hd sl (u2 :: os)) (hb2 : BoQ u2 as2 wt2 wf2) (hc : cs1 + 2 ≤ cs3)
    (h3 : EvQ fi fdn fty X O L R H O3 L3 R3 H3 A A3 (fun z => pd z ∨ z = cs1) m sn lo cs cs3 a0 as2 hd sl (u2 :: os)) (ha : AsE a0 ((wt2 &&& lt) &&& wf2)) :
    EvQ fi fdn fty X O L R H O3 (aim L3 [cs1] cs3) R3 H3 A (upS A3 cs3 (rcA ((wt2 &&& lt) &&& wf2), hd, sl, bcw (wt2 &&& lt) wf2 :: os)) pd m sn lo cs cs3 a0 ((wt2 &&& lt) &&& wf2) hd sl (bcw (wt2 &&& lt) wf2 :: os) := by
  obtain ⟨j1, j2, j3⟩ := h.jmp h2
  have hcs := h.2.2.2.1
  have hlo0 : lo ≤ cs1 := h.1.2.1
  refine h3.landed (h3.1.either ⟨hlo0, by omega⟩ j1 j2 j3 hb.1 hb2.1 (fun z => (hb.2.2 z).2) (fun z q => and_n2 ((hb.2.2 z).1 q)) (fun z q => and_n1 ((hb2.2.2 z).1 q)) (fun z => (hb2.2.2 z).2) (fun z e => z ?_) (fun z => and_n1 z)) (in1 hcs) (by omega) ha
  have e1 := and_m1.mp e
  exact hb2.2.1.mpr ⟨(and_m1.mp e1.1).1, e1.2⟩
/-- a choice: behind its first E, the jump over it is aimed -/
theorem EvQ.skip (h : EvQ fi fdn fty X O L R H O1 L1 R1 H1 A A1 pd m sn lo cs cs1 a0 as1 hd sl (u :: os)) (hb : BoQ u as1 lt lf)
    (h2 : EvQ fi fdn fty X (upI O1 cs1 (nI 7)) L2 R2 H2 O3 L3 R3 H3 (upS A1 (cs1 + 1) (rcA lt, hd, sl, os)) A3 pd2 m sn lo (cs1 + 1) cs3 a2 (-1) hd sl os3) (hc : cs1 + 2 ≤ cs3)
    (h3 : EvQ fi fdn fty X O L R H O3 L3 R3 H3 A A3 pd2 m sn lo cs cs3 a0 (-1) hd sl os3) (hp : ∀ z : Nat, pd2 z → pd1 z ∨ z = cs1) (ha : AsE a0 lf) :
    EvQ fi fdn fty X O L R H O3 (aim L3 [cs1] cs3) R3 H3 A (upS A3 cs3 (rcA lf, hd, sl, os)) pd1 m sn lo cs cs3 a0 lf hd sl os := by
  obtain ⟨j1, j2, j3⟩ := h.jmp h2
  have hlo0 : lo ≤ cs1 := h.1.2.1
  have hcs := h.2.2.2.1
  exact h3.landed ((h3.1.pdm hp).skip (as3 := lf) (Eq.refl _) ⟨hlo0, by omega⟩ j1 j2 j3 hb.1 (fun z => (hb.2.2 z).1) (fun z => (hb.2.2 z).2)) (in1 h.2.2.2.1) (by omega) ha
/-- the jump behind the first E is aimed at the end -/
theorem EvQ.join (h : EvQ fi fdn fty X O L R H O1 L1 R1 H1 A A1 pd2 m sn lo cs cs1 a1 as1 hd sl os1)
    (hj : O3 cs1 = nI 6) (hA : A3 cs1 = (rcA as1, hd, sl, os1)) (hc : cs1 + 2 ≤ cs3)
    (h3 : EvQ fi fdn fty X O L R H O3 L3 R3 H3 A A3 (fun z => pd z ∨ z = cs1) m sn lo cs cs3 a0 as2 hd sl os2) (g1 : ¬ as1 = -1 → Go fi (1, hd, sl, os1) (rcA as3, hd, sl, os3)) (g2 : ¬ as2 = -1 → Go fi (1, hd, sl, os2) (rcA as3, hd, sl, os3)) (ha : AsE a0 as3) :
    EvQ fi fdn fty X O L R H O3 (aim L3 [cs1] cs3) R3 H3 A (upS A3 cs3 (rcA as3, hd, sl, os3)) pd m sn lo cs cs3 a0 as3 hd sl os3 := by
  have hlo0 : lo ≤ cs1 := h.1.2.1
  have hcs := h.2.2.2.1
  exact h3.landed (h3.1.join ⟨hlo0, by omega⟩ hj hA g1 g2) (in1 hcs) (by omega) ha
/-- both ways of a choice lead to its end -/
theorem Go.cho (h : UTb u (nI t) as wt wf) (ht : t < 128) {r : Nat} (hr : r = 61 → t = 61) (h1 : TL fi t r) (hn : ¬ as = -1 → ¬ as3 = -1) (hz : ¬ as = -1) (hw : ¬ wt = -1 → ¬ wt3 = -1) (hf : ¬ wf = -1 → ¬ wf3 = -1) :
    Go fi (1, hd, sl, u :: os) (rcA as3, hd, sl, (if r = 61 then bcw wt3 wf3 else r) :: os) := by
  refine Go.bool ?_ (hn hz)
  by_cases z : r = 61
  · rw [if_pos z]
    have e := hr z
    subst e
    have q : BoQ u as wt wf := by
      refine h.bo (Eq.refl _) ?_
      rcases h with ⟨_, _, h2, _⟩ | ⟨_, h2, _⟩
      · omega
      · unfold BoT at h2; omega
    exact TL.bcw q.1 (fun w => hw ((q.2.2 hz).1 w)) (fun w => hf ((q.2.2 hz).2 w))
  · rw [if_neg z]
    exact fun S v hv => h1 S v (h.tl ht S v hv)
theorem UTb.asw (h : UTb u (nI t) as wt wf) : AsW as wt wf := by
  rcases h with ⟨_, _, _, h1, h2⟩ | ⟨_, _, h1, _⟩
  · rw [h1, h2]; exact ⟨fun z => ⟨z, z⟩, fun z => z.1⟩
  · exact h1
theorem UTb.cho {r : Nat} (hr : r < 128) (h63 : ¬ r = 61 → wt3 = as3 ∧ wf3 = as3) (ha : AsW as3 wt3 wf3) : UTb (if r = 61 then _root_.Jvm.Pilot.@@N@@.bcw wt3 wf3 else r) (nI r) as3 wt3 wf3 := by
  by_cases z : r = 61
  · rw [if_pos z, z]; exact UTb.bcw ha
  · rw [if_neg z]
    exact Or.inl ⟨rfl, z, hr, (h63 z).1, (h63 z).2⟩
theorem cho_63 {x : Nat} (h : ¬ x = 63) : ¬ (if x = 61 then bcw wt wf else x) = 63 := by
  by_cases z : x = 61
  · rw [if_pos z]; exact bcw_63
  · rw [if_neg z]; exact h
/-- the jump behind the first E, behind the second -/
theorem EvQ.j6 {j : Nat} (q : EvQ fi fdn fty X (upI O1 j (nI 6)) L2 R2 H2 O3 L3 R3 H3 (upS (upS A1 (j + 1) b) (j + 1) (rcA lf, hd, sl, os2)) A3 pd1 m sn lo (j + 1) cs3 a2 as3 hd sl os3) (hc : j + 1 ≤ cs3) (h : EvQ fi fdn fty X O L R H O1 L1 R1 H1 A A1 pd m sn lo cs j a0 as hd sl os1) : O3 j = nI 6 ∧ A3 j = (rcA as, hd, sl, os1) := by
  obtain ⟨b1, b2, b3, b4, b5⟩ := q.2.1 j (by omega)
  exact ⟨b1.trans upI_eq, b5.trans ((upS_ne (by omega)).trans ((upS_ne (by omega)).trans h.1.1.2))⟩
theorem VaQ.ev {pb : PNb} {B B1 : Nat → Nat → Int32} {x : Int32} {t1 : Nat} (q : VaQ pb B B1 A A1 pd m sn lo cs cs1 a0 as wt wf hd sl os t1 u x) (ht : t1 < 128) (hn : ¬ t1 = 63) : EvB pb B B1 A A1 pd m sn lo cs cs1 a0 as hd sl (u :: os) := by
  rcases q with q | ⟨q1, q2, _⟩
  · exact absurd q.1 hn
  · rw [rsO_ne (q2.op ht hn)] at q1
    exact q1
theorem VaQ.st {pb : PNb} {B B1 : Nat → Nat → Int32} {x : Int32} {t1 : Nat} (q : VaQ pb B B1 A A1 pd m sn lo cs cs1 a0 as wt wf hd sl os t1 u x) (hn : ¬ t1 = 63) : cs < cs1 := by
  rcases q with q | ⟨_, _, q3⟩
  · exact absurd q.1 hn
  · exact q3
theorem VaQ.ut {pb : PNb} {B B1 : Nat → Nat → Int32} {x : Int32} {t1 : Nat} (q : VaQ pb B B1 A A1 pd m sn lo cs cs1 a0 as wt wf hd sl os t1 u x) (hn : ¬ t1 = 63) : UTb u (nI t1) as wt wf := by
  rcases q with q | ⟨_, q2, _⟩
  · exact absurd q.1 hn
  · exact q2
theorem VaQ.grp {pb : PNb} {B B1 : Nat → Nat → Int32} {x y : Int32} {t1 : Nat} (q : VaQ pb B B1 A A1 pd m sn lo cs cs1 a0 as wt wf hd sl os t1 u x) (hy : ¬ CaK y) : VaQ pb B B1 A A1 pd m sn lo cs cs1 a0 as wt wf hd sl os t1 u y := by
  rcases q with q | q
  · exact Or.inl ⟨q.1, hy⟩
  · exact Or.inr q
end ZI
