/-! statements: from one state to the next -/
def StW (fi : Nat → Nat → Prop) (fdn : Nat → Nat) (fty : Nat → Nat → Nat) (X : PXm) (A A1 : Nat → AS) (Q Q1 : RX) (pd pd1 : Nat → Prop) (m sn lo cs cs1 : Nat) (as0 as1 : Int32) (hd hd1 : Nat) (sl sl1 : Nat → Nat) (g0 g1 : Nat) (O1 L1 R1 H1 : Nat → Int32) (os : List Nat) : Prop :=
  EmS fi fdn fty X O1 L1 R1 H1 A1 pd1 m sn lo cs1 as1 hd1 sl1 os ∧ PcS A1 Q1 O1 L1 pd1 as0 sn cs cs1 g0 g1 hd sl ∧ (∀ x : Nat, x ≤ cs → A1 x = A x) ∧ RqS Q Q1 g0 ∧ (∀ z : Nat, z < cs → (pd1 z ↔ pd z)) ∧ (¬ as1 = -1 → ¬ as0 = -1) ∧ (hd ≤ hd1 ∧ ∀ s : Nat, s < hd → sl1 s = sl s) ∧ cs ≤ cs1 ∧ g0 ≤ g1
section ZM
variable {fi : Nat → Nat → Prop} {fdn : Nat → Nat} {fty : Nat → Nat → Nat} {X : PXm} {A A1 A2 : Nat → AS} {Q Q1 Q2 : RX} {pd pd1 pd2 : Nat → Prop} {m sn sn1 lo cs cs1 cs2 hd hd1 hd2 hq g0 g1 g2 k c t : Nat} {as0 as1 as2 as3 l r bs : Int32} {sl sl1 sl2 : Nat → Nat} {O1 L1 R1 H1 O2 L2 R2 H2 : Nat → Int32} {os os2 : List Nat} {xs : List Nat} {b : AS}
theorem StW.nil (h : EmS fi fdn fty X O1 L1 R1 H1 A pd m sn lo cs as0 hd sl os) : StW fi fdn fty X A A Q Q pd pd m sn lo cs cs as0 as0 hd hd sl sl g0 g0 O1 L1 R1 H1 os :=
  ⟨h, PcS.nil, fun _ _ => rfl, RqS.rfl, fun _ _ => Iff.rfl, id, ⟨Nat.le_refl _, fun _ _ => rfl⟩, Nat.le_refl _, Nat.le_refl _⟩
/-- a piece is added -/
theorem StW.add (h : StW fi fdn fty X A A1 Q Q1 pd pd1 m sn lo cs cs1 as0 as1 hd hd1 sl sl1 g0 g1 O1 L1 R1 H1 os) (hs : sn ≤ sn1) (hm : SmS A1 A2 O1 O2 L1 L2 pd1 pd2 cs1) (ha : A2 cs1 = A1 cs1) (hq : RqS Q1 Q2 g1) (e : EmS fi fdn fty X O2 L2 R2 H2 A2 pd2 m sn1 lo cs2 as2 hd2 sl2 os2) (p : PcS A2 Q2 O2 L2 pd2 as1 sn1 cs1 cs2 g1 g2 hd1 sl1) (has : ¬ as2 = -1 → ¬ as1 = -1) (hh : hd ≤ hd2 ∧ ∀ s : Nat, s < hd → sl2 s = sl s) (i1 : cs1 ≤ cs2) (i2 : g1 ≤ g2) :
    StW fi fdn fty X A A2 Q Q2 pd pd2 m sn1 lo cs cs2 as0 as2 hd hd2 sl sl2 g0 g2 O2 L2 R2 H2 os2 := by
  obtain ⟨h1, h2, h3, h4, h5, h6, h7, h8, h9⟩ := h
  refine ⟨e, (h2.later hm ha hq hs).join p h7.1 h7.2 h6 h8 i1 h9 i2, fun x hx => ?_, h4.trans hq h9, fun z hz => ((hm z (by omega)).2.2.2).trans (h5 z hz), fun z => h6 (has z), hh, by omega, by omega⟩
  by_cases z : x = cs1
  · rw [z, ha, ← z]; exact h3 x hx
  · exact ((hm x (by omega)).1).trans (h3 x hx)
/-- an E -/
theorem StW.ev (h : StW fi fdn fty X A A1 Q Q1 pd pd1 m sn lo cs cs1 as0 as1 hd hd1 sl sl1 g0 g1 O1 L1 R1 H1 os) (q : EvQ fi fdn fty X O1 L1 R1 H1 O2 L2 R2 H2 A1 A2 pd1 m sn lo cs1 cs2 as1 as2 hd1 sl1 os2) : StW fi fdn fty X A A2 Q Q1 pd pd1 m sn lo cs cs2 as0 as2 hd hd1 sl sl1 g0 g1 O2 L2 R2 H2 os2 :=
  h.add (Nat.le_refl _) (fun x hx => ⟨(q.2.1 x hx).2.2.2.2, (q.2.1 x hx).1, (q.2.1 x hx).2.1, Iff.rfl⟩) q.2.2.2.2.1 RqS.rfl q.1 (PcS.ev q) q.2.2.2.2.2.ne h.2.2.2.2.2.2.1 q.2.2.2.1 (Nat.le_refl _)
/-- an instruction -/
theorem StW.ins (h : StW fi fdn fty X A A1 Q Q1 pd pd1 m sn lo cs cs1 as0 as1 hd hd1 sl sl1 g0 g1 O1 L1 R1 H1 os) (hs : sn ≤ sn1) (hk : k < 31 ∧ ¬ k = 28 ∧ ¬ k = 30) (hl : os.length ≤ 248) (hq1 : hd1 ≤ hq ∧ hq ≤ sn1) (hq2 : k = 21 ∨ k = 22 ∨ k = 23 ∨ k = 24 → hq = hd1) (hw : WfA (1, hd2, sl2, os2)) (hd9 : hd2 ≤ sn1)
    (hr : ¬ as1 = -1 → IRk fi fdn fty X SgT PfT (fun y => lo ≤ y ∧ y < cs1 + 1 ∧ upI O1 cs1 (nI k) y = 0) cs1 m sn1 (cs1 + 1) l r (1, hd1, sl1, os) (rcA as2, hd2, sl2, os2) (upS A1 (cs1 + 1) (rcA as2, hd2, sl2, os2)) k) (has : ¬ as2 = -1 → ¬ as1 = -1) (hh : hd ≤ hd2 ∧ ∀ s : Nat, s < hd → sl2 s = sl s) :
    StW fi fdn fty X A (upS A1 (cs1 + 1) (rcA as2, hd2, sl2, os2)) Q Q1 pd pd1 m sn1 lo cs (cs1 + 1) as0 as2 hd hd2 sl sl2 g0 g1 (upI O1 cs1 (nI k)) (upI L1 cs1 l) (upI R1 cs1 r) (upI H1 cs1 (nI hq)) os2 := by
  have hA : A1 cs1 = (rcA as1, hd1, sl1, os) := h.1.1.2
  obtain ⟨q1, q2⟩ := h.1.emit (hq := hq) hs hk.1 hl hq1 hq2 hw hd9 hr
  exact h.add hs (fun x hx => ⟨(q2 x hx).2.2.2.2, (q2 x hx).1, (q2 x hx).2.1, Iff.rfl⟩) (upS_ne (by omega)) RqS.rfl q1 (PcS.one ((upS_ne (by omega)).trans hA) upI_eq ⟨hk.1, hk.2.2⟩ (fun z => absurd z hk.2.1)) has hh (by omega) (Nat.le_refl _)
/-- a jump that is to be aimed later -/
theorem StW.jmp (h : StW fi fdn fty X A A1 Q Q1 pd pd1 m sn lo cs cs1 as0 as1 hd hd1 sl sl1 g0 g1 O1 L1 R1 H1 os) (hl : os.length ≤ 248) (hk : ¬ k = 21 ∧ ¬ k = 22 ∧ ¬ k = 23 ∧ ¬ k = 24 ∧ k < 31 ∧ ¬ k = 30) (hpd : ∀ z : Nat, z < cs1 → (pd1 z ↔ pd2 z)) (hpc : pd2 cs1) (has : ¬ as2 = -1 → ¬ as1 = -1) :
    StW fi fdn fty X A (upS A1 (cs1 + 1) (rcA as2, hd1, sl1, os2)) Q Q1 pd pd2 m sn lo cs (cs1 + 1) as0 as2 hd hd1 sl sl1 g0 g1 (upI O1 cs1 (nI k)) (upI L1 cs1 l) (upI R1 cs1 r) (upI H1 cs1 (nI hd1)) os2 := by
  have hA : A1 cs1 = (rcA as1, hd1, sl1, os) := h.1.1.2
  obtain ⟨q1, q2⟩ := h.1.pend (l := l) (r := r) (as1 := as2) (os1 := os2) (k := k) hl ⟨hk.1, hk.2.1, hk.2.2.1, hk.2.2.2.1, hk.2.2.2.2.1⟩
  have q3 : EmS fi fdn fty X (upI O1 cs1 (nI k)) (upI L1 cs1 l) (upI R1 cs1 r) (upI H1 cs1 (nI hd1)) (upS A1 (cs1 + 1) (rcA as2, hd1, sl1, os2)) pd2 m sn lo (cs1 + 1) as2 hd1 sl1 os2 := by
    obtain ⟨⟨e0, e1⟩, e2⟩ := q1
    refine ⟨⟨fun pc a1 a2 a3 a4 => e0 pc a1 a2 a3 (fun z => a4 ?_), e1⟩, e2⟩
    rcases z with z | z
    · by_cases w : pc = cs1
      · rw [w]; exact hpc
      · exact (hpd pc (by omega)).mp z
    · rw [z]; exact hpc
  exact h.add (Nat.le_refl _) (fun x hx => ⟨(q2 x hx).2.2.2.2, (q2 x hx).1, (q2 x hx).2.1, (hpd x hx).symm⟩) (upS_ne (by omega)) RqS.rfl q3 (PcS.one ((upS_ne (by omega)).trans hA) upI_eq ⟨hk.2.2.2.2.1, hk.2.2.2.2.2⟩ (fun _ => hpc)) has h.2.2.2.2.2.2.1 (by omega) (Nat.le_refl _)
/-- one statement behind the other -/
theorem StW.seq (h : StW fi fdn fty X A A1 Q Q1 pd pd1 m sn lo cs cs1 as0 as1 hd hd1 sl sl1 g0 g1 O1 L1 R1 H1 os) (hs : sn ≤ sn1) (hr : ∀ x : Nat, x < cs1 → O2 x = O1 x ∧ L2 x = L1 x) (q : StW fi fdn fty X A1 A2 Q1 Q2 pd1 pd2 m sn1 lo cs1 cs2 as1 as2 hd1 hd2 sl1 sl2 g1 g2 O2 L2 R2 H2 os2) : StW fi fdn fty X A A2 Q Q2 pd pd2 m sn1 lo cs cs2 as0 as2 hd hd2 sl sl2 g0 g2 O2 L2 R2 H2 os2 := by
  obtain ⟨q1, q2, q3, q4, q5, q6, q7, q8, q9⟩ := q
  exact h.add hs (fun x hx => ⟨q3 x (by omega), (hr x hx).1, (hr x hx).2, q5 x hx⟩) (q3 cs1 (Nat.le_refl _)) q4 q1 q2 q6 ⟨by have := h.2.2.2.2.2.2.1.1; omega, fun s hs9 => (q7.2 s (by have := h.2.2.2.2.2.2.1.1; omega)).trans (h.2.2.2.2.2.2.1.2 s hs9)⟩ q8 q9
/-- held less behind it: a scope ends -/
theorem StW.scope (h : StW fi fdn fty X A A1 Q Q1 pd pd1 m sn lo cs cs1 as0 as1 hd hd1 sl sl1 g0 g1 O1 L1 R1 H1 []) (hc : cs < cs1 ∨ (hd1 = hd ∧ sl1 = sl)) (hc9 : cs1 < 10000) (hw : WfA (1, hd, sl, [])) (hs : hd ≤ sn) : ∃ A2 : Nat → AS, StW fi fdn fty X A A2 Q Q1 pd pd1 m sn lo cs cs1 as0 as1 hd hd sl sl g0 g1 O1 L1 R1 H1 [] := by
  rcases hc with z | ⟨e1, e2⟩
  · obtain ⟨h1, h2, h3, h4, h5, h6, h7, h8, h9⟩ := h
    refine ⟨upS A1 cs1 (rcA as1, hd, sl, []), ?_, ?_, fun x hx => (upS_ne (by omega)).trans (h3 x hx), h4, h5, h6, ⟨Nat.le_refl _, fun _ _ => rfl⟩, h8, h9⟩
    · have e := h1.land (xs := []) (pd1 := pd1) (as1 := as1) (hd1 := hd) (sl1 := sl) (os1 := []) (fun w => ⟨rcA_1 w, h7.1, fun s hs9 => (h7.2 s hs9).symm, trivial⟩) (fun w hw9 => absurd hw9 (List.not_mem_nil)) (fun w q _ => q) hw hs (fun w hw9 => absurd hw9 (List.not_mem_nil))
      rw [aim_nil] at e
      exact e
    · have e := h2.lands (xs := []) (pd1 := pd1) (as1 := as1) (sl1 := sl) (fun _ w => w) (fun w q1 q2 => absurd q1 q2) (fun w hw9 => absurd hw9 (List.not_mem_nil)) hc9
      rw [aim_nil] at e
      exact e
  · subst e1
    subst e2
    exact ⟨A1, h⟩
end ZM
