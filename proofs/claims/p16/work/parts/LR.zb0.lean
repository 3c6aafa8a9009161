/-! code as Bodies writes it: what is known of all that was written -/
def EmS (fi : Nat → Nat → Prop) (fdn : Nat → Nat) (fty : Nat → Nat → Nat) (X : PXm) (O L R H : Nat → Int32) (A : Nat → AS) (pd : Nat → Prop) (m sn lo cs : Nat) (as : Int32) (hd : Nat) (sl : Nat → Nat) (os : List Nat) : Prop :=
  ETy fi fdn fty X O L R A pd m sn lo cs as hd sl os ∧ lo ≤ cs ∧ WfA (1, hd, sl, os) ∧ hd ≤ sn ∧
  ∀ pc : Nat, lo ≤ pc → pc < cs → (A pc).1 = 1 → WfA (A pc) ∧ (A pc).2.1 ≤ sn ∧ (A pc).2.2.2.length ≤ 248 ∧ ∃ q : Nat, H pc = nI q ∧ (A pc).2.1 ≤ q ∧ q ≤ sn ∧ (O pc = nI 21 ∨ O pc = nI 22 ∨ O pc = nI 23 ∨ O pc = nI 24 → q = (A pc).2.1)
/-- rows below cs are as they were; what has come since holds hd slots, of the types sl -/
def SmB (O L R H O1 L1 R1 H1 : Nat → Int32) (A A1 : Nat → AS) (cs : Nat) : Prop := ∀ x : Nat, x < cs → O1 x = O x ∧ L1 x = L x ∧ R1 x = R x ∧ H1 x = H x ∧ A1 x = A x
/-- what is assigned within an E: as before, or one doesn't come there -/
def AsE (as x : Int32) : Prop := x = as ∨ x = -1
def EvC (O1 : Nat → Int32) (A1 : Nat → AS) (cs cs1 : Nat) (as0 : Int32) (hd : Nat) (sl : Nat → Nat) : Prop := ∀ x : Nat, cs ≤ x → x < cs1 → (∃ k : Nat, k < 26 ∧ O1 x = nI k) ∧ ((A1 x).1 = 1 → ¬ as0 = -1 ∧ (A1 x).2.1 = hd ∧ (A1 x).2.2.1 = sl)
section ZB
variable {fi : Nat → Nat → Prop} {fdn : Nat → Nat} {fty : Nat → Nat → Nat} {X : PXm} {O L R H O1 L1 R1 H1 O2 L2 R2 H2 : Nat → Int32} {A A1 A2 : Nat → AS} {pd pd1 : Nat → Prop} {m sn sn1 lo cs cs1 cs2 hd hd1 hq k t u : Nat} {l r as as1 as2 : Int32} {sl sl1 : Nat → Nat} {os os1 : List Nat}
theorem WfA.osx (h : WfA (1, hd, sl, os)) : WfA (1, hd, sl, os1) := h
theorem SmB.rfl : SmB O L R H O L R H A A cs := fun _ _ => ⟨Eq.refl _, Eq.refl _, Eq.refl _, Eq.refl _, Eq.refl _⟩
theorem SmB.trans (h : SmB O L R H O1 L1 R1 H1 A A1 cs) (q : SmB O1 L1 R1 H1 O2 L2 R2 H2 A1 A2 cs1) (hc : cs ≤ cs1) : SmB O L R H O2 L2 R2 H2 A A2 cs := fun x hx => by
  obtain ⟨a1, a2, a3, a4, a5⟩ := h x hx
  obtain ⟨b1, b2, b3, b4, b5⟩ := q x (by omega)
  exact ⟨b1.trans a1, b2.trans a2, b3.trans a3, b4.trans a4, b5.trans a5⟩
theorem AsE.rfl : AsE as as := Or.inl (Eq.refl _)
theorem AsE.m1 : AsE as (-1) := Or.inr (Eq.refl _)
theorem AsE.trans (h : AsE as as1) (q : AsE as1 as2) : AsE as as2 := by
  rcases q with e | e
  · rw [e]; exact h
  · exact Or.inr e
theorem AsE.ne (h : AsE as as1) (z : ¬ as1 = -1) : ¬ as = -1 := fun e => by
  rcases h with w | w
  · exact z (w.trans e)
  · exact z w
theorem EvC.nil : EvC O1 A1 cs cs as hd sl := fun x h1 h2 => by omega
/-- an instruction comes -/
theorem EmS.emit (h : EmS fi fdn fty X O L R H A pd m sn lo cs as hd sl os) (hs : sn ≤ sn1) (hk : k < 31) (hl : os.length ≤ 248) (hq1 : hd ≤ hq ∧ hq ≤ sn1) (hq2 : k = 21 ∨ k = 22 ∨ k = 23 ∨ k = 24 → hq = hd) (hw : WfA (1, hd1, sl1, os1)) (hd9 : hd1 ≤ sn1)
    (hr : ¬ as = -1 → IRk fi fdn fty X SgT PfT (fun y => lo ≤ y ∧ y < cs + 1 ∧ upI O cs (nI k) y = 0) cs m sn1 (cs + 1) l r (1, hd, sl, os) (rcA as1, hd1, sl1, os1) (upS A (cs + 1) (rcA as1, hd1, sl1, os1)) k) :
    EmS fi fdn fty X (upI O cs (nI k)) (upI L cs l) (upI R cs r) (upI H cs (nI hq)) (upS A (cs + 1) (rcA as1, hd1, sl1, os1)) pd m sn1 lo (cs + 1) as1 hd1 sl1 os1 ∧ SmB O L R H (upI O cs (nI k)) (upI L cs l) (upI R cs r) (upI H cs (nI hq)) A (upS A (cs + 1) (rcA as1, hd1, sl1, os1)) cs := by
  obtain ⟨h1, h2, h3, h4, h5⟩ := h
  refine ⟨⟨h1.emit hs hk hr, by omega, hw, hd9, fun pc p1 p2 p3 => ?_⟩, fun x hx => ⟨upI_ne (by omega), upI_ne (by omega), upI_ne (by omega), upI_ne (by omega), upS_ne (by omega)⟩⟩
  by_cases z : pc = cs
  · subst z
    rw [upS_ne (by omega)] at p3 ⊢
    rw [h1.2] at p3 ⊢
    refine ⟨h3, by show hd ≤ sn1; omega, hl, hq, upI_eq, hq1.1, hq1.2, fun q => hq2 ?_⟩
    rw [upI_eq] at q
    rcases q with q | q | q | q
    · exact Or.inl ((nI_eq (by omega) (by omega)).mp q)
    · exact Or.inr (Or.inl ((nI_eq (by omega) (by omega)).mp q))
    · exact Or.inr (Or.inr (Or.inl ((nI_eq (by omega) (by omega)).mp q)))
    · exact Or.inr (Or.inr (Or.inr ((nI_eq (by omega) (by omega)).mp q)))
  · rw [upS_ne (by omega)] at p3 ⊢
    obtain ⟨a1, a2, a3, q, a4, a5, a6, a7⟩ := h5 pc p1 (by omega) p3
    refine ⟨a1, by omega, a3, q, by rw [upI_ne (by omega)]; exact a4, a5, by omega, fun w => a7 ?_⟩
    rw [upI_ne (by omega)] at w
    exact w
/-- one instruction of an E: slots stay -/
theorem EvC.one (hk : k < 26) (h : A cs = (rcA as, hd, sl, os)) {b : AS} {v : Int32} (he : v = nI k) : EvC (upI O cs v) (upS A (cs + 1) b) cs (cs + 1) as hd sl := fun x h1 h2 => by
  have e : x = cs := by omega
  subst e
  rw [upI_eq, upS_ne (by omega), h]
  exact ⟨⟨k, hk, he⟩, fun z => ⟨rcA_of z, rfl, rfl⟩⟩
theorem EvC.trans (h : EvC O1 A1 cs cs1 as hd sl) (q : EvC O2 A2 cs1 cs2 as1 hd sl) (s : SmB O1 L1 R1 H1 O2 L2 R2 H2 A1 A2 cs1) (ha : AsE as as1) : EvC O2 A2 cs cs2 as hd sl := fun x h1 h2 => by
  by_cases z : x < cs1
  · obtain ⟨a1, a2, a3, a4, a5⟩ := s x z
    rw [a1, a5]; exact h x h1 z
  · obtain ⟨b1, b2⟩ := q x (by omega) h2
    exact ⟨b1, fun w => ⟨ha.ne (b2 w).1, (b2 w).2⟩⟩
/-- what an E leaves -/
def EvQ (fi : Nat → Nat → Prop) (fdn : Nat → Nat) (fty : Nat → Nat → Nat) (X : PXm) (O L R H O1 L1 R1 H1 : Nat → Int32) (A A1 : Nat → AS) (pd : Nat → Prop) (m sn lo cs cs1 : Nat) (as0 as1 : Int32) (hd : Nat) (sl : Nat → Nat) (os1 : List Nat) : Prop :=
  EmS fi fdn fty X O1 L1 R1 H1 A1 pd m sn lo cs1 as1 hd sl os1 ∧ SmB O L R H O1 L1 R1 H1 A A1 cs ∧ EvC O1 A1 cs cs1 as0 hd sl ∧ cs ≤ cs1 ∧ A1 cs = A cs ∧ AsE as0 as1
theorem EvQ.trans (h : EvQ fi fdn fty X O L R H O1 L1 R1 H1 A A1 pd m sn lo cs cs1 as as1 hd sl os) (q : EvQ fi fdn fty X O1 L1 R1 H1 O2 L2 R2 H2 A1 A2 pd1 m sn lo cs1 cs2 as1 as2 hd sl os1) : EvQ fi fdn fty X O L R H O2 L2 R2 H2 A A2 pd1 m sn lo cs cs2 as as2 hd sl os1 := by
  obtain ⟨h1, h2, h3, h4, h5, h6⟩ := h
  obtain ⟨q1, q2, q3, q4, q5, q6⟩ := q
  refine ⟨q1, h2.trans q2 h4, h3.trans q3 q2 h6, by omega, ?_, h6.trans q6⟩
  by_cases z : cs = cs1
  · subst z; exact q5.trans h5
  · exact (q2 cs (by omega)).2.2.2.2.trans h5
/-- an instruction of an E -/
theorem EmS.ev (h : EmS fi fdn fty X O L R H A pd m sn lo cs as hd sl os) (hk : k < 26) (hl : os.length ≤ 248) (ha : AsE as as1)
    (hr : ¬ as = -1 → IRk fi fdn fty X SgT PfT (fun y => lo ≤ y ∧ y < cs + 1 ∧ upI O cs (nI k) y = 0) cs m sn (cs + 1) l r (1, hd, sl, os) (rcA as1, hd, sl, os1) (upS A (cs + 1) (rcA as1, hd, sl, os1)) k) :
    EvQ fi fdn fty X O L R H (upI O cs (nI k)) (upI L cs l) (upI R cs r) (upI H cs (nI hd)) A (upS A (cs + 1) (rcA as1, hd, sl, os1)) pd m sn lo cs (cs + 1) as as1 hd sl os1 := by
  have h9 := h
  obtain ⟨h1, h2, h3, h4, h5⟩ := h9
  obtain ⟨q1, q2⟩ := h.emit (hq := hd) (Nat.le_refl _) (by omega) hl ⟨Nat.le_refl _, h4⟩ (fun _ => rfl) (WfA.osx h3) h4 hr
  exact ⟨q1, q2, EvC.one hk h1.2 rfl, by omega, upS_ne (by omega), ha⟩
/-- what is assigned is told otherwise -/
theorem EmS.asg (h : EmS fi fdn fty X O L R H A pd m sn lo cs as hd sl os) (e : as = -1 ↔ as1 = -1) : EmS fi fdn fty X O L R H A pd m sn lo cs as1 hd sl os := ⟨h.1.asg e, h.2⟩
/-- leaves: a number, null, a truth, a slot, read -/
theorem EmS.const (h : EmS fi fdn fty X O L R H A pd m sn lo cs as hd sl os) (hl : os.length ≤ 248) (hv : ∀ S : Nat → Nat, VT fi S u (nmV l)) : EvQ fi fdn fty X O L R H (upI O cs (nI 1)) (upI L cs l) (upI R cs r) (upI H cs (nI hd)) A (upS A (cs + 1) (rcA as, hd, sl, u :: os)) pd m sn lo cs (cs + 1) as as hd sl (u :: os) :=
  h.ev (by omega) hl AsE.rfl (fun z => ⟨u, hv, go1 z⟩)
theorem EmS.load (h : EmS fi fdn fty X O L R H A pd m sn lo cs as hd sl os) (hl : os.length ≤ 248) (ht : t < hd) (h9 : sl t < 900) : EvQ fi fdn fty X O L R H (upI O cs (nI 2)) (upI L cs (nI t)) (upI R cs r) (upI H cs (nI hd)) A (upS A (cs + 1) (rcA as, hd, sl, sl t :: os)) pd m sn lo cs (cs + 1) as as hd sl (sl t :: os) :=
  h.ev (by omega) hl AsE.rfl (fun z => ⟨t, rfl, ht, h9, go1 z⟩)
theorem EmS.read (h : EmS fi fdn fty X O L R H A pd m sn lo cs as hd sl os) (hl : os.length ≤ 248) : EvQ fi fdn fty X O L R H (upI O cs (nI 12)) (upI L cs l) (upI R cs r) (upI H cs (nI hd)) A (upS A (cs + 1) (rcA as, hd, sl, 60 :: os)) pd m sn lo cs (cs + 1) as as hd sl (60 :: os) :=
  h.ev (by omega) hl AsE.rfl (fun z => go1 z)
theorem EmS.make {c : Nat} (h : EmS fi fdn fty X O L R H A pd m sn lo cs as hd sl os) (hl : os.length ≤ 248) (hc : c < 60) (hx : X.1 c) : EvQ fi fdn fty X O L R H (upI O cs (nI 21)) (upI L cs (nI c)) (upI R cs r) (upI H cs (nI hd)) A (upS A (cs + 1) (rcA as, hd, sl, c :: os)) pd m sn lo cs (cs + 1) as as hd sl (c :: os) :=
  h.ev (by omega) hl AsE.rfl (fun z => ⟨c, rfl, hc, hx, go1 z⟩)
/-- one operand for another -/
theorem EmS.field {c n : Nat} (h : EmS fi fdn fty X O L R H A pd m sn lo cs as hd sl (c :: os)) (hl : (c :: os).length ≤ 248) (hc : c < 60) (hn : n < fdn c) : EvQ fi fdn fty X O L R H (upI O cs (nI 17)) (upI L cs (nI n)) (upI R cs r) (upI H cs (nI hd)) A (upS A (cs + 1) (rcA as, hd, sl, fty c n :: os)) pd m sn lo cs (cs + 1) as as hd sl (fty c n :: os) :=
  h.ev (by omega) hl AsE.rfl (fun z => ⟨c, n, os, rfl, rfl, hc, hn, go1 z⟩)
theorem EmS.elem {c : Nat} (h : EmS fi fdn fty X O L R H A pd m sn lo cs as hd sl (t :: c :: os)) (hl : (t :: c :: os).length ≤ 248) (hc : 64 ≤ c ∧ c < 128) : EvQ fi fdn fty X O L R H (upI O cs (nI 19)) (upI L cs l) (upI R cs r) (upI H cs (nI hd)) A (upS A (cs + 1) (rcA as, hd, sl, (c - 64) :: os)) pd m sn lo cs (cs + 1) as as hd sl ((c - 64) :: os) :=
  h.ev (by omega) hl AsE.rfl (fun z => ⟨t, c, os, rfl, hc.1, hc.2, go1 z⟩)
theorem EmS.len (h : EmS fi fdn fty X O L R H A pd m sn lo cs as hd sl (t :: os)) (hl : (t :: os).length ≤ 248) (ht : RfT t) : EvQ fi fdn fty X O L R H (upI O cs (nI 16)) (upI L cs l) (upI R cs r) (upI H cs (nI hd)) A (upS A (cs + 1) (rcA as, hd, sl, 60 :: os)) pd m sn lo cs (cs + 1) as as hd sl (60 :: os) :=
  h.ev (by omega) hl AsE.rfl (fun z => ⟨t, os, rfl, ht, go1 z⟩)
theorem EmS.newA (h : EmS fi fdn fty X O L R H A pd m sn lo cs as hd sl (t :: os)) (hl : (t :: os).length ≤ 248) (hu : u < 62) : EvQ fi fdn fty X O L R H (upI O cs (nI 22)) (upI L cs (nI (64 + u))) (upI R cs r) (upI H cs (nI hd)) A (upS A (cs + 1) (rcA as, hd, sl, (64 + u) :: os)) pd m sn lo cs (cs + 1) as as hd sl ((64 + u) :: os) :=
  h.ev (by omega) hl AsE.rfl (fun z => ⟨t, u, os, rfl, hu, rfl, go1 z⟩)
theorem EmS.is (h : EmS fi fdn fty X O L R H A pd m sn lo cs as hd sl (t :: os)) (hl : (t :: os).length ≤ 248) (ht : RfT t) (hu : u < 128) : EvQ fi fdn fty X O L R H (upI O cs (nI 14)) (upI L cs (nI u)) (upI R cs r) (upI H cs (nI hd)) A (upS A (cs + 1) (rcA as, hd, sl, 61 :: os)) pd m sn lo cs (cs + 1) as as hd sl (61 :: os) :=
  h.ev (by omega) hl AsE.rfl (fun z => ⟨t, u, os, rfl, hu, rfl, ht, go1 z⟩)
theorem EmS.cast (h : EmS fi fdn fty X O L R H A pd m sn lo cs as hd sl (t :: os)) (hl : (t :: os).length ≤ 248) (ht : RfT t) (hu : RfT u) : EvQ fi fdn fty X O L R H (upI O cs (nI 15)) (upI L cs (nI u)) (upI R cs r) (upI H cs (nI hd)) A (upS A (cs + 1) (rcA as, hd, sl, u :: os)) pd m sn lo cs (cs + 1) as as hd sl (u :: os) :=
  h.ev (by omega) hl AsE.rfl (fun z => ⟨t, u, os, rfl, hu, rfl, ht, go1 z⟩)
theorem EmS.pref (h : EmS fi fdn fty X O L R H A pd m sn lo cs as hd sl (t :: os)) (hl : (t :: os).length ≤ 248) (hp : PfT l t u) : EvQ fi fdn fty X O L R H (upI O cs (nI 11)) (upI L cs l) (upI R cs r) (upI H cs (nI hd)) A (upS A (cs + 1) (rcA as, hd, sl, u :: os)) pd m sn lo cs (cs + 1) as as hd sl (u :: os) :=
  h.ev (by omega) hl AsE.rfl (fun z => ⟨t, u, os, rfl, hp, go1 z⟩)
theorem EmS.sign {t2 : Nat} (h : EmS fi fdn fty X O L R H A pd m sn lo cs as hd sl (t2 :: t :: os)) (hl : (t2 :: t :: os).length ≤ 248) (hp : SgT l t t2 u) : EvQ fi fdn fty X O L R H (upI O cs (nI 10)) (upI L cs l) (upI R cs r) (upI H cs (nI hd)) A (upS A (cs + 1) (rcA as, hd, sl, u :: os)) pd m sn lo cs (cs + 1) as as hd sl (u :: os) :=
  h.ev (by omega) hl AsE.rfl (fun z => ⟨t2, t, u, os, rfl, hp, go1 z⟩)
/-- calls -/
theorem EmS.call {c : Nat} {ar : List Nat} (h : EmS fi fdn fty X O L R H A pd m sn lo cs as hd sl (ar ++ c :: os)) (hl : (ar ++ c :: os).length ≤ 248) (hc : c < 60) (hx : ∀ d : Nat, (d < 60 → X.1 d) → fi d c → d < 60 ∧ ∃ j : Nat, X.2.1 d l = some j ∧ X.2.2.1 j = ar.length ∧ ArgL fi (X.2.2.2.1 j) ar ∧ X.2.2.2.2.1 j = u ∧ fi d (X.2.2.2.2.2 j)) : EvQ fi fdn fty X O L R H (upI O cs (nI 23)) (upI L cs l) (upI R cs (nI ar.length)) (upI H cs (nI hd)) A (upS A (cs + 1) (rcA as, hd, sl, rsO u os)) pd m sn lo cs (cs + 1) as as hd sl (rsO u os) :=
  h.ev (by omega) hl AsE.rfl (fun z => ⟨c, u, os, ar, rfl, rfl, hc, hx, fun e => by rw [e, rsO_63]; exact go1 z, fun e => by rw [rsO_ne e]; exact go1 z⟩)
theorem EmS.callS {c j : Nat} {ar : List Nat} (h : EmS fi fdn fty X O L R H A pd m sn lo cs as hd sl (ar ++ c :: os)) (hl : (ar ++ c :: os).length ≤ 248) (h1 : X.2.2.1 j = ar.length) (h2 : ArgL fi (X.2.2.2.1 j) ar) (h3 : X.2.2.2.2.1 j = u) (h4 : TL fi c (X.2.2.2.2.2 j)) (h5 : ∃ (d : Nat) (x : Int32), X.1 d ∧ X.2.1 d x = some j) : EvQ fi fdn fty X O L R H (upI O cs (nI 24)) (upI L cs (nI j)) (upI R cs (nI ar.length)) (upI H cs (nI hd)) A (upS A (cs + 1) (rcA as, hd, sl, rsO u os)) pd m sn lo cs (cs + 1) as as hd sl (rsO u os) :=
  h.ev (by omega) hl AsE.rfl (fun z => ⟨c, u, j, os, ar, rfl, rfl, rfl, h1, h2, h3, h4, h5, fun e => by rw [e, rsO_63]; exact go1 z, fun e => by rw [rsO_ne e]; exact go1 z⟩)
end ZB
