/-! statements: their instructions -/
section ZN
variable {fi : Nat → Nat → Prop} {fdn : Nat → Nat} {fty : Nat → Nat → Nat} {X : PXm} {A A1 : Nat → AS} {Q Q1 : RX} {pd pd1 : Nat → Prop} {m sn sn1 lo cs cs1 hd hd1 g0 g1 k s t c n x i : Nat} {as0 as1 as2 l r : Int32} {sl sl1 : Nat → Nat} {O1 L1 R1 H1 : Nat → Int32} {os os2 : List Nat}
theorem StW.op (h : StW fi fdn fty X A A1 Q Q1 pd pd1 m sn lo cs cs1 as0 as1 hd hd1 sl sl1 g0 g1 O1 L1 R1 H1 os) (hk : k < 31 ∧ ¬ k = 28 ∧ ¬ k = 30) (hl : os.length ≤ 248) (has : ¬ as2 = -1 → ¬ as1 = -1)
    (hr : ¬ as1 = -1 → IRk fi fdn fty X SgT PfT (fun y => lo ≤ y ∧ y < cs1 + 1 ∧ upI O1 cs1 (nI k) y = 0) cs1 m sn (cs1 + 1) l r (1, hd1, sl1, os) (rcA as2, hd1, sl1, os2) (upS A1 (cs1 + 1) (rcA as2, hd1, sl1, os2)) k) :
    StW fi fdn fty X A (upS A1 (cs1 + 1) (rcA as2, hd1, sl1, os2)) Q Q1 pd pd1 m sn lo cs (cs1 + 1) as0 as2 hd hd1 sl sl1 g0 g1 (upI O1 cs1 (nI k)) (upI L1 cs1 l) (upI R1 cs1 r) (upI H1 cs1 (nI hd1)) os2 :=
  h.ins (Nat.le_refl _) hk hl ⟨Nat.le_refl _, h.1.2.2.2.1⟩ (fun _ => rfl) (WfA.osx h.1.2.2.1) h.1.2.2.2.1 hr has h.2.2.2.2.2.2.1
/-- what is assigned is told otherwise, but one comes there as before -/
theorem StW.asg (h : StW fi fdn fty X A A1 Q Q1 pd pd1 m sn lo cs cs1 as0 as1 hd hd1 sl sl1 g0 g1 O1 L1 R1 H1 os) (e : as2 = -1 ↔ as1 = -1) : StW fi fdn fty X A A1 Q Q1 pd pd1 m sn lo cs cs1 as0 as2 hd hd1 sl sl1 g0 g1 O1 L1 R1 H1 os :=
  ⟨h.1.asg e.symm, h.2.1, h.2.2.1, h.2.2.2.1, h.2.2.2.2.1, fun z => h.2.2.2.2.2.1 (fun w => z (e.mpr w)), h.2.2.2.2.2.2⟩
theorem StW.fuel (h : StW fi fdn fty X A A1 Q Q1 pd pd1 m sn lo cs cs1 as0 as1 hd hd1 sl sl1 g0 g1 O1 L1 R1 H1 []) : StW fi fdn fty X A (upS A1 (cs1 + 1) (rcA as1, hd1, sl1, [])) Q Q1 pd pd1 m sn lo cs (cs1 + 1) as0 as1 hd hd1 sl sl1 g0 g1 (upI O1 cs1 (nI 0)) (upI L1 cs1 l) (upI R1 cs1 r) (upI H1 cs1 (nI hd1)) [] :=
  h.op (by decide) (Nat.zero_le _) id (fun z => go1 z)
theorem StW.store (h : StW fi fdn fty X A A1 Q Q1 pd pd1 m sn lo cs cs1 as0 as1 hd hd1 sl sl1 g0 g1 O1 L1 R1 H1 [t]) (hs : s < hd1) (h9 : sl1 s < 900) (ht : TL fi t (sl1 s)) : StW fi fdn fty X A (upS A1 (cs1 + 1) (rcA as1, hd1, sl1, [])) Q Q1 pd pd1 m sn lo cs (cs1 + 1) as0 as1 hd hd1 sl sl1 g0 g1 (upI O1 cs1 (nI 3)) (upI L1 cs1 (nI s)) (upI R1 cs1 r) (upI H1 cs1 (nI hd1)) [] :=
  h.op (by decide) (by show 1 ≤ 248; omega) id (fun z => ⟨s, t, [], rfl, hs, h9, rfl, ht, go1 z⟩)
theorem StW.pop1 (h : StW fi fdn fty X A A1 Q Q1 pd pd1 m sn lo cs cs1 as0 as1 hd hd1 sl sl1 g0 g1 O1 L1 R1 H1 [t]) : StW fi fdn fty X A (upS A1 (cs1 + 1) (rcA as1, hd1, sl1, [])) Q Q1 pd pd1 m sn lo cs (cs1 + 1) as0 as1 hd hd1 sl sl1 g0 g1 (upI O1 cs1 (nI 5)) (upI L1 cs1 l) (upI R1 cs1 r) (upI H1 cs1 (nI hd1)) [] :=
  h.op (by decide) (by show 1 ≤ 248; omega) id (fun z => ⟨t, [], rfl, go1 z⟩)
theorem StW.print (h : StW fi fdn fty X A A1 Q Q1 pd pd1 m sn lo cs cs1 as0 as1 hd hd1 sl sl1 g0 g1 O1 L1 R1 H1 [t]) : StW fi fdn fty X A (upS A1 (cs1 + 1) (rcA as1, hd1, sl1, [])) Q Q1 pd pd1 m sn lo cs (cs1 + 1) as0 as1 hd hd1 sl sl1 g0 g1 (upI O1 cs1 (nI 13)) (upI L1 cs1 l) (upI R1 cs1 r) (upI H1 cs1 (nI hd1)) [] :=
  h.op (by decide) (by show 1 ≤ 248; omega) id (fun z => ⟨t, [], rfl, go1 z⟩)
theorem StW.putf (h : StW fi fdn fty X A A1 Q Q1 pd pd1 m sn lo cs cs1 as0 as1 hd hd1 sl sl1 g0 g1 O1 L1 R1 H1 [t, c]) (hc : c < 60) (hn : n < fdn c) (ht : TL fi t (fty c n)) : StW fi fdn fty X A (upS A1 (cs1 + 1) (rcA as1, hd1, sl1, [])) Q Q1 pd pd1 m sn lo cs (cs1 + 1) as0 as1 hd hd1 sl sl1 g0 g1 (upI O1 cs1 (nI 18)) (upI L1 cs1 (nI n)) (upI R1 cs1 r) (upI H1 cs1 (nI hd1)) [] :=
  h.op (by decide) (by show 2 ≤ 248; omega) id (fun z => ⟨t, c, n, [], rfl, rfl, hc, hn, ht, go1 z⟩)
theorem StW.pute (h : StW fi fdn fty X A A1 Q Q1 pd pd1 m sn lo cs cs1 as0 as1 hd hd1 sl sl1 g0 g1 O1 L1 R1 H1 [t, i, c + 64]) (hc : c < 64) (ht : TL fi t c) : StW fi fdn fty X A (upS A1 (cs1 + 1) (rcA as1, hd1, sl1, [])) Q Q1 pd pd1 m sn lo cs (cs1 + 1) as0 as1 hd hd1 sl sl1 g0 g1 (upI O1 cs1 (nI 20)) (upI L1 cs1 l) (upI R1 cs1 r) (upI H1 cs1 (nI hd1)) [] :=
  h.op (by decide) (by show 3 ≤ 248; omega) id (fun z => ⟨t, i, c + 64, [], rfl, by omega, by omega, by rw [show c + 64 - 64 = c by omega]; exact ht, go1 z⟩)
theorem StW.throw (h : StW fi fdn fty X A A1 Q Q1 pd pd1 m sn lo cs cs1 as0 as1 hd hd1 sl sl1 g0 g1 O1 L1 R1 H1 [t]) (ht : RfT t) : StW fi fdn fty X A (upS A1 (cs1 + 1) (rcA (-1), hd1, sl1, [])) Q Q1 pd pd1 m sn lo cs (cs1 + 1) as0 (-1) hd hd1 sl sl1 g0 g1 (upI O1 cs1 (nI 25)) (upI L1 cs1 l) (upI R1 cs1 r) (upI H1 cs1 (nI hd1)) [] :=
  h.op (by decide) (by show 1 ≤ 248; omega) (fun z => absurd rfl z) (fun _ => ⟨t, [], rfl, ht⟩)
theorem StW.ret (h : StW fi fdn fty X A A1 Q Q1 pd pd1 m sn lo cs cs1 as0 as1 hd hd1 sl sl1 g0 g1 O1 L1 R1 H1 []) (ht : X.2.2.2.2.1 m = 63) : StW fi fdn fty X A (upS A1 (cs1 + 1) (rcA (-1), hd1, sl1, [])) Q Q1 pd pd1 m sn lo cs (cs1 + 1) as0 (-1) hd hd1 sl sl1 g0 g1 (upI O1 cs1 (nI 26)) (upI L1 cs1 l) (upI R1 cs1 r) (upI H1 cs1 (nI hd1)) [] :=
  h.op (by decide) (Nat.zero_le _) (fun z => absurd rfl z) (fun _ => ht)
theorem StW.retv (h : StW fi fdn fty X A A1 Q Q1 pd pd1 m sn lo cs cs1 as0 as1 hd hd1 sl sl1 g0 g1 O1 L1 R1 H1 [t]) (ht : TL fi t (X.2.2.2.2.1 m)) (hn : ¬ X.2.2.2.2.1 m = 63) : StW fi fdn fty X A (upS A1 (cs1 + 1) (rcA (-1), hd1, sl1, [])) Q Q1 pd pd1 m sn lo cs (cs1 + 1) as0 (-1) hd hd1 sl sl1 g0 g1 (upI O1 cs1 (nI 27)) (upI L1 cs1 l) (upI R1 cs1 r) (upI H1 cs1 (nI hd1)) [] :=
  h.op (by decide) (by show 1 ≤ 248; omega) (fun z => absurd rfl z) (fun _ => ⟨t, [], rfl, ht, hn⟩)
theorem WfA.more (h : WfA (1, hd1, sl1, os)) (ht : t < 1000) : WfA (1, hd1 + 1, upM sl1 hd1 t, os2) := fun s hs h9 => by
  have hs9 : s < hd1 + 1 := hs
  have h8 : 1000 ≤ upM sl1 hd1 t s := h9
  by_cases z : s = hd1
  · rw [z, upM_eq] at h8; omega
  · rw [upM_ne z] at h8
    obtain ⟨w1, w2⟩ := h s (show s < hd1 by omega) h8
    have w3 : s + 1 < hd1 := w1
    refine ⟨show s + 1 < hd1 + 1 by omega, ?_⟩
    show upM sl1 hd1 t (s + 1) = 999
    rw [upM_ne (by omega)]; exact w2
/-- a variable comes into scope, its slot is cleared -/
theorem StW.clear (h : StW fi fdn fty X A A1 Q Q1 pd pd1 m sn lo cs cs1 as0 as1 hd hd1 sl sl1 g0 g1 O1 L1 R1 H1 []) (hs : sn ≤ sn1) (h1 : hd1 + 1 ≤ sn1) (ht : t = 60 ∨ t = 61 ∨ RfT t) : StW fi fdn fty X A (upS A1 (cs1 + 1) (rcA as1, hd1 + 1, upM sl1 hd1 t, [])) Q Q1 pd pd1 m sn1 lo cs (cs1 + 1) as0 as1 hd (hd1 + 1) sl (upM sl1 hd1 t) g0 g1 (upI O1 cs1 (nI 4)) (upI L1 cs1 (nI hd1)) (upI R1 cs1 r) (upI H1 cs1 (nI (hd1 + 1))) [] := by
  have h7 := h.2.2.2.2.2.2.1
  refine h.ins hs (by decide) (Nat.zero_le _) ⟨by omega, h1⟩ (fun z => by omega) (h.1.2.2.1.more (by unfold RfT at ht; omega)) h1 (fun z => ⟨hd1, t, rfl, rfl, by omega, ht, ?_⟩) id ⟨by omega, fun s hs9 => ?_⟩
  · rw [rcA_1 z]; exact Go.rfl rfl
  · rw [upM_ne (by omega)]; exact h7.2 s hs9
/-- back to the beginning of a loop, where FUEL stands -/
theorem StW.back (h : StW fi fdn fty X A A1 Q Q1 pd pd1 m sn lo cs cs1 as0 as1 hd hd1 sl sl1 g0 g1 O1 L1 R1 H1 []) (hx : lo ≤ x ∧ x < cs1) (hO : O1 x = 0) (hg : ¬ as1 = -1 → Go fi (1, hd1, sl1, []) (A1 x)) : StW fi fdn fty X A (upS A1 (cs1 + 1) (rcA (-1), hd1, sl1, [])) Q Q1 pd pd1 m sn lo cs (cs1 + 1) as0 (-1) hd hd1 sl sl1 g0 g1 (upI O1 cs1 (nI 6)) (upI L1 cs1 (nI x)) (upI R1 cs1 r) (upI H1 cs1 (nI hd1)) [] :=
  h.op (by decide) (Nat.zero_le _) (fun z => absurd rfl z) (fun z => ⟨x, rfl, by omega, by rw [upS_ne (by omega)]; exact hg z, Or.inr ⟨hx.1, by omega, by rw [upI_ne (by omega)]; exact hO⟩⟩)
end ZN
