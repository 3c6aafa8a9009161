/-! statements: jumps come to their places -/
section ZO
variable {fi : Nat → Nat → Prop} {fdn : Nat → Nat} {fty : Nat → Nat → Nat} {X : PXm} {A A1 : Nat → AS} {Q Q1 : RX} {pd pd1 pd2 : Nat → Prop} {m sn sn1 lo cs cs1 hd hd1 g0 g1 j u f9 : Nat} {as as0 as1 as3 wt bs be : Int32} {sl sl1 sl9 : Nat → Nat} {O L R H O1 L1 R1 H1 : Nat → Int32} {os : List Nat} {xs : List Nat}
theorem StW.landed (h : StW fi fdn fty X A A1 Q Q1 pd pd1 m sn lo cs cs1 as0 as1 hd hd1 sl sl1 g0 g1 O1 L1 R1 H1 os) (e : EmS fi fdn fty X O1 (aim L1 xs cs1) R1 H1 (upS A1 cs1 (rcA as3, hd, sl, [])) pd2 m sn lo cs1 as3 hd sl []) (hp1 : ∀ z : Nat, pd2 z → pd1 z) (hx : ∀ z : Nat, pd1 z → ¬ pd2 z → z ∈ xs) (hxs : ∀ z : Nat, z ∈ xs → cs ≤ z) (hO : ∀ z : Nat, z ∈ xs → ¬ O1 z = nI 30) (hc : cs < cs1 ∧ cs1 < 10000) (has : ¬ as3 = -1 → ¬ as0 = -1) : StW fi fdn fty X A (upS A1 cs1 (rcA as3, hd, sl, [])) Q Q1 pd pd2 m sn lo cs cs1 as0 as3 hd hd sl sl g0 g1 O1 (aim L1 xs cs1) R1 H1 [] := by
  obtain ⟨h1, h2, h3, h4, h5, h6, h7, h8, h9⟩ := h
  refine ⟨e, h2.lands hp1 hx hO hc.2, fun x hx9 => (upS_ne (by omega)).trans (h3 x hx9), h4, fun z hz => ⟨fun w => (h5 z hz).mp (hp1 z w), fun w => Classical.byContradiction fun y => ?_⟩, has, ⟨Nat.le_refl _, fun _ _ => rfl⟩, h8, h9⟩
  have := hxs z (hx z ((h5 z hz).mpr w) y)
  omega
/-- the jump over what is done if it is true; one comes to the place from there, or by that -/
theorem EmS.ifl (h : EmS fi fdn fty X O L R H A (fun z => pd z ∨ z = j) m sn lo cs as1 hd1 sl1 []) (hj : lo ≤ j ∧ j + 1 ≤ cs) (hO : O j = nI 7) (hA : A j = (rcA as, hd, sl, [u])) (hA1 : A (j + 1) = (rcA wt, hd, sl, [])) (hb : BoT u) (h1 : ¬ as = -1 → maT u → ¬ wt = -1) (h2 : ¬ as = -1 → maF u → ¬ as3 = -1) (g : ¬ as1 = -1 → Go fi (1, hd1, sl1, []) (rcA as3, hd, sl, [])) (hw : WfA (1, hd, sl, [])) (hs : hd ≤ sn) :
    EmS fi fdn fty X O (aim L [j] cs) R H (upS A cs (rcA as3, hd, sl, [])) pd m sn lo cs as3 hd sl [] := by
  refine h.land g (fun z hz => Or.inr (List.mem_singleton.mp hz)) (fun z hz hn => hz.resolve_right (fun q => hn (List.mem_singleton.mpr q))) hw hs (fun z hz z1 z2 z3 => ?_)
  have ez := (List.mem_singleton.mp hz).symm
  subst ez
  rw [hA] at z3 ⊢
  have ha : ¬ as = -1 := rcA_of z3
  by_cases e : j + 1 = cs
  · have h5 : rcA wt = rcA as1 := by
      have y := h.1.2
      rw [← e, hA1] at y
      exact congrArg (fun z => z.1) y
    have h6 : maT u → ¬ as3 = -1 := fun q => rcA_of (g (rcA_of (h5.symm.trans (rcA_1 (h1 ha q))))).1
    rw [show upS A cs (rcA as3, hd, sl, []) (j + 1) = (rcA as3, hd, sl, []) by rw [e]; exact upS_eq, show rcA as = 1 from rcA_1 ha]
    refine ⟨7, by omega, hO, cs, u, [], rfl, Nat.le_refl _, by omega, rfl, hb, fun q => go1 (h6 q), fun q => ?_⟩
    rw [upS_eq]
    exact go1 (h2 ha q)
  rw [upS_ne (by omega), hA1, show rcA as = 1 from rcA_1 ha]
  refine ⟨7, by omega, hO, cs, u, [], rfl, Nat.le_refl _, by omega, rfl, hb, fun q => go1 (h1 ha q), fun q => ?_⟩
  rw [upS_eq]
  exact go1 (h2 ha q)
/-- ways into a LAST: they begin at cs, what was held is hd -/
def EntJ (O R : Nat → Int32) (A : Nat → AS) (xs : List Nat) (lo cs hd : Nat) (sl : Nat → Nat) (bs : Int32) : Prop := ∀ z : Nat, z ∈ xs → lo ≤ z ∧ z < cs ∧ O z = nI 29 ∧ R z = nI hd ∧ ((A z).1 = 1 → ¬ bs = -1 ∧ (A z).2.1 = hd ∧ (∀ s : Nat, s < hd → (A z).2.2.1 s = sl s) ∧ (A z).2.2.2 = [])
theorem EmS.more (h : EmS fi fdn fty X O L R H A pd m sn lo cs as hd sl os) (hs : sn ≤ sn1) : EmS fi fdn fty X O L R H A pd m sn1 lo cs as hd sl os := by
  obtain ⟨⟨h0, h1⟩, h2, h3, h4, h5⟩ := h
  refine ⟨⟨fun pc a1 a2 a3 a4 => ?_, h1⟩, h2, h3, by omega, fun pc p1 p2 p3 => ?_⟩
  · obtain ⟨k, b1, b2, b3⟩ := h0 pc a1 a2 a3 a4
    exact ⟨k, b1, b2, IRk.up (fun _ z => z) (fun _ _ _ z => z) hs (Nat.le_refl _) (fun _ _ z => z) (fun _ _ => rfl) b3⟩
  · obtain ⟨c1, c2, c3, q, c4, c5, c6, c7⟩ := h5 pc p1 p2 p3
    exact ⟨c1, by omega, c3, q, c4, c5, by omega, c7⟩
theorem EmS.ent (h : EmS fi fdn fty X O L R H A pd1 m sn lo cs (-1) hd1 sl1 os) (hs : hd + 2 ≤ sn) (hp : ∀ z : Nat, z ∈ xs → pd1 z) (hp1 : ∀ z : Nat, pd1 z → ¬ z ∈ xs → pd2 z) (hj : EntJ O R A xs lo cs hd sl bs) (hb : ¬ bs = -1 → ¬ be = -1 ∧ f9 = 1) (hs1 : ∀ i : Nat, i < hd → sl9 i = sl i) (hs2 : sl9 hd = 1000 + 2 * cs + f9) (hs3 : sl9 (hd + 1) = 999) (hw : WfA (1, hd + 2, sl9, [])) :
    EmS fi fdn fty X O (aim L xs cs) R H (upS A cs (rcA be, hd + 2, sl9, [])) pd2 m sn lo cs be (hd + 2) sl9 [] := by
  refine h.land (fun z => absurd rfl z) hp hp1 hw hs (fun z hz z1 z2 z3 => ?_)
  obtain ⟨a1, a2, a3, a4, a5⟩ := hj z hz
  obtain ⟨b1, b2, b3, b4⟩ := a5 z3
  obtain ⟨b5, b6⟩ := hb b1
  subst b6
  refine ⟨29, by omega, a3, cs, hd, rfl, a4, Nat.le_refl _, by omega, hs, b2.symm, ?_⟩
  rw [upS_eq, b4]
  refine ⟨rcA_1 b5, Nat.le_refl _, fun s hs9 => ?_, trivial⟩
  have hs8 : s < hd + 2 := hs9
  show sl9 s = upM (upM (A z).2.2.1 hd (1001 + 2 * cs)) (hd + 1) 999 s
  by_cases w : s = hd + 1
  · rw [w, upM_eq, hs3]
  · rw [upM_ne w]
    by_cases y : s = hd
    · rw [y, upM_eq, hs2]; omega
    · rw [upM_ne y, b3 s (by omega)]; exact hs1 s (by omega)
theorem EntJ.nil : EntJ O R A [] lo cs hd sl bs := fun z hz => absurd hz (List.not_mem_nil)
theorem EntJ.cons {x : Nat} (h : EntJ O R A xs lo cs hd sl bs) (hz : lo ≤ x ∧ x < cs1 ∧ O1 x = nI 29 ∧ R1 x = nI hd ∧ ((A1 x).1 = 1 → ¬ be = -1 ∧ (A1 x).2.1 = hd ∧ (∀ s : Nat, s < hd → (A1 x).2.2.1 s = sl s) ∧ (A1 x).2.2.2 = [])) (hs : ∀ z : Nat, z < cs → O1 z = O z ∧ R1 z = R z ∧ A1 z = A z) (hc : cs ≤ cs1) (hb : ¬ bs = -1 → ¬ be = -1) : EntJ O1 R1 A1 (x :: xs) lo cs1 hd sl be := fun z h9 => by
  rcases List.mem_cons.mp h9 with e | e
  · subst e; exact hz
  · obtain ⟨a1, a2, a3, a4, a5⟩ := h z e
    obtain ⟨b1, b2, b3⟩ := hs z a2
    rw [b1, b2, b3]
    exact ⟨a1, by omega, a3, a4, fun q => ⟨hb (a5 q).1, (a5 q).2⟩⟩
end ZO
