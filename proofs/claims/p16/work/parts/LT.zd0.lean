/-! statements: jumps out of loops, regions -/
/-- jumps that are still to be aimed at the end (or the next round) of a loop that holds hd slots -/
def LpJ (O : Nat → Int32) (A : Nat → AS) (xs : List Nat) (lo cs hd : Nat) (sl : Nat → Nat) (bs : Int32) : Prop := ∀ z : Nat, z ∈ xs → lo ≤ z ∧ z < cs ∧ (O z = nI 6 ∨ O z = nI 28) ∧ ((A z).1 = 1 → ¬ bs = -1 ∧ hd ≤ (A z).2.1 ∧ (∀ s : Nat, s < hd → (A z).2.2.1 s = sl s) ∧ (A z).2.2.2 = [])
section ZD
variable {fi : Nat → Nat → Prop} {fdn : Nat → Nat} {fty : Nat → Nat → Nat} {X : PXm} {O L R H O1 L1 R1 H1 : Nat → Int32} {A A1 : Nat → AS} {pd pd1 : Nat → Prop} {m sn lo cs cs1 hd hd1 k x c0 g0 g1 : Nat} {as as1 bs bs1 : Int32} {sl sl1 : Nat → Nat} {os : List Nat} {xs : List Nat} {Q : RX}
theorem LpJ.nil : LpJ O A [] lo cs hd sl bs := fun z hz => absurd hz (List.not_mem_nil)
theorem LpJ.cons (h : LpJ O A xs lo cs hd sl bs) (hz : lo ≤ x ∧ x < cs1 ∧ (O1 x = nI 6 ∨ O1 x = nI 28) ∧ ((A1 x).1 = 1 → ¬ bs1 = -1 ∧ hd ≤ (A1 x).2.1 ∧ (∀ s : Nat, s < hd → (A1 x).2.2.1 s = sl s) ∧ (A1 x).2.2.2 = [])) (hs : ∀ z : Nat, z < cs → O1 z = O z ∧ A1 z = A z) (hc : cs ≤ cs1) (hb : ¬ bs = -1 → ¬ bs1 = -1) : LpJ O1 A1 (x :: xs) lo cs1 hd sl bs1 := fun z h9 => by
  rcases List.mem_cons.mp h9 with e | e
  · subst e; exact hz
  · obtain ⟨a1, a2, a3, a4⟩ := h z e
    obtain ⟨b1, b2⟩ := hs z a2
    rw [b1, b2]
    exact ⟨a1, by omega, a3, fun q => ⟨hb (a4 q).1, (a4 q).2⟩⟩
theorem LpJ.same (h : LpJ O A xs lo cs hd sl bs) (hs : ∀ z : Nat, z < cs → O1 z = O z ∧ A1 z = A z) (hc : cs ≤ cs1) : LpJ O1 A1 xs lo cs1 hd sl bs := fun z h9 => by
  obtain ⟨a1, a2, a3, a4⟩ := h z h9
  obtain ⟨b1, b2⟩ := hs z a2
  rw [b1, b2]
  exact ⟨a1, by omega, a3, a4⟩
/-- the loop's jumps come to the place -/
theorem EmS.lands (h : EmS fi fdn fty X O L R H A pd m sn lo cs as hd1 sl1 os) (hp : ∀ z : Nat, z ∈ xs → pd z) (hp1 : ∀ z : Nat, pd z → ¬ z ∈ xs → pd1 z) (hj : LpJ O A xs lo cs hd sl bs) (hb : ¬ bs = -1 → ¬ as1 = -1) (hw : WfA (1, hd, sl, [])) (hs : hd ≤ sn) (g : ¬ as = -1 → Go fi (1, hd1, sl1, os) (rcA as1, hd, sl, [])) :
    EmS fi fdn fty X O (aim L xs cs) R H (upS A cs (rcA as1, hd, sl, [])) pd1 m sn lo cs as1 hd sl [] := by
  refine h.land g hp hp1 hw hs (fun z hz z1 z2 z3 => ?_)
  obtain ⟨a1, a2, a3, a4⟩ := hj z hz
  obtain ⟨b1, b2, b3, b4⟩ := a4 z3
  have go : Go fi (A z) (rcA as1, hd, sl, []) := ⟨rcA_1 (hb b1), b2, fun s hs9 => (b3 s hs9).symm, by rw [b4]; trivial⟩
  rcases a3 with e | e
  · refine ⟨6, by omega, e, cs, rfl, Nat.le_refl _, ?_, Or.inl (by omega)⟩
    rw [upS_eq]; exact go
  · refine ⟨28, by omega, e, cs, b4, rfl, Nat.le_refl _, by omega, ?_⟩
    rw [upS_eq]
    exact ⟨go.1, go.2.1, go.2.2.1, trivial⟩
/-- pieces of code: jumps are aimed at what comes next -/
theorem PcR.lands (h : PcR A Q O L pd c0 cs g0 g1 hd) (hp1 : ∀ z : Nat, pd1 z → pd z) (hx : ∀ z : Nat, pd z → ¬ pd1 z → z ∈ xs) (hO : ∀ z : Nat, z ∈ xs → ¬ O z = nI 30) (hc : cs < 10000) (ha : as1 = -1 ∨ True) : PcR (upS A cs (rcA as1, hd, sl, [])) Q O (aim L xs cs) pd1 c0 cs g0 g1 hd := by
  obtain ⟨a1, a2, a3, a4⟩ := h
  refine ⟨a1, a2, fun pc x p1 p2 p3 p4 p5 p6 p7 k hk k2 k3 => ?_, fun pc s h e p1 p2 p3 p4 p5 p6 p7 p8 => ?_⟩
  · rw [upS_ne (by omega)] at p3
    by_cases z : pc ∈ xs
    · rw [aim_in z] at p7
      have e : cs = x := (nI_eq (by omega) (by omega)).mp p7
      subst e
      obtain ⟨y1, y2, y3, y4, y5⟩ := a1 k hk.1 hk.2.1
      rw [upS_eq]
      exact ⟨y4, (y5 hk.2.2).2⟩
    · rw [aim_no z] at p7
      have hn : ¬ pd pc := fun q => z (hx pc q p5)
      have w := a3 pc x p1 p2 p3 p4 hn p6 p7 k hk k2 k3
      by_cases e : x = cs
      · subst e
        obtain ⟨y1, y2, y3, y4, y5⟩ := a1 k hk.1 hk.2.1
        rw [upS_eq]
        exact ⟨y4, w.2⟩
      · rw [upS_ne e]; exact w
  · rw [upS_ne (by omega)] at p3 p8
    rw [aim_no (fun z => hO pc z p4)] at p6
    exact a4 pc s h e p1 p2 p3 p4 p5 p6 p7 p8
/-- what an E has written has no regions -/
theorem PcR.of (h : ∀ x : Nat, c0 ≤ x → x < cs → ∃ k : Nat, k < 26 ∧ O x = nI k) : PcR A Q O L pd c0 cs g0 g0 hd := ⟨fun k _ _ => by omega, fun j k h1 _ => by obtain ⟨a, b, _⟩ := h1; omega, fun pc x p1 p2 p3 p4 => by
    obtain ⟨k, k1, k2⟩ := h pc p1 p2
    have := (nI_eq (by omega) (by omega)).mp (k2.symm.trans p4)
    omega, fun pc s h9 e p1 p2 p3 p4 => by
    obtain ⟨k, k1, k2⟩ := h pc p1 p2
    have := (nI_eq (by omega) (by omega)).mp (k2.symm.trans p4)
    omega⟩
/-- a CATCH's region lies over a piece -/
theorem PcR.catch {h9 c9 : Nat} (b : PcR A Q O L pd c0 h9 g0 g1 hd) (hq : Q.1 g1 = c0 ∧ Q.2.1 g1 ≤ h9 ∧ Q.1 g1 ≤ Q.2.1 g1 ∧ Q.2.2.1 g1 = h9 ∧ hd ≤ Q.2.2.2.1 g1) (hc : Q.2.2.2.2.1 g1 = nI c9) (hc9 : c9 < 60) (h1 : c0 < h9) (h2 : h9 < cs) (h3 : g0 ≤ g1) (l : PcR A Q O L pd h9 cs (g1 + 1) (g1 + 1) hd) : PcR A Q O L pd c0 cs g0 (g1 + 1) hd := by
  have nl : ¬ Q.2.2.2.2.1 g1 = -1 := by rw [hc]; exact nI_m1 (by omega)
  obtain ⟨a1, a2, a3, a4⟩ := b
  obtain ⟨b1, b2, b3, b4⟩ := l
  have sp : ∀ k : Nat, lsR Q g0 (g1 + 1) k → lsR Q g0 g1 k := fun k hk => by
    by_cases z : k = g1
    · subst z; exact absurd hk.2.2 nl
    · exact ⟨hk.1, by have := hk.2.1; omega, hk.2.2⟩
  refine ⟨fun k k1 k2 => ?_, fun j k hj hk hi => a2 j k (sp j hj) (sp k hk) hi, fun pc x p1 p2 p3 p4 p5 p6 p7 k hk k2 k3 => ?_, fun pc s h e p1 p2 p3 p4 p5 p6 p7 p8 => ?_⟩
  · by_cases z : k = g1
    · subst z
      exact ⟨by omega, by omega, by omega, hq.2.2.2.2, fun w => absurd w nl⟩
    · obtain ⟨x1, x2, x3, x4, x5⟩ := a1 k k1 (by omega)
      exact ⟨x1, x2, by omega, x4, fun w => ⟨(x5 w).1, by have := (x5 w).2; omega⟩⟩
  · have y1 := a1 k (sp k hk).1 (sp k hk).2.1
    by_cases z : pc < h9
    · exact a3 pc x p1 z p3 p4 p5 p6 p7 k (sp k hk) k2 k3
    · unfold inR at k2; omega
  · by_cases z : pc < h9
    · obtain ⟨x1, x2, x3, x4⟩ := a4 pc s h e p1 z p3 p4 p5 p6 p7 p8
      exact ⟨x1, x2, fun j hj hj2 => x3 j (sp j hj) hj2, fun k hk hi => x4 k (sp k hk) hi⟩
    · obtain ⟨x1, x2, x3, x4⟩ := b4 pc s h e (by omega) p2 p3 p4 p5 p6 p7 p8
      refine ⟨by omega, x2, fun j hj hj2 => ?_, fun k hk hi => ?_⟩
      · have y1 := a1 j (sp j hj).1 (sp j hj).2.1
        omega
      · have y1 := a1 k (sp k hk).1 (sp k hk).2.1
        unfold inR at hi
        omega
end ZD
