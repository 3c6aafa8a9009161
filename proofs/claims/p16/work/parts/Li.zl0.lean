/-! statements: pieces of code, and all that is known of them -/
/-- as0: assigned at its beginning; hd slots are held there, of the types sl; regions g0 to g1 -/
def PcS (A : Nat → AS) (Q : RX) (O L : Nat → Int32) (pd : Nat → Prop) (as0 : Int32) (sn c0 c1 g0 g1 hd : Nat) (sl : Nat → Nat) : Prop :=
  PcR A Q O L pd c0 c1 g0 g1 hd ∧
  (∀ pc : Nat, c0 ≤ pc → pc < c1 → (A pc).1 = 1 → ¬ as0 = -1 ∧ hd ≤ (A pc).2.1 ∧ (∀ s : Nat, s < hd → (A pc).2.2.1 s = sl s) ∧ ∀ k : Nat, g0 ≤ k → k < g1 → inR Q k pc → HdO A Q sn k pc) ∧
  (∀ pc x : Nat, c0 ≤ pc → pc < c1 → (A pc).1 = 1 → O pc = nI 28 → ¬ pd pc → x < 10000 → L pc = nI x → pc < x ∧ x ≤ c1)
/-- regions below g are the same -/
def RqS (Q Q1 : RX) (g : Nat) : Prop := ∀ k : Nat, k < g → Q1.1 k = Q.1 k ∧ Q1.2.1 k = Q.2.1 k ∧ Q1.2.2.1 k = Q.2.2.1 k ∧ Q1.2.2.2.1 k = Q.2.2.2.1 k ∧ Q1.2.2.2.2.1 k = Q.2.2.2.2.1 k ∧ Q1.2.2.2.2.2 k = Q.2.2.2.2.2 k
/-- what stood below c stands -/
def SmS (A A1 : Nat → AS) (O O1 L L1 : Nat → Int32) (pd pd1 : Nat → Prop) (c : Nat) : Prop := ∀ x : Nat, x < c → A1 x = A x ∧ O1 x = O x ∧ L1 x = L x ∧ (pd1 x ↔ pd x)
section ZL
variable {fi : Nat → Nat → Prop} {fdn : Nat → Nat} {fty : Nat → Nat → Nat} {X : PXm} {A A1 A2 : Nat → AS} {Q Q1 Q2 : RX} {O L R H O1 L1 R1 H1 O2 L2 : Nat → Int32} {pd pd1 pd2 : Nat → Prop} {as0 as1 as as3 : Int32} {m sn sn1 lo c0 c1 c2 cs cs1 g0 g1 g2 hd hd1 j k pc c g h9 e9 : Nat} {sl sl1 : Nat → Nat} {os os1 : List Nat} {xs : List Nat} {v : Int32}
theorem RqS.rfl : RqS Q Q g := fun _ _ => ⟨Eq.refl _, Eq.refl _, Eq.refl _, Eq.refl _, Eq.refl _, Eq.refl _⟩
theorem RqS.trans (h : RqS Q Q1 g) (q : RqS Q1 Q2 g1) (hg : g ≤ g1) : RqS Q Q2 g := fun k hk => by
  obtain ⟨a1, a2, a3, a4, a5, a6⟩ := h k hk
  obtain ⟨b1, b2, b3, b4, b5, b6⟩ := q k (by omega)
  exact ⟨b1.trans a1, b2.trans a2, b3.trans a3, b4.trans a4, b5.trans a5, b6.trans a6⟩
theorem SmS.rfl : SmS A A O O L L pd pd c := fun _ _ => ⟨Eq.refl _, Eq.refl _, Eq.refl _, Iff.rfl⟩
theorem HdO.up (h : HdO A Q sn j pc) (hs : sn ≤ sn1) : HdO A Q sn1 j pc := by
  obtain ⟨h1, h2, h3, h4, h5, h6⟩ := h
  refine ⟨h1, h2, h3, h4, h5, ?_⟩
  rcases h6 with ⟨c, a1, a2, a3, a4, a5⟩ | ⟨a1, a2, a3, a4⟩
  · exact Or.inl ⟨c, a1, a2, a3, by omega, a5⟩
  · exact Or.inr ⟨a1, a2, by omega, a4⟩
theorem HdO.same (h : HdO A Q sn j pc) (e1 : A1 pc = A pc) (e2 : A1 (Q.2.2.1 j) = A (Q.2.2.1 j)) (hq : RqS Q Q1 (j + 1)) : HdO A1 Q1 sn j pc := by
  obtain ⟨q1, q2, q3, q4, q5, q6⟩ := hq j (Nat.lt_succ_self _)
  unfold HdO at h ⊢
  rw [q3, q4, q5, e1, e2]
  exact h
theorem lsR.rq (hq : RqS Q Q1 g1) (h : lsR Q1 g0 g1 k) : lsR Q g0 g1 k := ⟨h.1, h.2.1, (hq k h.2.1).2.2.2.2.1.symm.trans h.2.2⟩
theorem inR.rq (hq : RqS Q Q1 g1) (hk : k < g1) : inR Q1 k pc ↔ inR Q k pc := by
  obtain ⟨q1, q2, _⟩ := hq k hk
  unfold inR
  rw [q1, q2]
/-- a piece later on -/
theorem PcS.later (h : PcS A Q O L pd as0 sn c0 c1 g0 g1 hd sl) (hs : SmS A A1 O O1 L L1 pd pd1 c1) (ha : A1 c1 = A c1) (hq : RqS Q Q1 g1) (hn : sn ≤ sn1) : PcS A1 Q1 O1 L1 pd1 as0 sn1 c0 c1 g0 g1 hd sl := by
  obtain ⟨⟨r1, r2, r3, r4⟩, h2, h3⟩ := h
  refine ⟨⟨fun k k1 k2 => ?_, fun j k hj hk hi => ?_, fun pc x p1 p2 p3 p4 p5 p6 p7 k hk k2 k3 => ?_, fun pc s h e p1 p2 p3 p4 p5 p6 p7 p8 => ?_⟩, fun pc p1 p2 p3 => ?_, fun pc x p1 p2 p3 p4 p5 p6 p7 => ?_⟩
  · obtain ⟨q1, q2, q3, q4, q5, q6⟩ := hq k k2
    rw [q1, q2, q3, q4, q5, q6]
    exact r1 k k1 k2
  · have hj0 := lsR.rq hq hj
    have hk0 := lsR.rq hq hk
    obtain ⟨q1, q2, q3, q4, q5, q6⟩ := hq j hj.2.1
    obtain ⟨t1, t2, t3, t4, t5, t6⟩ := hq k hk.2.1
    rw [q3] at hi
    rcases r2 j k hj0 hk0 ((inR.rq hq hk.2.1).mp hi) with w | w
    · exact Or.inl (fun pc hp => (inR.rq hq hk.2.1).mpr (w pc ((inR.rq hq hj.2.1).mp hp)))
    · rw [q4, q6, t4, t6]; exact Or.inr w
  · obtain ⟨s1, s2, s3, s4⟩ := hs pc p2
    rw [s1] at p3
    rw [s2] at p4
    rw [s3] at p7
    have p5' : ¬ pd pc := fun z => p5 (s4.mpr z)
    have hx := h3 pc x p1 p2 p3 p4 p5' p6 p7
    have ex : A1 x = A x := by
      by_cases z : x = c1
      · rw [z]; exact ha
      · exact (hs x (by omega)).1
    have w := r3 pc x p1 p2 p3 p4 p5' p6 p7 k (lsR.rq hq hk) ((inR.rq hq hk.2.1).mp k2) (fun z => k3 ((inR.rq hq hk.2.1).mpr z))
    obtain ⟨t1, t2, t3, t4, t5, t6⟩ := hq k hk.2.1
    rw [ex, t4, t6]; exact w
  · obtain ⟨s1, s2, s3, s4⟩ := hs pc p2
    rw [s1] at p3 p8
    rw [s2] at p4
    rw [s3] at p6
    obtain ⟨w1, w2, w3, w4⟩ := r4 pc s h e p1 p2 p3 p4 p5 p6 p7 p8
    refine ⟨w1, w2, fun j hj hj2 => ?_, fun k hk hi => ?_⟩
    · obtain ⟨q1, q2, q3, q4, q5, q6⟩ := hq j hj.2.1
      rw [q4, q6]
      exact w3 j (lsR.rq hq hj) (q3.symm.trans hj2)
    · exact (inR.rq hq hk.2.1).mpr (w4 k (lsR.rq hq hk) ((inR.rq hq hk.2.1).mp hi))
  · rw [(hs pc p2).1] at p3 ⊢
    obtain ⟨a1, a2, a3, a4⟩ := h2 pc p1 p2 p3
    refine ⟨a1, a2, a3, fun k k1 k2 k3 => ?_⟩
    have y := r1 k k1 k2
    refine ((a4 k k1 k2 ((inR.rq hq k2).mp k3)).up hn).same (hs pc p2).1 ((hs _ y.2.2.1).1) (fun i hi => hq i (by omega))
  · obtain ⟨s1, s2, s3, s4⟩ := hs pc p2
    rw [s1] at p3
    rw [s2] at p4
    rw [s3] at p7
    exact h3 pc x p1 p2 p3 p4 (fun z => p5 (s4.mpr z)) p6 p7
/-- one piece behind the other -/
theorem PcS.join (h : PcS A Q O L pd as0 sn c0 c1 g0 g1 hd sl) (q : PcS A Q O L pd as1 sn c1 c2 g1 g2 hd1 sl1) (hh : hd ≤ hd1) (hsl : ∀ s : Nat, s < hd → sl1 s = sl s) (has : ¬ as1 = -1 → ¬ as0 = -1) (i1 : c0 ≤ c1) (i2 : c1 ≤ c2) (i3 : g0 ≤ g1) (i4 : g1 ≤ g2) : PcS A Q O L pd as0 sn c0 c2 g0 g2 hd sl := by
  refine ⟨h.1.join (q.1.less hh) i1 i2 i3 i4, fun pc p1 p2 p3 => ?_, fun pc x p1 p2 p3 p4 p5 p6 p7 => ?_⟩
  · by_cases z : pc < c1
    · obtain ⟨a1, a2, a3, a4⟩ := h.2.1 pc p1 z p3
      refine ⟨a1, a2, a3, fun k k1 k2 k3 => ?_⟩
      by_cases w : k < g1
      · exact a4 k k1 w k3
      · have y := q.1.1 k (by omega) k2
        unfold inR at k3
        omega
    · obtain ⟨a1, a2, a3, a4⟩ := q.2.1 pc (by omega) p2 p3
      refine ⟨has a1, by omega, fun s hs => (a3 s (by omega)).trans (hsl s hs), fun k k1 k2 k3 => ?_⟩
      by_cases w : k < g1
      · have y := h.1.1 k k1 w
        unfold inR at k3
        omega
      · exact a4 k (by omega) k2 k3
  · by_cases z : pc < c1
    · have w := h.2.2 pc x p1 z p3 p4 p5 p6 p7
      omega
    · exact q.2.2 pc x (by omega) p2 p3 p4 p5 p6 p7
theorem PcS.nil : PcS A Q O L pd as0 sn c0 c0 g0 g0 hd sl := ⟨PcR.nil, fun pc p1 p2 => by omega, fun pc x p1 p2 => by omega⟩
/-- an E's code -/
theorem PcS.ev (h : EvQ fi fdn fty X O L R H O1 L1 R1 H1 A A1 pd m sn lo cs cs1 as0 as1 hd sl os1) : PcS A1 Q O1 L1 pd as0 sn cs cs1 g0 g0 hd sl := by
  obtain ⟨h1, h2, h3, h4, h5, h6⟩ := h
  refine ⟨PcR.of (fun x x1 x2 => (h3 x x1 x2).1), fun pc p1 p2 p3 => ?_, fun pc x p1 p2 p3 p4 => ?_⟩
  · obtain ⟨b1, b2, b3⟩ := (h3 pc p1 p2).2 p3
    exact ⟨b1, by omega, fun s _ => by rw [b3], fun k k1 k2 => by omega⟩
  · obtain ⟨k, k1, k2⟩ := (h3 pc p1 p2).1
    have := (nI_eq (by omega) (by omega)).mp (k2.symm.trans p4)
    omega
/-- one instruction, no END_LAST -/
theorem PcS.one (hA : A1 cs = (rcA as0, hd, sl, os)) (hO : O1 cs = nI k) (hk : k < 31 ∧ ¬ k = 30) (hp : k = 28 → pd cs) : PcS A1 Q O1 L1 pd as0 sn cs (cs + 1) g0 g0 hd sl := by
  have e : ∀ pc : Nat, cs ≤ pc → pc < cs + 1 → pc = cs := fun pc h1 h2 => by omega
  refine ⟨⟨fun k _ _ => by omega, fun j k h1 _ => by obtain ⟨a, b, _⟩ := h1; omega, fun pc x p1 p2 p3 p4 p5 => ?_, fun pc s h e9 p1 p2 p3 p4 => ?_⟩, fun pc p1 p2 p3 => ?_, fun pc x p1 p2 p3 p4 p5 => ?_⟩
  · rw [e pc p1 p2] at p4 p5
    exact absurd (hp ((nI_eq (by omega) (by omega)).mp (hO.symm.trans p4))) p5
  · rw [e pc p1 p2] at p4
    exact absurd ((nI_eq (by omega) (by omega)).mp (hO.symm.trans p4)) hk.2
  · rw [e pc p1 p2] at p3 ⊢
    rw [hA] at p3 ⊢
    exact ⟨rcA_of p3, Nat.le_refl _, fun s _ => rfl, fun k k1 k2 => by omega⟩
  · rw [e pc p1 p2] at p4 p5
    exact absurd (hp ((nI_eq (by omega) (by omega)).mp (hO.symm.trans p4))) p5
/-- jumps come to what is next -/
theorem PcS.lands (h : PcS A Q O L pd as0 sn c0 cs g0 g1 hd sl) (hp1 : ∀ z : Nat, pd1 z → pd z) (hx : ∀ z : Nat, pd z → ¬ pd1 z → z ∈ xs) (hO : ∀ z : Nat, z ∈ xs → ¬ O z = nI 30) (hc : cs < 10000) : PcS (upS A cs (rcA as1, hd, sl1, [])) Q O (aim L xs cs) pd1 as0 sn c0 cs g0 g1 hd sl := by
  refine ⟨h.1.lands hp1 hx hO hc (Or.inr trivial), fun pc p1 p2 p3 => ?_, fun pc x p1 p2 p3 p4 p5 p6 p7 => ?_⟩
  · rw [upS_ne (by omega)] at p3 ⊢
    obtain ⟨a1, a2, a3, a4⟩ := h.2.1 pc p1 p2 p3
    refine ⟨a1, a2, a3, fun k k1 k2 k3 => ?_⟩
    have y := h.1.1 k k1 k2
    exact (a4 k k1 k2 k3).same (upS_ne (by omega)) (upS_ne (by omega)) RqS.rfl
  · rw [upS_ne (by omega)] at p3
    by_cases z : pc ∈ xs
    · rw [aim_in z] at p7
      have e : cs = x := (nI_eq (by omega) (by omega)).mp p7
      omega
    · rw [aim_no z] at p7
      exact h.2.2 pc x p1 p2 p3 p4 (fun q => z (hx pc q p5)) p6 p7
/-- held less, as before -/
theorem PcS.less (h : PcS A Q O L pd as0 sn c0 c1 g0 g1 hd1 sl1) (hh : hd ≤ hd1) (hsl : ∀ s : Nat, s < hd → sl1 s = sl s) (has : ¬ as0 = -1 → ¬ as1 = -1) : PcS A Q O L pd as1 sn c0 c1 g0 g1 hd sl :=
  ⟨h.1.less hh, fun pc p1 p2 p3 => ⟨has (h.2.1 pc p1 p2 p3).1, by have := (h.2.1 pc p1 p2 p3).2.1; omega, fun s hs => ((h.2.1 pc p1 p2 p3).2.2.1 s (by omega)).trans (hsl s hs), (h.2.1 pc p1 p2 p3).2.2.2⟩, h.2.2⟩
/-- a CATCH: its region g1 lies over the beginning of the piece, what it does comes at h9 -/
theorem PcS.catch {c9 : Nat} {sl9 : Nat → Nat} (b : PcS A Q O L pd as0 sn c0 h9 g0 g1 hd sl) (l : PcS A Q O L pd as0 sn h9 c2 (g1 + 1) g2 hd sl) (n1 : Q.1 g1 = c0) (n2 : Q.2.1 g1 = e9) (n3 : Q.2.2.1 g1 = h9) (n4 : Q.2.2.2.1 g1 = hd) (n5 : Q.2.2.2.2.1 g1 = nI c9) (hc9 : c9 < 60) (he : c0 ≤ e9 ∧ e9 ≤ h9) (hA : A h9 = (rcA as0, hd + 1, sl9, [])) (hs1 : ∀ i : Nat, i < hd → sl9 i = sl i) (hs2 : sl9 hd = c9) (hsn : hd < sn) (i1 : c0 < h9) (i2 : h9 < c2) (i3 : g0 ≤ g1) (i4 : g1 + 1 ≤ g2) : PcS A Q O L pd as0 sn c0 c2 g0 g2 hd sl := by
  have nl : ¬ Q.2.2.2.2.1 g1 = -1 := by rw [n5]; exact nI_m1 (by omega)
  obtain ⟨⟨a1, a2, a3, a4⟩, a5, a6⟩ := b
  obtain ⟨⟨b1, b2, b3, b4⟩, b5, b6⟩ := l
  have sp : ∀ k : Nat, lsR Q g0 g2 k → lsR Q g0 g1 k ∨ lsR Q (g1 + 1) g2 k := fun k hk => by
    by_cases z : k < g1
    · exact Or.inl ⟨hk.1, z, hk.2.2⟩
    · by_cases w : k = g1
      · rw [w] at hk; exact absurd hk.2.2 nl
      · exact Or.inr ⟨by omega, hk.2.1, hk.2.2⟩
  refine ⟨⟨fun k k1 k2 => ?_, fun j k hj hk hi => ?_, fun pc x p1 p2 p3 p4 p5 p6 p7 k hk k2 k3 => ?_, fun pc s h e p1 p2 p3 p4 p5 p6 p7 p8 => ?_⟩, fun pc p1 p2 p3 => ?_, fun pc x p1 p2 p3 p4 p5 p6 p7 => ?_⟩
  · by_cases z : k < g1
    · obtain ⟨x1, x2, x3, x4, x5⟩ := a1 k k1 z
      exact ⟨x1, x2, by omega, x4, fun w => ⟨(x5 w).1, by have := (x5 w).2; omega⟩⟩
    · by_cases w : k = g1
      · subst w
        exact ⟨by omega, by omega, by omega, by omega, fun w => absurd w nl⟩
      · obtain ⟨x1, x2, x3, x4, x5⟩ := b1 k (by omega) k2
        exact ⟨by omega, x2, x3, x4, x5⟩
  · rcases sp j hj with j1 | j1 <;> rcases sp k hk with k1 | k1
    · exact a2 j k j1 k1 hi
    · have x1 := a1 j j1.1 j1.2.1
      have y1 := b1 k k1.1 k1.2.1
      unfold inR at hi
      omega
    · have x1 := b1 j j1.1 j1.2.1
      have y1 := a1 k k1.1 k1.2.1
      unfold inR at hi
      omega
    · exact b2 j k j1 k1 hi
  · rcases sp k hk with k1 | k1
    · have y1 := a1 k k1.1 k1.2.1
      by_cases z : pc < h9
      · exact a3 pc x p1 z p3 p4 p5 p6 p7 k k1 k2 k3
      · unfold inR at k2; omega
    · have y1 := b1 k k1.1 k1.2.1
      by_cases z : pc < h9
      · unfold inR at k2; omega
      · exact b3 pc x (by omega) p2 p3 p4 p5 p6 p7 k k1 k2 k3
  · by_cases z : pc < h9
    · obtain ⟨x1, x2, x3, x4⟩ := a4 pc s h e p1 z p3 p4 p5 p6 p7 p8
      refine ⟨x1, x2, fun j hj hj2 => ?_, fun k hk hi => ?_⟩
      · rcases sp j hj with j1 | j1
        · exact x3 j j1 hj2
        · have y1 := b1 j j1.1 j1.2.1
          omega
      · rcases sp k hk with k1 | k1
        · exact x4 k k1 hi
        · have y1 := b1 k k1.1 k1.2.1
          unfold inR at hi; omega
    · obtain ⟨x1, x2, x3, x4⟩ := b4 pc s h e (by omega) p2 p3 p4 p5 p6 p7 p8
      refine ⟨by omega, x2, fun j hj hj2 => ?_, fun k hk hi => ?_⟩
      · rcases sp j hj with j1 | j1
        · have y1 := a1 j j1.1 j1.2.1
          omega
        · exact x3 j j1 hj2
      · rcases sp k hk with k1 | k1
        · have y1 := a1 k k1.1 k1.2.1
          unfold inR at hi; omega
        · exact x4 k k1 hi
  · by_cases z : pc < h9
    · obtain ⟨x1, x2, x3, x4⟩ := a5 pc p1 z p3
      refine ⟨x1, x2, x3, fun k k1 k2 k3 => ?_⟩
      by_cases w : k < g1
      · exact x4 k k1 w k3
      · by_cases w2 : k = g1
        · subst w2
          unfold HdO
          rw [n3, n4, n5, hA]
          exact ⟨rcA_1 x1, rfl, x2, fun i hi => (hs1 i hi).trans (x3 i hi).symm, z, Or.inl ⟨c9, hc9, rfl, Nat.le_refl _, hsn, hs2⟩⟩
        · have y1 := b1 k (by omega) k2
          unfold inR at k3; omega
    · obtain ⟨x1, x2, x3, x4⟩ := b5 pc (by omega) p2 p3
      refine ⟨x1, x2, x3, fun k k1 k2 k3 => ?_⟩
      by_cases w : k < g1
      · have y1 := a1 k k1 w
        unfold inR at k3; omega
      · by_cases w2 : k = g1
        · subst w2
          unfold inR at k3; omega
        · exact x4 k (by omega) k2 k3
  · by_cases z : pc < h9
    · have w := a6 pc x p1 z p3 p4 p5 p6 p7
      omega
    · exact b6 pc x (by omega) p2 p3 p4 p5 p6 p7
/-- a try with a LAST: its region g1 lies over the piece from c0 to h9, its LAST begins there and ends at e9 -/
theorem PcS.last {f9 : Nat} {sl9 : Nat → Nat} (b : PcS A Q O L pd as0 sn c0 h9 g0 g1 hd sl) (l : PcS A Q O L pd as0 sn h9 e9 (g1 + 1) g2 (hd + 2) sl9) (i1 : c0 < h9) (i2 : h9 ≤ e9) (i3 : g0 ≤ g1) (i4 : g1 + 1 ≤ g2) (hhd : hd < 10000) (n1 : Q.1 g1 = c0) (n2 : Q.2.1 g1 = h9) (n3 : Q.2.2.1 g1 = h9) (n4 : Q.2.2.2.1 g1 = hd) (n5 : Q.2.2.2.2.1 g1 = -1) (n6 : Q.2.2.2.2.2 g1 = e9) (hlt : ∀ pc x : Nat, c0 ≤ pc → pc < h9 → (A pc).1 = 1 → O pc = nI 28 → ¬ pd pc → x < 10000 → L pc = nI x → x < h9) (hO : O e9 = nI 30) (hL : L e9 = nI hd) (hA : A h9 = (rcA as0, hd + 2, sl9, [])) (hs1 : ∀ i : Nat, i < hd → sl9 i = sl i) (hs2 : sl9 hd = 1000 + 2 * h9 + f9) (hf : f9 ≤ 1) (hs3 : sl9 (hd + 1) = 999) (hsn : hd + 2 ≤ sn) (hE : (A e9).1 = 1 → ¬ as0 = -1 ∧ hd + 2 ≤ (A e9).2.1 ∧ ∀ s : Nat, s < hd + 2 → (A e9).2.2.1 s = sl9 s) : PcS A Q O L pd as0 sn c0 (e9 + 1) g0 g2 hd sl := by
  refine ⟨PcR.last (s9 := hd) b.1 l.1 i1 i2 i3 i4 hhd n1 n2 n3 n4 rfl n6 (fun pc x p1 p2 p3 p4 p5 p6 p7 => ⟨(b.2.2 pc x p1 p2 p3 p4 p5 p6 p7).1, hlt pc x p1 p2 p3 p4 p5 p6 p7⟩) ⟨hO, hL⟩ (fun h e he hr ha => ?_), fun pc p1 p2 p3 => ?_, fun pc x p1 p2 p3 p4 p5 p6 p7 => ?_⟩
  · rw [(hE hr).2.2 hd (by omega), hs2] at ha
    omega
  · by_cases z : pc < h9
    · obtain ⟨x1, x2, x3, x4⟩ := b.2.1 pc p1 z p3
      refine ⟨x1, x2, x3, fun k k1 k2 k3 => ?_⟩
      by_cases w : k < g1
      · exact x4 k k1 w k3
      · by_cases w2 : k = g1
        · subst w2
          unfold HdO
          rw [n3, n4, n5, hA]
          exact ⟨rcA_1 x1, rfl, x2, fun i hi => (hs1 i hi).trans (x3 i hi).symm, z, Or.inr ⟨rfl, rfl, hsn, hs3, f9, hf, hs2⟩⟩
        · have y1 := l.1.1 k (by omega) k2
          unfold inR at k3; omega
    · have nin : ∀ k : Nat, g0 ≤ k → k < g1 + 1 → ¬ inR Q k pc := fun k k1 k2 k3 => by
        by_cases w : k < g1
        · have y1 := b.1.1 k k1 w
          unfold inR at k3; omega
        · have w2 : k = g1 := by omega
          subst w2
          unfold inR at k3; omega
      by_cases y : pc = e9
      · subst y
        obtain ⟨x1, x2, x3⟩ := hE p3
        refine ⟨x1, by omega, fun s hs => (x3 s (by omega)).trans (hs1 s hs), fun k k1 k2 k3 => ?_⟩
        by_cases w : k < g1 + 1
        · exact absurd k3 (nin k k1 w)
        · have y1 := l.1.1 k (by omega) k2
          unfold inR at k3; omega
      · obtain ⟨x1, x2, x3, x4⟩ := l.2.1 pc (by omega) (by omega) p3
        refine ⟨x1, by omega, fun s hs => (x3 s (by omega)).trans (hs1 s hs), fun k k1 k2 k3 => ?_⟩
        by_cases w : k < g1 + 1
        · exact absurd k3 (nin k k1 w)
        · exact x4 k (by omega) k2 k3
  · by_cases z : pc < h9
    · have w := b.2.2 pc x p1 z p3 p4 p5 p6 p7
      omega
    · by_cases y : pc = e9
      · subst y
        have := (nI_eq (by omega) (by omega)).mp (hO.symm.trans p4)
        omega
      · have w := l.2.2 pc x (by omega) (by omega) p3 p4 p5 p6 p7
        omega
/-- what is assigned for certain: one doesn't come there, or bits of variables -/
def AsO (x : Int32) : Prop := x = -1 ∨ ∃ k : Nat, k < 1073741824 ∧ x = nI k
theorem AsO.m1 : AsO (-1) := Or.inl rfl
theorem AsE.aso (h : AsE as0 as1) (q : AsO as0) : AsO as1 := by
  rcases h with e | e
  · rw [e]; exact q
  · rw [e]; exact AsO.m1
/-- a number below 2^30 has no sign -/
theorem nI_30 {k : Nat} (h : k < 1073741824) : ¬ nI k = -1 := nI_m1 (by omega)
theorem nI_nat {k : Nat} (h : k < 1073741824) : (nI k).toBitVec.toNat = k := by
  show (BitVec.ofNat 32 k).toNat = k
  rw [BitVec.toNat_ofNat]
  exact Nat.mod_eq_of_lt (by omega)
theorem AsO.low (h : AsO as0) (hn : ¬ as0 = -1) : as0.toBitVec.toNat < 1073741824 := by
  rcases h with e | ⟨k, k1, k2⟩
  · exact absurd e hn
  · rw [k2, nI_nat k1]; exact k1
theorem AsO.of (h : as0.toBitVec.toNat < 1073741824) : AsO as0 := Or.inr ⟨as0.toBitVec.toNat, h, by
  rw [← Int32.toBitVec_inj]
  show as0.toBitVec = BitVec.ofNat 32 as0.toBitVec.toNat
  refine BitVec.eq_of_toNat_eq ?_
  rw [BitVec.toNat_ofNat, Nat.mod_eq_of_lt as0.toBitVec.isLt]⟩
theorem AsO.and (h : AsO as0) (q : AsO as1) : AsO (as0 &&& as1) := by
  by_cases z : as0 = -1
  · rw [z, Int32.neg_one_and]; exact q
  · refine AsO.of ?_
    rw [Int32.toBitVec_and, BitVec.toNat_and]
    exact Nat.lt_of_le_of_lt Nat.and_le_left (h.low z)
theorem AsO.or (h : AsO as0) (q : AsO as1) : AsO (as0 ||| as1) ∧ (as0 ||| as1 = -1 ↔ as0 = -1 ∨ as1 = -1) := by
  by_cases z : as0 = -1
  · rw [z, Int32.neg_one_or]; exact ⟨AsO.m1, fun _ => Or.inl rfl, fun _ => rfl⟩
  · by_cases y : as1 = -1
    · rw [y, Int32.or_neg_one]; exact ⟨AsO.m1, fun _ => Or.inr rfl, fun _ => rfl⟩
    · have w : (as0 ||| as1).toBitVec.toNat < 1073741824 := by
        rw [Int32.toBitVec_or, BitVec.toNat_or]
        exact Nat.or_lt_two_pow (n := 30) (h.low z) (q.low y)
      refine ⟨AsO.of w, fun e => ?_, fun e => e.elim (fun e => absurd e z) (fun e => absurd e y)⟩
      rw [e] at w
      exact absurd w (by decide)
end ZL
