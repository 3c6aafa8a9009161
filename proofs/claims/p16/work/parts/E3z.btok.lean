/-! what the tokens of nodes are -/
def SgN (k : Int32) : Prop := (k = 54 ∨ k = 55 ∨ k = 56 ∨ k = 57 ∨ k = 58 ∨ k = 59) ∨ (k = 44 ∨ k = 45 ∨ k = 46 ∨ k = 47 ∨ k = 48 ∨ k = 49 ∨ k = 50 ∨ k = 51 ∨ k = 62 ∨ k = 63 ∨ k = 64)
def TkP (kd : Nat → Int32) (sz : Nat) (ro : Nat → Int32) (a : Nat) (k t f : Int32) : Prop := (k = 15 → tkN kd sz 67 t = 45 ∨ tkN kd sz 67 t = 52) ∧ (k = 17 → SgN (tkN kd sz 67 t)) ∧ (k = 8 → ∃ i : Nat, i + 1 < a ∧ t = nI i ∧ ro i = 2 ∧ tkN kd sz 67 (nI (i + 1)) = 34) ∧ (k = 9 → ∃ i : Nat, i + 1 < a ∧ t = nI i ∧ (¬ ro i = 0 ∨ tkN kd sz 67 (nI i) = 13 ∨ tkN kd sz 67 (nI i) = 1) ∧ ¬ tkN kd sz 67 (nI (i + 2)) = 37) ∧ (k = 35 → ∃ i : Nat, i + 1 < a ∧ f = nI i ∧ ro i = 3 ∧ tkN kd sz 67 (nI (i + 1)) = 65)
/-- what has been read since: roles below stay, nodes stay, the new ones' tokens -/
def NwT (kd : Nat → Int32) (sz : Nat) (ro r1 : Nat → Int32) (K K1 : PK) (a a1 : Nat) : Prop := a ≤ a1 ∧ RoS ro r1 a ∧ (∀ p : Nat, ¬ K.1 p = 0 → K1.1 p = K.1 p ∧ (K.1 p = 1 → ∀ f : Nat, f < 3 → K1.2.1 f p = K.2.1 f p)) ∧ ∀ q : Nat, K.1 q = 0 → K1.1 q = 1 → TkP kd sz r1 a1 (K1.2.1 0 q) (K1.2.1 1 q) (K1.2.1 2 q)
theorem mkN_1 {K : PK} {q : Nat} {a b c : Int32} : (mkN K q a b c).2.1 1 q = b := (kI_of (by decide)).trans kI_eq
section BTK
variable {kd ro r1 r2 : Nat → Int32} {K K1 K2 : PK} {g g1 : Nat → Nat → Nat} {a a1 a2 b b1 q f9 sz : Nat} {x y z k9 t9 f v : Int32} {w : Option Nat}
theorem TkP.up (h : TkP kd sz ro a k9 t9 f) (ha : a ≤ b) (hr : RoS ro r1 a) : TkP kd sz r1 b k9 t9 f := by
  obtain ⟨h1, h2, h3, h4, h5⟩ := h
  refine ⟨h1, h2, fun e => ?_, fun e => ?_, fun e => ?_⟩
  · obtain ⟨i, a1, a2, a3, a4⟩ := h3 e
    exact ⟨i, by omega, a2, (hr i (by omega)).trans a3, a4⟩
  · obtain ⟨i, a1, a2, a3, a4⟩ := h4 e
    exact ⟨i, by omega, a2, by rw [hr i (by omega)]; exact a3, a4⟩
  · obtain ⟨i, a1, a2, a3, a4⟩ := h5 e
    exact ⟨i, by omega, a2, (hr i (by omega)).trans a3, a4⟩
theorem TkP.no (h : ¬ k9 = 15 ∧ ¬ k9 = 17 ∧ ¬ k9 = 8 ∧ ¬ k9 = 9 ∧ ¬ k9 = 35) : TkP kd sz ro a k9 t9 f := ⟨fun e => absurd e h.1, fun e => absurd e h.2.1, fun e => absurd e h.2.2.1, fun e => absurd e h.2.2.2.1, fun e => absurd e h.2.2.2.2⟩
theorem TkP.k15 (h : tkN kd sz 67 t9 = 45 ∨ tkN kd sz 67 t9 = 52) : TkP kd sz ro a 15 t9 f := ⟨fun _ => h, fun e => absurd e (by decide), fun e => absurd e (by decide), fun e => absurd e (by decide), fun e => absurd e (by decide)⟩
theorem TkP.k8 (h : ∃ i : Nat, i + 1 < a ∧ t9 = nI i ∧ ro i = 2 ∧ tkN kd sz 67 (nI (i + 1)) = 34) : TkP kd sz ro a 8 t9 f := ⟨fun e => absurd e (by decide), fun e => absurd e (by decide), fun _ => h, fun e => absurd e (by decide), fun e => absurd e (by decide)⟩
theorem TkP.kk9 (h : ∃ i : Nat, i + 1 < a ∧ t9 = nI i ∧ (¬ ro i = 0 ∨ tkN kd sz 67 (nI i) = 13 ∨ tkN kd sz 67 (nI i) = 1) ∧ ¬ tkN kd sz 67 (nI (i + 2)) = 37) : TkP kd sz ro a 9 t9 f := ⟨fun e => absurd e (by decide), fun e => absurd e (by decide), fun e => absurd e (by decide), fun _ => h, fun e => absurd e (by decide)⟩
theorem TkP.k35 (h : ∃ i : Nat, i + 1 < a ∧ f = nI i ∧ ro i = 3 ∧ tkN kd sz 67 (nI (i + 1)) = 65) : TkP kd sz ro a 35 t9 f := ⟨fun e => absurd e (by decide), fun e => absurd e (by decide), fun e => absurd e (by decide), fun e => absurd e (by decide), fun _ => h⟩
theorem NwT.nil : NwT kd sz ro ro K K a a := ⟨Nat.le_refl _, fun _ _ => rfl, fun _ _ => ⟨rfl, fun _ _ _ => rfl⟩, fun q h1 h2 => by rw [h1] at h2; exact absurd h2 (by decide)⟩
theorem NwT.le (h : NwT kd sz ro r1 K K1 a a1) (ha : a1 ≤ a2) : NwT kd sz ro r1 K K1 a a2 := ⟨Nat.le_trans h.1 ha, h.2.1, h.2.2.1, fun q h1 h2 => (h.2.2.2 q h1 h2).up ha (fun _ _ => rfl)⟩
theorem NwT.call (h : NwT kd sz ro r1 K K1 a a1) (s : NwT kd sz r1 r2 K1 K2 b b1) (hb : a1 ≤ b) : NwT kd sz ro r2 K K2 a b1 := by
  obtain ⟨h1, h2, h3, h4⟩ := h
  obtain ⟨s1, s2, s3, s4⟩ := s
  refine ⟨by omega, fun i hi => (s2 i (by omega)).trans (h2 i hi), fun p hp => ?_, fun q hq hq2 => ?_⟩
  · obtain ⟨c1, c2⟩ := h3 p hp
    obtain ⟨d1, d2⟩ := s3 p (by rw [c1]; exact hp)
    exact ⟨d1.trans c1, fun hp1 f hf => (d2 (c1.trans hp1) f hf).trans (c2 hp1 f hf)⟩
  · by_cases e : K1.1 q = 0
    · exact s4 q e hq2
    · obtain ⟨d1, d2⟩ := s3 q e
      have e1 := d1.symm.trans hq2
      rw [d2 e1 0 (by decide), d2 e1 1 (by decide), d2 e1 2 (by decide)]
      exact (h4 q hq e1).up (by omega) (fun i hi => s2 i (by omega))
theorem NwT.role (h : NwT kd sz ro r1 K K1 a a1) (hr : RoS r1 r2 b) (hb : a1 ≤ b) : NwT kd sz ro r2 K K1 a b := NwT.call h (⟨Nat.le_refl _, hr, fun _ _ => ⟨rfl, fun _ _ _ => rfl⟩, fun q h1 h2 => by rw [h1] at h2; exact absurd h2 (by decide)⟩ : NwT kd sz r1 r2 K1 K1 b b) hb
theorem NwT.role0 (h : NwT kd sz ro r1 K K a a1) (hr : RoS r1 r2 a) : NwT kd sz ro r2 K K a a1 := ⟨h.1, fun i hi => (hr i hi).trans (h.2.1 i hi), fun _ _ => ⟨rfl, fun _ _ _ => rfl⟩, fun q h1 h2 => by rw [h1] at h2; exact absurd h2 (by decide)⟩
theorem NwT.new (h : NwT kd sz ro r1 K K1 a a1) (hq : K1.1 q = 0) (ht : TkP kd sz r1 a1 x y z) : NwT kd sz ro r1 K (mkN K1 q x y z) a a1 := by
  obtain ⟨h1, h2, h3, h4⟩ := h
  have old : ∀ p : Nat, ¬ K1.1 p = 0 → (mkN K1 q x y z).1 p = K1.1 p ∧ ∀ f : Nat, (mkN K1 q x y z).2.1 f p = K1.2.1 f p := fun p hp => ⟨(mkN_ext hq p hp).1, (mkN_ext hq p hp).2.1⟩
  refine ⟨h1, h2, fun p hp => ?_, fun p hp hp2 => ?_⟩
  · obtain ⟨c1, c2⟩ := h3 p hp
    obtain ⟨d1, d2⟩ := old p (by rw [c1]; exact hp)
    exact ⟨d1.trans c1, fun hp1 f hf => (d2 f).trans (c2 hp1 f hf)⟩
  · by_cases e : p = q
    · subst e
      rw [mkN_0, mkN_1, mkN_2]
      exact ht
    · have e1 : K1.1 p = 1 := by rw [← mkN_ne (a := x) (b := y) (c := z) e]; exact hp2
      obtain ⟨_, d2⟩ := old p (by rw [e1]; decide)
      rw [d2, d2, d2]
      exact h4 p hp e1
theorem NwT.put (h : NwT kd sz ro r1 K K1 a a1) : NwT kd sz ro r1 K (kC K1 f9 q w) a a1 := h
theorem NwT.puti (h : NwT kd sz ro r1 K K1 a a1) (hf : 3 ≤ f9) : NwT kd sz ro r1 K (kI K1 f9 q v) a a1 := by
  obtain ⟨h1, h2, h3, h4⟩ := h
  have e : ∀ f p : Nat, f < 3 → (kI K1 f9 q v).2.1 f p = K1.2.1 f p := fun f p hf2 => kI_of (by omega)
  refine ⟨h1, h2, fun p hp => ⟨(h3 p hp).1, fun hp1 f hf2 => (e f p hf2).trans ((h3 p hp).2 hp1 f hf2)⟩, fun p hp hp2 => ?_⟩
  rw [e 0 p (by decide), e 1 p (by decide), e 2 p (by decide)]
  exact h4 p hp hp2
/-- what is no node changes -/
theorem NwT.ext (h : NwT kd sz ro r1 K K1 a a1) (hx : ∀ p : Nat, ¬ K1.1 p = 0 → K2.1 p = K1.1 p ∧ (K1.1 p = 1 → ∀ f : Nat, K2.2.1 f p = K1.2.1 f p)) (hn : ∀ p : Nat, K1.1 p = 0 → ¬ K2.1 p = 1) : NwT kd sz ro r1 K K2 a a1 := NwT.call h (⟨Nat.le_refl _, fun _ _ => rfl, fun p hp => ⟨(hx p hp).1, fun h1 f _ => (hx p hp).2 h1 f⟩, fun q h1 h2 => absurd h2 (hn q h1)⟩ : NwT kd sz r1 r1 K1 K2 a1 a1) (Nat.le_refl _)
theorem NwT.ad (h : NwT kd sz ro r1 K K1 a a1) (ha : AdQ K1 K2 q) (hn : N6 K1 K2) (hq : K1.1 q = 5) : NwT kd sz ro r1 K K2 a a1 := NwT.ext h (fun p hp => ⟨(ha.1 p hp).1, fun h1 f => (ha.2 p hp (fun e => by rw [e, hq] at h1; exact absurd h1 (by decide)) (fun e => by rw [h1] at e; exact absurd e.1 (by decide))).2.1 f⟩) (fun p h0 h1 => by
  rcases hn p h0 with w | w <;> rw [h1] at w <;> exact absurd w (by decide))
/-- a node whose token is told at the end -/
theorem NwT.late (h : NwT kd sz ro r1 K K1 a a1) (hq : K1.1 q = 0) (s : NwT kd sz r1 r2 (mkN K1 q x y z) K2 b b1) (hb : a1 ≤ b) (ht : TkP kd sz r2 b1 x y z) : NwT kd sz ro r2 K K2 a b1 := by
  obtain ⟨h1, h2, h3, h4⟩ := h
  obtain ⟨s1, s2, s3, s4⟩ := s
  have old : ∀ p : Nat, ¬ K1.1 p = 0 → (mkN K1 q x y z).1 p = K1.1 p ∧ ∀ f : Nat, (mkN K1 q x y z).2.1 f p = K1.2.1 f p := fun p hp => ⟨(mkN_ext hq p hp).1, (mkN_ext hq p hp).2.1⟩
  refine ⟨by omega, fun i hi => (s2 i (by omega)).trans (h2 i hi), fun p hp => ?_, fun p hp hp2 => ?_⟩
  · obtain ⟨c1, c2⟩ := h3 p hp
    obtain ⟨d1, d2⟩ := old p (by rw [c1]; exact hp)
    obtain ⟨e1, e2⟩ := s3 p (by rw [d1, c1]; exact hp)
    exact ⟨e1.trans (d1.trans c1), fun hp1 f hf => (e2 (d1.trans (c1.trans hp1)) f hf).trans ((d2 f).trans (c2 hp1 f hf))⟩
  · by_cases e : p = q
    · subst e
      obtain ⟨_, e2⟩ := s3 p (by rw [mkN_T]; decide)
      rw [e2 mkN_T 0 (by decide), e2 mkN_T 1 (by decide), e2 mkN_T 2 (by decide), mkN_0, mkN_1, mkN_2]
      exact ht
    · by_cases e9 : K1.1 p = 0
      · exact s4 p (by rw [mkN_ne e]; exact e9) hp2
      · obtain ⟨d1, d2⟩ := old p e9
        obtain ⟨e1, e2⟩ := s3 p (by rw [d1]; exact e9)
        have e3 := e1.symm.trans hp2
        rw [e2 e3 0 (by decide), e2 e3 1 (by decide), e2 e3 2 (by decide), d2, d2, d2]
        exact (h4 p hp (d1.symm.trans e3)).up (by omega) (fun i hi => s2 i (by omega))
end BTK
