/-! names: the layouts -/
def LyD (g : Nat → Nat → Nat) (K : PK) (p : Nat) : Prop := (K.1 p = 5 ∧ (g 3 p = 4 ∨ g 3 p = 5)) ∨ (K.1 p = 6 ∧ ∃ q : Nat, K.2.2.1 17 p = some q ∧ (g 3 q = 4 ∨ g 3 q = 5))
/-- what the layouts leave as it was -/
def LyS (g : Nat → Nat → Nat) (K0 K : PK) : Prop := (∀ p : Nat, K0.1 p = 0 → K.1 p = 0 ∨ K.1 p = 6) ∧ ∀ p : Nat, ¬ K0.1 p = 0 → (K.1 p = K0.1 p ∧ K.2.2.1 17 p = K0.2.2.1 17 p) ∧ (¬ LyD g K0 p → (∀ f : Nat, (f = 5 → ¬ K0.1 p = 1) → (f = 10 → ¬ K0.1 p = 3) → K.2.1 f p = K0.2.1 f p) ∧ (∀ f : Nat, K.2.2.1 f p = K0.2.2.1 f p) ∧ K.2.2.2.1 p = K0.2.2.2.1 p ∧ K.2.2.2.2.1 p = K0.2.2.2.2.1 p ∧ K.2.2.2.2.2 p = K0.2.2.2.2.2 p)
/-- the layout of d: its parent's, then its own fields -/
def LyP (G : pT) (K : PK) : Nat → Nat → Nat → (Nat → Nat) → Prop
  | 0, _, _, _ => False
  | f + 1, d, n, it => ∃ (np nf : Nat) (ip jf : Nat → Nat), ((K.2.2.1 10 d = none ∧ np = 0) ∨ ∃ p : Nat, K.2.2.1 10 d = some p ∧ LyP G K f p np ip) ∧ FlP G K d nf jf ∧ n = np + nf ∧ (∀ i : Nat, i < np → it i = ip i) ∧ ∀ i : Nat, i < nf → it (np + i) = jf i
def LyR (G : pT) (K : PK) (o : Option Nat) (n : Nat) (it : Nat → Nat) : Prop := (o = none ∧ n = 0) ∨ ∃ h f : Nat, o = some h ∧ LyP G K f h n it
/-- what is laid so far, and what lies above -/
def LyC (G : pT) (K : PK) (d0 : Nat) (o : Option Nat) (nl : Nat) (il : Nat → Nat) : Prop := ∀ (n : Nat) (it jt : Nat → Nat), LyR G K o n it → (∀ i : Nat, i < n → jt i = it i) → (∀ i : Nat, i < nl → jt (n + i) = il i) → ∃ f : Nat, LyP G K f d0 (n + nl) jt
/-- only the list ll has changed, no slot, no result -/
def LyT (G : pT) (ll : Nat) (K K1 : PK) : Prop := (∀ (x es n cp : Nat) (it : Nat → Nat), ¬ es = 0 → ¬ x = ll → LsC G K x es n it cp → LsC G K1 x es n it cp) ∧ (∀ x : Nat, K.1 x = 3 → K1.1 x = 3 ∧ K1.2.1 10 x = K.2.1 10 x) ∧ ∀ x : Nat, K.1 x = 1 → K1.1 x = 1 ∧ K1.2.1 5 x = K.2.1 5 x
/-- the same, but for the slots of what is laid -/
def LyU (G : pT) (ll : Nat) (K K1 : PK) (nl : Nat) (il : Nat → Nat) : Prop := (∀ (x es n cp : Nat) (it : Nat → Nat), ¬ es = 0 → ¬ x = ll → LsC G K x es n it cp → LsC G K1 x es n it cp) ∧ (∀ x : Nat, K.1 x = 3 → K1.1 x = 3 ∧ K1.2.1 10 x = K.2.1 10 x) ∧ (∀ x : Nat, K.1 x = 1 → (∀ i : Nat, i < nl → ¬ il i = x) → K1.2.1 5 x = K.2.1 5 x) ∧ (∀ i : Nat, i < nl → K1.2.1 5 (il i) = nI i) ∧ ∀ x : Nat, K.1 x = 1 → K1.1 x = 1
section GNA
variable {G : pT} {K K0 K1 K2 : PK} {g : Nat → Nat → Nat} {d d0 d1 p q x n n1 n2 a b f f1 f2 i j ll es cp nf np nl lm lf : Nat} {it jt i1 i2 ip jf il : Nat → Nat} {o : Option Nat} {v : Int32}
theorem LyS.rfl : LyS g K K := ⟨fun _ h => Or.inl h, fun _ _ => ⟨⟨Eq.refl _, Eq.refl _⟩, fun _ => ⟨fun _ _ _ => Eq.refl _, fun _ => Eq.refl _, Eq.refl _, Eq.refl _, Eq.refl _⟩⟩⟩
theorem LyS.kI5 (h : LyS g K0 K) (hq : K.1 q = 1) : LyS g K0 (kI K 5 q v) := ⟨h.1, fun p hp => by
  obtain ⟨h1, h2⟩ := h.2 p hp
  refine ⟨h1, fun hd => ?_⟩
  obtain ⟨a1, a2⟩ := h2 hd
  refine ⟨fun f hf1 hf2 => ?_, a2⟩
  by_cases e : f = 5
  · subst e
    have hn : ¬ p = q := fun z => hf1 (Eq.refl _) (by rw [← h1.1, z]; exact hq)
    rw [kI_ne hn]; exact a1 5 hf1 hf2
  · rw [kI_of e]; exact a1 f hf1 hf2⟩
theorem LyS.kI10 (h : LyS g K0 K) (hq : K.1 q = 3) : LyS g K0 (kI K 10 q v) := ⟨h.1, fun p hp => by
  obtain ⟨h1, h2⟩ := h.2 p hp
  refine ⟨h1, fun hd => ?_⟩
  obtain ⟨a1, a2⟩ := h2 hd
  refine ⟨fun f hf1 hf2 => ?_, a2⟩
  by_cases e : f = 10
  · subst e
    have hn : ¬ p = q := fun z => hf2 (Eq.refl _) (by rw [← h1.1, z]; exact hq)
    rw [kI_ne hn]; exact a1 10 hf1 hf2
  · rw [kI_of e]; exact a1 f hf1 hf2⟩
theorem LyS.add (h : LyS g K0 K) (ha : AdQ K K1 q) (hn6 : N6 K K1) (hq : K.1 q = 5) (hg : g 3 q = 4 ∨ g 3 q = 5) : LyS g K0 K1 := ⟨fun p h0 => by
  rcases h.1 p h0 with z | z
  · exact hn6 p z
  · exact Or.inr ((ha.1 p (by rw [z]; decide)).1.trans z), fun p hp => by
  obtain ⟨h1, h2⟩ := h.2 p hp
  have hk : ¬ K.1 p = 0 := by rw [h1.1]; exact hp
  have z := ha.1 p hk
  refine ⟨⟨z.1.trans h1.1, z.2.trans h1.2⟩, fun hd => ?_⟩
  obtain ⟨a1, a2, a3, a4, a5⟩ := h2 hd
  have hs : Sm K K1 p := ha.2 p hk (fun y => hd (Or.inl ⟨by rw [← h1.1, y]; exact hq, by rw [y]; exact hg⟩)) (fun y => hd (Or.inr ⟨by rw [← h1.1]; exact y.1, q, by rw [← h1.2]; exact y.2, hg⟩))
  exact ⟨fun f e1 e2 => (hs.2.1 f).trans (a1 f e1 e2), fun f => (hs.2.2.1 f).trans (a2 f), hs.2.2.2.1.trans a3, hs.2.2.2.2.1.trans a4, hs.2.2.2.2.2.trans a5⟩⟩
theorem LyS.T (h : LyS g K0 K) {s : Nat} (hp : K0.1 p = s) (hs : ¬ s = 0) : K.1 p = s := (h.2 p (by rw [hp]; exact hs)).1.1.trans hp
theorem LyS.nd4 {s : Nat} (hp : K0.1 p = s) (h5 : ¬ s = 5) (h6 : ¬ s = 6) : ¬ LyD g K0 p := fun z => by
  rcases z with ⟨z, _⟩ | ⟨z, _⟩
  · exact h5 (hp.symm.trans z)
  · exact h6 (hp.symm.trans z)
theorem LyS.C (h : LyS g K0 K) {s : Nat} (hp : K0.1 p = s) (h0 : ¬ s = 0) (h5 : ¬ s = 5) (h6 : ¬ s = 6) (f : Nat) : K.2.2.1 f p = K0.2.2.1 f p := ((h.2 p (by rw [hp]; exact h0)).2 (LyS.nd4 hp h5 h6)).2.1 f
theorem LyS.I (h : LyS g K0 K) {s : Nat} (hp : K0.1 p = s) (h0 : ¬ s = 0) (h5 : ¬ s = 5) (h6 : ¬ s = 6) {f : Nat} (hf : ¬ f = 5) (hf2 : ¬ f = 10) : K.2.1 f p = K0.2.1 f p := ((h.2 p (by rw [hp]; exact h0)).2 (LyS.nd4 hp h5 h6)).1 f (fun z => absurd z hf) (fun z => absurd z hf2)
theorem LyS.L (h : LyS g K0 K) (hp : K0.1 p = 4) : K.2.2.2.1 p = K0.2.2.2.1 p := ((h.2 p (by rw [hp]; decide)).2 (LyS.nd4 hp (by decide) (by decide))).2.2.1
theorem LyS.E (h : LyS g K0 K) (hp : K0.1 p = 8) : K.2.2.2.2.1 p = K0.2.2.2.2.1 p := ((h.2 p (by rw [hp]; decide)).2 (LyS.nd4 hp (by decide) (by decide))).2.2.2.1
theorem LyS.sm (h : LyS g K0 K) {s : Nat} (hp : K0.1 p = s) (h0 : ¬ s = 0) (h1 : ¬ s = 1) (h3 : ¬ s = 3) (hd : ¬ LyD g K0 p) : Sm K0 K p := by
  obtain ⟨z1, z2⟩ := h.2 p (by rw [hp]; exact h0)
  obtain ⟨a1, a2, a3, a4, a5⟩ := z2 hd
  exact ⟨z1.1, fun f => a1 f (fun _ y => h1 (hp.symm.trans y)) (fun _ y => h3 (hp.symm.trans y)), a2, a3, a4, a5⟩
/-- the other lists -/
theorem LyS.ls (h : LyS g K0 K) (hr : ¬ (g 3 x = 4 ∨ g 3 x = 5)) (he : ¬ es = 0) (hl : LsC G K0 x es n it cp) : LsC G K x es n it cp := by
  refine LsC.wx (fun p hp => (h.2 p hp).1.1) he (h.sm hl.1 (by decide) (by decide) (by decide) (fun z => ?_)) (fun e h6 h17 => h.sm h6 (by decide) (by decide) (by decide) (fun z => ?_)) hl
  · rcases z with ⟨_, z⟩ | ⟨z, _⟩
    · exact hr z
    · rw [hl.1] at z; exact absurd z (by decide)
  · rcases z with ⟨z, _⟩ | ⟨_, q, z1, z2⟩
    · rw [h6] at z; exact absurd z (by decide)
    · have e9 : x = q := Option.some.inj (h17.symm.trans z1)
      rw [← e9] at z2; exact hr z2
/-- a Decl's list, as it stood -/
theorem LyS.back (h : LyS g K0 K) (hw : WPr G K0 g) (hd : K0.1 d = 4) {fd r : Nat} (ho : Own K0 g (K0.2.2.1 fd d) d r) (hr : ¬ (r = 4 ∨ r = 5)) (hl : K.2.2.1 fd d = some x) (hc : LsC G K x (esr r) n it cp) : ∃ (cp0 : Nat) (it0 : Nat → Nat), K0.2.2.1 fd d = some x ∧ LsC G K0 x (esr r) n it0 cp0 ∧ ∀ i : Nat, i < n → it i = it0 i := by
  have h0 : K0.2.2.1 fd d = some x := by rw [← h.C hd (by decide) (by decide) (by decide)]; exact hl
  obtain ⟨y, y1, y2, y3, _⟩ := ho
  have e : y = x := Option.some.inj (y1.symm.trans h0)
  subst e
  obtain ⟨n0, it0, cp0, z1, _⟩ := hw.2.1 y y2
  rw [y3] at z1
  have z2 : LsC G K y (esr r) n0 it0 cp0 := h.ls (by rw [y3]; exact hr) (by rcases esr_es r with w | w <;> rw [w] <;> decide) z1
  obtain ⟨e1, e2⟩ := hc.same z2
  subst e1
  exact ⟨cp0, it0, h0, z1, e2⟩
theorem LyS.fl (h : LyS g K0 K) (hw : WPr G K0 g) (hd : K0.1 d = 4) (hl : K.2.2.1 8 d = some x) (hc : LsC G K x 1 n it cp) : ∃ it0 : Nat → Nat, FlP G K0 d n it0 ∧ ∀ i : Nat, i < n → it i = it0 i := by
  obtain ⟨cp0, it0, a1, a2, a3⟩ := h.back hw hd (hw.2.2.1 d hd).1 (by decide) hl (show LsC G K x (esr 1) n it cp from hc)
  exact ⟨it0, ⟨x, cp0, a1, a2⟩, a3⟩
theorem LyS.me (h : LyS g K0 K) (hw : WPr G K0 g) (hd : K0.1 d = 4) (hl : K.2.2.1 9 d = some x) (hc : LsC G K x 3 n it cp) (ha : a < n) : MeI G K0 d (it a) := by
  obtain ⟨cp0, it0, a1, a2, a3⟩ := h.back hw hd (hw.2.2.1 d hd).2.1 (by decide) hl (show LsC G K x (esr 2) n it cp from hc)
  exact ⟨x, n, cp0, a, it0, a1, a2, ha, (a3 a ha).symm⟩
theorem LyT.rfl : LyT G ll K K := ⟨fun _ _ _ _ _ _ _ h => h, fun _ h => ⟨h, Eq.refl _⟩, fun _ h => ⟨h, Eq.refl _⟩⟩
theorem LyT.trans (h : LyT G ll K K1) (h2 : LyT G ll K1 K2) : LyT G ll K K2 := ⟨fun x es n cp it h1 h3 h4 => h2.1 x es n cp it h1 h3 (h.1 x es n cp it h1 h3 h4), fun x hx => ⟨(h2.2.1 x (h.2.1 x hx).1).1, (h2.2.1 x (h.2.1 x hx).1).2.trans (h.2.1 x hx).2⟩, fun x hx => ⟨(h2.2.2 x (h.2.2 x hx).1).1, (h2.2.2 x (h.2.2 x hx).1).2.trans (h.2.2 x hx).2⟩⟩
theorem LyT.add (h : LyT G ll K K1) (ha : AdQ K1 K2 ll) (hl : K1.1 ll = 5) : LyT G ll K K2 := by
  have sm : ∀ x s : Nat, K1.1 x = s → ¬ s = 0 → ¬ s = 5 → ¬ s = 6 → Sm K1 K2 x := fun x s hx h0 h5 h6 => AdQ.sm ha (by rw [hx]; exact h0) (fun z => by rw [z, hl] at hx; exact h5 hx.symm) (by rw [hx]; exact h6)
  refine ⟨fun x es n cp it h1 h3 h4 => LsC.other ha hl h1 h3 (h.1 x es n cp it h1 h3 h4), fun x hx => ?_, fun x hx => ?_⟩
  · obtain ⟨z1, z2⟩ := h.2.1 x hx
    have z3 := sm x 3 z1 (by decide) (by decide) (by decide)
    exact ⟨z3.1.trans z1, (z3.2.1 10).trans z2⟩
  · obtain ⟨z1, z2⟩ := h.2.2 x hx
    have z3 := sm x 1 z1 (by decide) (by decide) (by decide)
    exact ⟨z3.1.trans z1, (z3.2.1 5).trans z2⟩
theorem LyU.of (h : LyT G ll K K1) : LyU G ll K K1 0 il := ⟨h.1, h.2.1, fun x hx _ => (h.2.2 x hx).2, fun i hi => absurd hi (by omega), fun x hx => (h.2.2 x hx).1⟩
/-- one slot more -/
theorem LyU.put (h : LyU G ll K K1 i il) (hq : K1.1 (il i) = 1) (hn : ∀ j : Nat, j < i → ¬ il j = il i) : LyU G ll K (kI K1 5 (il i) (nI i)) (i + 1) il := by
  obtain ⟨h1, h2, h3, h4, h5⟩ := h
  refine ⟨fun x es n cp it a b c => LsC.kI (by decide) (h1 x es n cp it a b c), fun x hx => ⟨(h2 x hx).1, (kI_of (by decide)).trans (h2 x hx).2⟩, fun x hx hj => ?_, fun j hj => ?_, h5⟩
  · rw [kI_ne (fun z => hj i (by omega) z.symm)]
    exact h3 x hx (fun j hj2 => hj j (by omega))
  · by_cases e : j = i
    · subst e; exact kI_eq
    · rw [kI_ne (hn j (by omega))]; exact h4 j (by omega)
theorem FlP.uniq (h : FlP G K d n1 i1) (h2 : FlP G K d n2 i2) : n1 = n2 ∧ ∀ i : Nat, i < n1 → i1 i = i2 i := by
  obtain ⟨l1, c1, a1, a2⟩ := h
  obtain ⟨l2, c2, b1, b2⟩ := h2
  have e : l1 = l2 := Option.some.inj (a1.symm.trans b1)
  subst e
  exact a2.same b2
theorem LyP.cast : ∀ {f d : Nat}, LyP G K f d n it → (∀ i : Nat, i < n → jt i = it i) → LyP G K f d n jt
  | 0, _, h, _ => h.elim
  | f + 1, d, h, hj => by
    obtain ⟨np, nf, ip, jf, a1, a2, a3, a4, a5⟩ := h
    exact ⟨np, nf, ip, jf, a1, a2, a3, fun i hi => (hj i (by omega)).trans (a4 i hi), fun i hi => (hj (np + i) (by omega)).trans (a5 i hi)⟩
theorem LyP.fun9 : ∀ {f1 f2 d n1 n2 : Nat} {i1 i2 : Nat → Nat}, LyP G K f1 d n1 i1 → LyP G K f2 d n2 i2 → n1 = n2
  | 0, _, _, _, _, _, _, h, _ => h.elim
  | _ + 1, 0, _, _, _, _, _, _, h => h.elim
  | f1 + 1, f2 + 1, d, n1, n2, i1, i2, h, h2 => by
    obtain ⟨np, nf, ip, jf, a1, a2, a3, _, _⟩ := h
    obtain ⟨np2, nf2, ip2, jf2, b1, b2, b3, _, _⟩ := h2
    have e1 := (a2.uniq b2).1
    have e2 : np = np2 := by
      rcases a1 with ⟨a1, a6⟩ | ⟨p, a1, a6⟩
      · rcases b1 with ⟨_, b6⟩ | ⟨p2, b1, _⟩
        · omega
        · rw [a1] at b1; cases b1
      · rcases b1 with ⟨b1, _⟩ | ⟨p2, b1, b6⟩
        · rw [a1] at b1; cases b1
        · have e : p = p2 := Option.some.inj (a1.symm.trans b1)
          subst e
          exact LyP.fun9 a6 b6
    omega
theorem LyR.fun9 (h : LyR G K o n1 i1) (h2 : LyR G K o n2 i2) : n1 = n2 := by
  rcases h with ⟨e, h⟩ | ⟨p, f, e, h⟩
  · rcases h2 with ⟨_, h2⟩ | ⟨p2, f2, e2, _⟩
    · omega
    · rw [e] at e2; cases e2
  · rcases h2 with ⟨e2, _⟩ | ⟨p2, f2, e2, h2⟩
    · rw [e] at e2; cases e2
    · have z : p = p2 := Option.some.inj (e.symm.trans e2)
      subst z
      exact h.fun9 h2
/-- where a field lies: behind those of its Decl's parent -/
theorem LyP.at9 (hp4 : ∀ d p : Nat, K.1 d = 4 → K.2.2.1 10 d = some p → K.1 p = 4) : ∀ {f d n : Nat} {it : Nat → Nat}, K.1 d = 4 → LyP G K f d n it → ∀ i : Nat, i < n → ∃ (h np nf a : Nat) (ip jf : Nat → Nat), K.1 h = 4 ∧ LyR G K (K.2.2.1 10 h) np ip ∧ FlP G K h nf jf ∧ a < nf ∧ i = np + a ∧ it i = jf a
  | 0, _, _, _, _, h, _, _ => h.elim
  | f + 1, d, n, it, hd, h, i, hi => by
    obtain ⟨np, nf, ip, jf, a1, a2, a3, a4, a5⟩ := h
    have hr : LyR G K (K.2.2.1 10 d) np ip := by
      rcases a1 with a1 | ⟨p, a1, a6⟩
      · exact Or.inl a1
      · exact Or.inr ⟨p, f, a1, a6⟩
    by_cases z : i < np
    · rcases a1 with ⟨_, a1⟩ | ⟨p, a1, a6⟩
      · omega
      · obtain ⟨h, np2, nf2, b, ip2, jf2, c1, c2, c3, c4, c5, c6⟩ := LyP.at9 hp4 (hp4 d p hd a1) a6 i z
        exact ⟨h, np2, nf2, b, ip2, jf2, c1, c2, c3, c4, c5, (a4 i z).trans c6⟩
    · refine ⟨d, np, nf, i - np, ip, jf, hd, hr, a2, by omega, by omega, ?_⟩
      have z2 := a5 (i - np) (by omega)
      rw [show np + (i - np) = i by omega] at z2
      exact z2
/-- one place in all layouts -/
theorem LyP.pos (hp4 : ∀ d p : Nat, K.1 d = 4 → K.2.2.1 10 d = some p → K.1 p = 4) (hu : FuO G K) (hd : K.1 d = 4) (hd1 : K.1 d1 = 4) (h : LyP G K f1 d n1 i1) (h2 : LyP G K f2 d1 n2 i2) (hi : i < n1) (hj : j < n2) (e : i1 i = i2 j) : i = j := by
  obtain ⟨h1, np1, nf1, a, ip1, jf1, a1, a2, a3, a4, a5, a6⟩ := LyP.at9 hp4 hd h i hi
  obtain ⟨h3, np2, nf2, b, ip2, jf2, b1, b2, b3, b4, b5, b6⟩ := LyP.at9 hp4 hd1 h2 j hj
  obtain ⟨e1, e2⟩ := hu h1 h3 nf1 nf2 a b jf1 jf2 a1 b1 a3 b3 a4 b4 (a6.symm.trans (e.trans b6))
  subst e1
  have e3 := a2.fun9 b2
  omega
theorem LyC.start : LyC G K d0 (some d0) 0 il := fun n it jt h h1 _ => by
  rcases h with ⟨z, _⟩ | ⟨p, f, z, h⟩
  · cases z
  · have e : d0 = p := Option.some.inj z
    subst e
    exact ⟨f, h.cast h1⟩
theorem LyC.fin (h : LyC G K d0 none nl il) : ∃ f : Nat, LyP G K f d0 nl il := by
  obtain ⟨f, z⟩ := h 0 il il (Or.inl ⟨rfl, rfl⟩) (fun i hi => absurd hi (by omega)) (fun i _ => by rw [Nat.zero_add])
  rw [Nat.zero_add] at z
  exact ⟨f, z⟩
/-- one Decl's fields more -/
theorem LyC.up {nl1 : Nat} {il1 : Nat → Nat} (h : LyC G K d0 (some d) nl il) (hf : FlP G K d nf jf) (e : nl1 = nl + nf) (h1 : ∀ i : Nat, i < nf → il1 i = jf i) (h2 : ∀ i : Nat, i < nl → il1 (nf + i) = il i) (ho : K.2.2.1 10 d = o) : LyC G K d0 o nl1 il1 := fun n it jt hr a1 a2 => by
  have hp : LyR G K (some d) (n + nf) jt := by
    rcases hr with ⟨z, z2⟩ | ⟨p, f, z, z2⟩
    · exact Or.inr ⟨d, 1, rfl, n, nf, it, jf, Or.inl ⟨ho.trans z, z2⟩, hf, rfl, fun i hi => a1 i hi, fun i hi => (a2 i (by omega)).trans (h1 i hi)⟩
    · exact Or.inr ⟨d, f + 1, rfl, n, nf, it, jf, Or.inr ⟨p, ho.trans z, z2⟩, hf, rfl, fun i hi => a1 i hi, fun i hi => (a2 i (by omega)).trans (h1 i hi)⟩
  obtain ⟨f, z⟩ := h (n + nf) jt jt hp (fun _ _ => rfl) (fun i hi => by
    have y := a2 (nf + i) (by omega)
    rw [show n + (nf + i) = n + nf + i by omega] at y
    exact y.trans (h2 i hi))
  refine ⟨f, ?_⟩
  rw [show n + nl1 = n + nf + nl by omega]
  exact z
end GNA
