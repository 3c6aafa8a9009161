/-! what the parser knows of Decls and methods -/
def FlP (G : pT) (K : PK) (d n : Nat) (it : Nat → Nat) : Prop := ∃ lf cp : Nat, K.2.2.1 8 d = some lf ∧ LsC G K lf 1 n it cp
def MeI (G : pT) (K : PK) (d x : Nat) : Prop := ∃ (lm n cp a : Nat) (it : Nat → Nat), K.2.2.1 9 d = some lm ∧ LsC G K lm 3 n it cp ∧ a < n ∧ it a = x
def PmL (G : pT) (K : PK) (m np : Nat) (itp : Nat → Nat) : Prop := ∃ lp cp : Nat, K.2.2.1 6 m = some lp ∧ LsC G K lp 1 np itp cp
/-- fields are of one Decl -/
def FuO (G : pT) (K : PK) : Prop := ∀ (d1 d2 n1 n2 a b : Nat) (i1 i2 : Nat → Nat), K.1 d1 = 4 → K.1 d2 = 4 → FlP G K d1 n1 i1 → FlP G K d2 n2 i2 → a < n1 → b < n2 → i1 a = i2 b → d1 = d2 ∧ a = b
def BdQ (g : Nat → Nat → Nat) (b : Nat) : Prop := rD (g 2 b) ≤ 40 ∧ rS (g 2 b) + 2 ≤ rE (g 2 b)
/-- a method of d; om: the one whose body is not there yet -/
def MbZ (K : PK) (g : Nat → Nat → Nat) (nm : Nat) (it : Nat → Nat) (om : Option Nat) (d x : Nat) : Prop := K.2.2.1 5 x = some d ∧ (K.2.1 18 d = 0 → om = some x ∨ ((∃ b : Nat, K.2.2.1 7 x = some b) ∧ ∃ j : Nat, j < nm ∧ K.2.1 9 x = nI j ∧ it j = x)) ∧ ∀ b : Nat, K.2.2.1 7 x = some b → K.2.1 18 d = 0 ∧ BdQ g b
def PzK (G : pT) (K : PK) (g : Nat → Nat → Nat) (nm : Nat) (it : Nat → Nat) (om : Option Nat) : Prop :=
  (∀ (d n : Nat) (jt : Nat → Nat), K.1 d = 4 → FlP G K d n jt → ((¬ K.2.1 18 d = 0 ∨ 1 ≤ g 5 d) → n = 0) ∧ ∀ i : Nat, i < n → K.2.1 0 (jt i) = 36) ∧
  (∀ d x : Nat, K.1 d = 4 → MeI G K d x → g 5 d = 0 ∧ MbZ K g nm it om d x) ∧
  (∀ (m n : Nat) (jt : Nat → Nat), K.1 m = 3 → PmL G K m n jt → n ≤ 8) ∧
  (∀ j : Nat, j < nm → K.1 (it j) = 3 ∧ K.2.1 9 (it j) = nI j ∧ (om = some (it j) ∨ ∃ b : Nat, K.2.2.1 7 (it j) = some b) ∧ ∃ d : Nat, K.1 d = 4 ∧ MeI G K d (it j)) ∧ FuO G K
section EPZ
variable {G : pT} {K K1 : PK} {g g1 : Nat → Nat → Nat} {nm d d0 x f l n n0 es cp c0 c1 q m b : Nat} {it jt it0 : Nat → Nat} {om : Option Nat} {v : Int32}
theorem LsC.same9 {n2 cp2 : Nat} {it2 : Nat → Nat} (h : LsC G K q es n it cp) (h2 : LsC G K q es n2 it2 cp2) : n = n2 ∧ ∀ i : Nat, i < n → it i = it2 i := by
  have en : n = n2 := (nI_eq (by have := h.2.2.1; omega) (by have := h2.2.2.1; omega)).mp (h.2.1.symm.trans h2.2.1)
  subst en
  refine ⟨rfl, fun i hi => ?_⟩
  obtain ⟨e9, x1, _, _, _, x2, _⟩ := h.ls.at hi
  obtain ⟨e8, y1, _, _, _, y2, _⟩ := h2.ls.at hi
  have er : e9 = e8 := Option.some.inj (x1.symm.trans y1)
  subst er
  exact Option.some.inj (x2.symm.trans y2)
/-- where old things stay and no Decl is new: lists as they were -/
theorem Ls_back (hw : WPr G K g) (hT : ∀ p : Nat, ¬ K.1 p = 0 → K1.1 p = K.1 p) (hl : K.1 l = 5) (hs : Sm K K1 l) (hr : ∀ e : Nat, K.1 e = 6 → K.2.2.1 17 e = some l → Sm K K1 e) (he : es = esr (g 3 l)) (h : LsC G K1 l es n jt cp) : ∃ (cp0 : Nat) (jt0 : Nat → Nat), LsC G K l es n jt0 cp0 ∧ ∀ i : Nat, i < n → jt i = jt0 i := by
  obtain ⟨n9, i9, c9, z1, _⟩ := hw.2.1 l hl
  rw [← he] at z1
  have hes : ¬ es = 0 := by rw [he]; rcases esr_es (g 3 l) with w | w <;> rw [w] <;> decide
  have z2 := LsC.wx hT hes hs hr z1
  obtain ⟨e1, e2⟩ := h.same9 z2
  subst e1
  exact ⟨c9, i9, z1, e2⟩
theorem LsC.at9 (h : LsC G K q es n it cp) {i : Nat} (hi : i < n) : K.1 (it i) = es := by
  obtain ⟨e9, _, _, _, _, _, h6⟩ := h.ls.at hi
  exact h6
/-- nodes more, or a method that nobody has -/
theorem PzK.ext (h : PzK G K g nm it om) (hw : WPr G K g) (hx : ∀ p : Nat, ¬ K.1 p = 0 → Sm K K1 p ∧ ∀ i : Nat, g1 i p = g i p) (h4 : ∀ p : Nat, K1.1 p = 4 → K.1 p = 0 → (∀ (n : Nat) (jt : Nat → Nat), FlP G K1 p n jt → n = 0) ∧ ∀ x : Nat, ¬ MeI G K1 p x) (h3 : ∀ p : Nat, K1.1 p = 3 → K.1 p = 0 → ∀ (n : Nat) (jt : Nat → Nat), PmL G K1 p n jt → n ≤ 8) : PzK G K1 g1 nm it om := by
  obtain ⟨a1, a2, a3, a4, a5⟩ := h
  have hT : ∀ p : Nat, ¬ K.1 p = 0 → K1.1 p = K.1 p := fun p hp => (hx p hp).1.1
  have rw9 : ∀ l e : Nat, K.1 e = 6 → K.2.2.1 17 e = some l → Sm K K1 e := fun l e he _ => (hx e (by rw [he]; decide)).1
  have D4 : ∀ p : Nat, K1.1 p = 4 → ¬ K.1 p = 0 → K.1 p = 4 := fun p hp h0 => (hT p h0).symm.trans hp
  have hfl : ∀ (d n : Nat) (jt : Nat → Nat), K.1 d = 4 → FlP G K1 d n jt → ∃ jt0 : Nat → Nat, FlP G K d n jt0 ∧ ∀ i : Nat, i < n → jt i = jt0 i := fun d n jt hd hf => by
    obtain ⟨lf, cp, f1, f2⟩ := hf
    rw [(hx d (by rw [hd]; decide)).1.2.2.1 8] at f1
    obtain ⟨y, y1, y2, y3, _⟩ := (hw.2.2.1 d hd).1
    have e : y = lf := Option.some.inj (y1.symm.trans f1)
    subst e
    obtain ⟨c9, j9, z1, z2⟩ := Ls_back hw hT y2 (hx y (by rw [y2]; decide)).1 (rw9 y) (by rw [y3]; rfl) f2
    exact ⟨j9, ⟨y, c9, f1, z1⟩, z2⟩
  have hme : ∀ d x : Nat, K.1 d = 4 → MeI G K1 d x → MeI G K d x := fun d x hd hm => by
    obtain ⟨lm, n, cp, a, jt, f1, f2, f3, f4⟩ := hm
    rw [(hx d (by rw [hd]; decide)).1.2.2.1 9] at f1
    obtain ⟨y, y1, y2, y3, _⟩ := (hw.2.2.1 d hd).2.1
    have e : y = lm := Option.some.inj (y1.symm.trans f1)
    subst e
    obtain ⟨c9, j9, z1, z2⟩ := Ls_back hw hT y2 (hx y (by rw [y2]; decide)).1 (rw9 y) (by rw [y3]; rfl) f2
    exact ⟨y, n, c9, a, j9, f1, z1, f3, (z2 a f3).symm.trans f4⟩
  have hT3 : ∀ d x : Nat, MeI G K d x → K.1 x = 3 := fun d x hm => by
    obtain ⟨_, _, _, _, _, _, f2, f3, f4⟩ := hm
    rw [← f4]; exact f2.at9 f3
  refine ⟨fun d n jt hd hf => ?_, fun d x hd hm => ?_, fun m n jt hm hp => ?_, fun j hj => ?_, fun d1 d2 n1 n2 a b i1 i2 e1 e2 f1 f2 ha hb he => ?_⟩
  · by_cases z0 : K.1 d = 0
    · have e := (h4 d hd z0).1 n jt hf
      exact ⟨fun _ => e, fun i hi => absurd hi (by omega)⟩
    have hd0 := D4 d hd z0
    obtain ⟨j0, z1, z2⟩ := hfl d n jt hd0 hf
    obtain ⟨y1, y2⟩ := a1 d n j0 hd0 z1
    obtain ⟨s1, s2⟩ := hx d (by rw [hd0]; decide)
    rw [s1.2.1 18, s2 5]
    refine ⟨y1, fun i hi => ?_⟩
    obtain ⟨lf, cp, _, f2⟩ := z1
    rw [z2 i hi, (hx _ (by rw [f2.at9 hi]; decide)).1.2.1 0]
    exact y2 i hi
  · by_cases z0 : K.1 d = 0
    · exact absurd hm ((h4 d hd z0).2 x)
    have hd0 := D4 d hd z0
    have z1 := hme d x hd0 hm
    obtain ⟨y1, y2, y3, y4⟩ := a2 d x hd0 z1
    obtain ⟨s1, s2⟩ := hx d (by rw [hd0]; decide)
    have hx3 := hT3 d x z1
    obtain ⟨t1, _⟩ := hx x (by rw [hx3]; decide)
    refine ⟨(s2 5).trans y1, ?_⟩
    unfold MbZ
    rw [s1.2.1 18, t1.2.2.1 5, t1.2.2.1 7, t1.2.1 9]
    refine ⟨y2, y3, fun b hb => ⟨(y4 b hb).1, ?_⟩⟩
    have hb1 := ((hw.2.2.2 x hx3).2.2.1 b hb).1
    unfold BdQ
    rw [(hx b (by rw [hb1]; decide)).2 2]
    exact (y4 b hb).2
  · by_cases z : K.1 m = 0
    · exact h3 m hm z n jt hp
    · have hm0 : K.1 m = 3 := (hT m z).symm.trans hm
      obtain ⟨lp, cp, f1, f2⟩ := hp
      rw [(hx m z).1.2.2.1 6] at f1
      obtain ⟨y, y1, y2, y3, _⟩ := (hw.2.2.2 m hm0).1
      have e : y = lp := Option.some.inj (y1.symm.trans f1)
      subst e
      obtain ⟨c9, j9, z1, _⟩ := Ls_back hw hT y2 (hx y (by rw [y2]; decide)).1 (rw9 y) (by rw [y3]; rfl) f2
      exact a3 m n j9 hm0 ⟨y, c9, f1, z1⟩
  · obtain ⟨y1, y2, y3, d, y4, y5⟩ := a4 j hj
    obtain ⟨t1, _⟩ := hx (it j) (by rw [y1]; decide)
    refine ⟨t1.1.trans y1, (t1.2.1 9).trans y2, by rw [t1.2.2.1 7]; exact y3, d, (hT d (by rw [y4]; decide)).trans y4, ?_⟩
    obtain ⟨lm, n, cp, a, jt, f1, f2, f3, f4⟩ := y5
    exact ⟨lm, n, cp, a, jt, ((hx d (by rw [y4]; decide)).1.2.2.1 9).trans f1, LsC.wx hT (by decide) (hx lm (by rw [f2.1]; decide)).1 (rw9 lm) f2, f3, f4⟩
  · by_cases z1 : K.1 d1 = 0
    · have e := (h4 d1 e1 z1).1 n1 i1 f1
      omega
    by_cases z2 : K.1 d2 = 0
    · have e := (h4 d2 e2 z2).1 n2 i2 f2
      omega
    have e10 := D4 d1 e1 z1
    have e20 := D4 d2 e2 z2
    obtain ⟨j1, z1, z2⟩ := hfl d1 n1 i1 e10 f1
    obtain ⟨j2, w1, w2⟩ := hfl d2 n2 i2 e20 f2
    exact a5 d1 d2 n1 n2 a b j1 j2 e10 e20 z1 w1 ha hb (by rw [← z2 a ha, ← w2 b hb]; exact he)
theorem LsC.kIb (hf : ¬ 23 = f) (h : LsC G (kI K f q v) l es n jt cp) : LsC G K l es n jt cp := ⟨h.1, (kI_of hf).symm.trans h.2.1, h.2.2⟩
theorem LsC.kIf (hf : ¬ 23 = f) (h : LsC G K l es n jt cp) : LsC G (kI K f q v) l es n jt cp := ⟨h.1, (kI_of hf).trans h.2.1, h.2.2⟩
theorem PzK.kI (h : PzK G K g nm it om) (hf : ¬ 0 = f ∧ ¬ 9 = f ∧ ¬ 18 = f ∧ ¬ 23 = f) : PzK G (_root_.Jvm.Pilot.@@N@@.kI K f q v) g nm it om := by
  obtain ⟨a1, a2, a3, a4, a5⟩ := h
  have hfl : ∀ (d n : Nat) (jt : Nat → Nat), FlP G (_root_.Jvm.Pilot.@@N@@.kI K f q v) d n jt → FlP G K d n jt := fun d n jt z => by
    obtain ⟨lf, cp, f1, f2⟩ := z
    exact ⟨lf, cp, f1, f2.kIb hf.2.2.2⟩
  have hme : ∀ d x : Nat, MeI G (_root_.Jvm.Pilot.@@N@@.kI K f q v) d x → MeI G K d x := fun d x z => by
    obtain ⟨lm, n, cp, a, jt, f1, f2, f3⟩ := z
    exact ⟨lm, n, cp, a, jt, f1, f2.kIb hf.2.2.2, f3⟩
  have e0 : ∀ p : Nat, (_root_.Jvm.Pilot.@@N@@.kI K f q v).2.1 0 p = K.2.1 0 p := fun p => kI_of hf.1
  have e9 : ∀ p : Nat, (_root_.Jvm.Pilot.@@N@@.kI K f q v).2.1 9 p = K.2.1 9 p := fun p => kI_of hf.2.1
  have e18 : ∀ p : Nat, (_root_.Jvm.Pilot.@@N@@.kI K f q v).2.1 18 p = K.2.1 18 p := fun p => kI_of hf.2.2.1
  refine ⟨fun d n jt hd z => ?_, fun d x hd z => ?_, fun m n jt hm z => ?_, fun j hj => ?_, fun d1 d2 n1 n2 a b i1 i2 x1 x2 f1 f2 => a5 d1 d2 n1 n2 a b i1 i2 x1 x2 (hfl _ _ _ f1) (hfl _ _ _ f2)⟩
  · rw [e18]
    obtain ⟨y1, y2⟩ := a1 d n jt hd (hfl d n jt z)
    exact ⟨y1, fun i hi => (e0 _).trans (y2 i hi)⟩
  · obtain ⟨y1, y2⟩ := a2 d x hd (hme d x z)
    refine ⟨y1, ?_⟩
    unfold MbZ
    rw [e18, e9]
    exact y2
  · obtain ⟨lp, cp, f1, f2⟩ := z
    exact a3 m n jt hm ⟨lp, cp, f1, f2.kIb hf.2.2.2⟩
  · obtain ⟨y1, y2, y3, d, y4, lm, n, cp, a, jt, f1, f2, f3⟩ := a4 j hj
    exact ⟨y1, (e9 _).trans y2, y3, d, y4, lm, n, cp, a, jt, f1, f2.kIf hf.2.2.2, f3⟩
theorem WPr.r8 (hw : WPr G K g) (hd : K.1 d = 4) (h : K.2.2.1 8 d = some f) : g 3 f = 1 ∧ g 4 f = d ∧ K.1 f = 5 := by
  obtain ⟨y, y1, y2, y3, y4⟩ := (hw.2.2.1 d hd).1
  have e : y = f := Option.some.inj (y1.symm.trans h)
  subst e
  exact ⟨y3, y4, y2⟩
theorem WPr.r9 (hw : WPr G K g) (hd : K.1 d = 4) (h : K.2.2.1 9 d = some f) : g 3 f = 2 ∧ g 4 f = d ∧ K.1 f = 5 := by
  obtain ⟨y, y1, y2, y3, y4⟩ := (hw.2.2.1 d hd).2.1
  have e : y = f := Option.some.inj (y1.symm.trans h)
  subst e
  exact ⟨y3, y4, y2⟩
theorem WPr.r6 (hw : WPr G K g) (hm : K.1 m = 3) (h : K.2.2.1 6 m = some f) : g 3 f = 3 ∧ g 4 f = m ∧ K.1 f = 5 := by
  obtain ⟨y, y1, y2, y3, y4⟩ := (hw.2.2.2 m hm).1
  have e : y = f := Option.some.inj (y1.symm.trans h)
  subst e
  exact ⟨y3, y4, y2⟩
/-- a list that stays -/
theorem Ls_oth (hw : WPr G K g) (ha : AdQ K K1 f) (hf : K.1 f = 5) (hl : K.1 l = 5) (hlf : ¬ l = f) (he : es = esr (g 3 l)) (h : LsC G K1 l es n jt cp) : ∃ (cp0 : Nat) (jt0 : Nat → Nat), LsC G K l es n jt0 cp0 ∧ ∀ i : Nat, i < n → jt i = jt0 i :=
  Ls_back hw (fun p hp => (ha.1 p hp).1) hl (ha.sm (by rw [hl]; decide) hlf (by rw [hl]; decide)) (fun e h6 h17 => ha.2 e (by rw [h6]; decide) (fun w => by rw [w, hf] at h6; exact absurd h6 (by decide)) (fun w => hlf (Option.some.inj (h17.symm.trans w.2)))) he h
theorem Ls_fwd (ha : AdQ K K1 f) (hf : K.1 f = 5) (hlf : ¬ l = f) (he : ¬ es = 0) (h : LsC G K l es n jt cp) : LsC G K1 l es n jt cp :=
  LsC.wx (fun p hp => (ha.1 p hp).1) he (ha.sm (by rw [h.1]; decide) hlf (by rw [h.1]; decide)) (fun e h6 h17 => ha.2 e (by rw [h6]; decide) (fun w => by rw [w, hf] at h6; exact absurd h6 (by decide)) (fun w => hlf (Option.some.inj (h17.symm.trans w.2)))) h
/-- a list takes one more -/
theorem PzK.add {om1 : Option Nat} (h : PzK G K g nm it om) (hw : WPr G K g) (ha : AdQ K K1 f) (hn6 : N6 K K1) (hf : K.1 f = 5)
    (b1 : ∀ (d n : Nat) (jt : Nat → Nat), K.1 d = 4 → K.2.2.1 8 d = some f → FlP G K1 d n jt → ((¬ K.2.1 18 d = 0 ∨ 1 ≤ g 5 d) → n = 0) ∧ ∀ i : Nat, i < n → K.2.1 0 (jt i) = 36 ∧ K.1 (jt i) = 1)
    (b2 : ∀ d x : Nat, K.1 d = 4 → K.2.2.1 9 d = some f → MeI G K1 d x → K.1 x = 3 ∧ g 5 d = 0 ∧ MbZ K g nm it om1 d x) (b3 : ∀ (m n : Nat) (jt : Nat → Nat), K.1 m = 3 → K.2.2.1 6 m = some f → PmL G K1 m n jt → n ≤ 8)
    (b4 : ∀ d x : Nat, K.1 d = 4 → K.2.2.1 9 d = some f → MeI G K d x → MeI G K1 d x) (bo : ∀ y : Nat, om = some y → om1 = some y)
    (b5 : ∀ (d1 d2 n1 n2 a b : Nat) (i1 i2 : Nat → Nat), K.1 d1 = 4 → K.1 d2 = 4 → (K.2.2.1 8 d1 = some f ∨ K.2.2.1 8 d2 = some f) → FlP G K1 d1 n1 i1 → FlP G K1 d2 n2 i2 → a < n1 → b < n2 → i1 a = i2 b → d1 = d2 ∧ a = b) : PzK G K1 g nm it om1 := by
  obtain ⟨a1, a2, a3, a4, a5⟩ := h
  have old : ∀ {p s : Nat}, K1.1 p = s → ¬ s = 0 → ¬ s = 6 → K.1 p = s := fun hs h0 h6 => (hn6.old ha hs h0 h6).2
  have sm : ∀ {p s : Nat}, K.1 p = s → ¬ s = 0 → ¬ s = 5 → ¬ s = 6 → Sm K K1 p := fun {p s} hp h0 h5 h6 => ha.sm (by rw [hp]; exact h0) (fun e => by rw [e, hf] at hp; exact h5 hp.symm) (by rw [hp]; exact h6)
  have hfl : ∀ (d n : Nat) (jt : Nat → Nat), K.1 d = 4 → FlP G K1 d n jt → ¬ K.2.2.1 8 d = some f → ∃ jt0 : Nat → Nat, FlP G K d n jt0 ∧ ∀ i : Nat, i < n → jt i = jt0 i := fun d n jt hd hz hne => by
    obtain ⟨lf, cp, f1, f2⟩ := hz
    rw [(sm hd (by decide) (by decide) (by decide)).2.2.1 8] at f1
    obtain ⟨r1, r2, r3⟩ := hw.r8 hd f1
    obtain ⟨c9, j9, z1, z2⟩ := Ls_oth hw ha hf r3 (fun z => hne (by rw [← z]; exact f1)) (by rw [r1]; rfl) f2
    exact ⟨j9, ⟨lf, c9, f1, z1⟩, z2⟩
  have hme : ∀ d x : Nat, K.1 d = 4 → MeI G K1 d x → ¬ K.2.2.1 9 d = some f → MeI G K d x := fun d x hd hz hne => by
    obtain ⟨lm, n, cp, a, jt, f1, f2, f3, f4⟩ := hz
    rw [(sm hd (by decide) (by decide) (by decide)).2.2.1 9] at f1
    obtain ⟨r1, r2, r3⟩ := hw.r9 hd f1
    obtain ⟨c9, j9, z1, z2⟩ := Ls_oth hw ha hf r3 (fun z => hne (by rw [← z]; exact f1)) (by rw [r1]; rfl) f2
    exact ⟨lm, n, c9, a, j9, f1, z1, f3, (z2 a f3).symm.trans f4⟩
  have mbz : ∀ {d x : Nat}, K.1 d = 4 → K.1 x = 3 → MbZ K g nm it om1 d x → MbZ K1 g nm it om1 d x := fun {d x} hd hx z => by
    have s1 := sm hd (by decide) (by decide) (by decide)
    have s2 := sm hx (by decide) (by decide) (by decide)
    unfold MbZ
    rw [s1.2.1 18, s2.2.2.1 5, s2.2.2.1 7, s2.2.1 9]
    exact z
  refine ⟨fun d n jt hd hz => ?_, fun d x hd hz => ?_, fun m n jt hm hz => ?_, fun j hj => ?_, fun d1 d2 n1 n2 a b i1 i2 e1 e2 f1 f2 ha9 hb9 he9 => ?_⟩
  · have hd0 := old hd (by decide) (by decide)
    rw [(sm hd0 (by decide) (by decide) (by decide)).2.1 18]
    by_cases e : K.2.2.1 8 d = some f
    · obtain ⟨y1, y2⟩ := b1 d n jt hd0 e hz
      exact ⟨y1, fun i hi => ((sm (y2 i hi).2 (by decide) (by decide) (by decide)).2.1 0).trans (y2 i hi).1⟩
    · obtain ⟨j0, z1, z2⟩ := hfl d n jt hd0 hz e
      obtain ⟨y1, y2⟩ := a1 d n j0 hd0 z1
      refine ⟨y1, fun i hi => ?_⟩
      obtain ⟨lf, cp, _, f2⟩ := z1
      rw [z2 i hi, (sm (f2.at9 hi) (by decide) (by decide) (by decide)).2.1 0]
      exact y2 i hi
  · have hd0 := old hd (by decide) (by decide)
    by_cases e : K.2.2.1 9 d = some f
    · obtain ⟨y0, y1, y2⟩ := b2 d x hd0 e hz
      exact ⟨y1, mbz hd0 y0 y2⟩
    · have z1 := hme d x hd0 hz e
      obtain ⟨y1, y2, y3, y4⟩ := a2 d x hd0 z1
      have hx3 : K.1 x = 3 := by
        obtain ⟨_, _, _, _, _, _, f2, f3, f4⟩ := z1
        rw [← f4]; exact f2.at9 f3
      exact ⟨y1, mbz hd0 hx3 ⟨y2, fun w => (y3 w).imp (bo x) id, y4⟩⟩
  · have hm0 := old hm (by decide) (by decide)
    by_cases e : K.2.2.1 6 m = some f
    · exact b3 m n jt hm0 e hz
    · obtain ⟨lp, cp, f1, f2⟩ := hz
      rw [(sm hm0 (by decide) (by decide) (by decide)).2.2.1 6] at f1
      obtain ⟨r1, r2, r3⟩ := hw.r6 hm0 f1
      obtain ⟨c9, j9, z1, _⟩ := Ls_oth hw ha hf r3 (fun z => e (by rw [← z]; exact f1)) (by rw [r1]; rfl) f2
      exact a3 m n j9 hm0 ⟨lp, c9, f1, z1⟩
  · obtain ⟨y1, y2, y3, d, y4, y5⟩ := a4 j hj
    have s1 := sm y1 (by decide) (by decide) (by decide)
    refine ⟨s1.1.trans y1, (s1.2.1 9).trans y2, ?_, d, (ha.1 d (by rw [y4]; decide)).1.trans y4, ?_⟩
    · rw [s1.2.2.1 7]
      exact y3.imp (bo _) id
    · by_cases e : K.2.2.1 9 d = some f
      · exact b4 d _ y4 e y5
      · obtain ⟨lm, n, cp, a, jt, f1, f2, f3⟩ := y5
        exact ⟨lm, n, cp, a, jt, ((sm y4 (by decide) (by decide) (by decide)).2.2.1 9).trans f1, Ls_fwd ha hf (fun z => e (by rw [← z]; exact f1)) (by decide) f2, f3⟩
  · have e10 := old e1 (by decide) (by decide)
    have e20 := old e2 (by decide) (by decide)
    by_cases e : K.2.2.1 8 d1 = some f ∨ K.2.2.1 8 d2 = some f
    · exact b5 d1 d2 n1 n2 a b i1 i2 e10 e20 e f1 f2 ha9 hb9 he9
    · obtain ⟨j1, z1, z2⟩ := hfl d1 n1 i1 e10 f1 (fun z => e (Or.inl z))
      obtain ⟨j2, w1, w2⟩ := hfl d2 n2 i2 e20 f2 (fun z => e (Or.inr z))
      exact a5 d1 d2 n1 n2 a b j1 j2 e10 e20 z1 w1 ha9 hb9 (by rw [← z2 a ha9, ← w2 b hb9]; exact he9)
theorem upQ_lt {i : Nat} (hi : i < n) : upQ it n x i = it i := if_neg (by omega)
theorem upQ_eq : upQ it n x n = x := if_pos rfl
/-- a field more -/
theorem PzK.addF (h : PzK G K g nm it om) (hw : WPr G K g) (ha : AdQ K K1 f) (hn6 : N6 K K1) (hd : K.1 d0 = 4) (h8 : K.2.2.1 8 d0 = some f) (hl : LsC G K f 1 n0 it0 c0) (hl1 : LsC G K1 f 1 (n0 + 1) (upQ it0 n0 x) c1) (hx : K.1 x = 1) (hk : K.2.1 0 x = 36) (h18 : K.2.1 18 d0 = 0) (hg : g 5 d0 = 0) (hfr : ∀ (d n i : Nat) (jt : Nat → Nat), K.1 d = 4 → FlP G K d n jt → i < n → ¬ jt i = x) : PzK G K1 g nm it om := by
  obtain ⟨r1, r2, r3⟩ := hw.r8 hd h8
  have own : ∀ d : Nat, K.1 d = 4 → K.2.2.1 8 d = some f → d = d0 := fun d h1 h2 => (hw.r8 h1 h2).2.1.symm.trans r2
  have smd : ∀ {p : Nat}, K.1 p = 4 → Sm K K1 p := fun {p} hp => ha.sm (by rw [hp]; decide) (fun e => by rw [e, r3] at hp; exact absurd hp (by decide)) (by rw [hp]; decide)
  have lst : ∀ (n : Nat) (jt : Nat → Nat), FlP G K1 d0 n jt → n = n0 + 1 ∧ ∀ i : Nat, i < n → jt i = upQ it0 n0 x i := fun n jt z => by
    obtain ⟨lf, cp, f1, f2⟩ := z
    rw [(smd hd).2.2.1 8] at f1
    have e : f = lf := Option.some.inj (h8.symm.trans f1)
    subst e
    exact f2.same9 hl1
  have hfl0 : FlP G K d0 n0 it0 := ⟨f, c0, h8, hl⟩
  have nof : ∀ (d n : Nat) (jt : Nat → Nat), K.1 d = 4 → ¬ d = d0 → FlP G K1 d n jt → ∃ jt0 : Nat → Nat, FlP G K d n jt0 ∧ ∀ i : Nat, i < n → jt i = jt0 i := fun d n jt h1 h2 z => by
    obtain ⟨lf, cp, f1, f2⟩ := z
    rw [(smd h1).2.2.1 8] at f1
    obtain ⟨q1, q2, q3⟩ := hw.r8 h1 f1
    obtain ⟨c9, j9, z1, z2⟩ := Ls_oth hw ha r3 q3 (fun z => h2 (own d h1 (by rw [← z]; exact f1))) (by rw [q1]; rfl) f2
    exact ⟨j9, ⟨lf, c9, f1, z1⟩, z2⟩
  refine PzK.add h hw ha hn6 r3 (fun d n jt h1 h2 z => ?_) (fun d y h1 h2 _ => ?_) (fun m n jt h1 h2 _ => ?_) (fun d y h1 h2 _ => ?_) (fun _ z => z) (fun d1 d2 n1 n2 a b i1 i2 e1 e2 hh f1 f2 ha9 hb9 he9 => ?_)
  · have ed := own d h1 h2
    subst ed
    obtain ⟨en, ei⟩ := lst n jt z
    refine ⟨fun w => ?_, fun i hi => ?_⟩
    · rcases w with w | w
      · exact absurd h18 w
      · omega
    · rw [ei i hi]
      by_cases e : i = n0
      · subst e; rw [upQ_eq]; exact ⟨hk, hx⟩
      · rw [upQ_lt (by omega)]
        exact ⟨(h.1 d n0 it0 hd hfl0).2 i (by omega), hl.at9 (by omega)⟩
  · have z := (hw.r9 h1 h2).1
    rw [r1] at z; exact absurd z (by decide)
  · have z := (hw.r6 h1 h2).1
    rw [r1] at z; exact absurd z (by decide)
  · have z := (hw.r9 h1 h2).1
    rw [r1] at z; exact absurd z (by decide)
  · by_cases q1 : d1 = d0
    · by_cases q2 : d2 = d0
      · subst q1
        subst q2
        obtain ⟨u1, u2⟩ := lst n1 i1 f1
        obtain ⟨v1, v2⟩ := lst n2 i2 f2
        rw [u2 a ha9, v2 b hb9] at he9
        refine ⟨rfl, ?_⟩
        by_cases w1 : a = n0
        · by_cases w2 : b = n0
          · omega
          · rw [w1, upQ_eq, upQ_lt (by omega)] at he9
            exact absurd he9.symm (hfr d2 n0 b it0 hd hfl0 (by omega))
        · by_cases w2 : b = n0
          · rw [w2, upQ_eq, upQ_lt (by omega)] at he9
            exact absurd he9 (hfr d2 n0 a it0 hd hfl0 (by omega))
          · rw [upQ_lt (by omega), upQ_lt (by omega)] at he9
            exact (h.2.2.2.2 d2 d2 n0 n0 a b it0 it0 hd hd hfl0 hfl0 (by omega) (by omega) he9).2
      · subst q1
        obtain ⟨u1, u2⟩ := lst n1 i1 f1
        obtain ⟨j2, v1, v2⟩ := nof d2 n2 i2 e2 q2 f2
        rw [u2 a ha9, v2 b hb9] at he9
        by_cases w1 : a = n0
        · rw [w1, upQ_eq] at he9
          exact absurd he9.symm (hfr d2 n2 b j2 e2 v1 hb9)
        · rw [upQ_lt (by omega)] at he9
          have z := h.2.2.2.2 d1 d2 n0 n2 a b it0 j2 hd e2 hfl0 v1 (by omega) hb9 he9
          exact absurd z.1.symm q2
    · have q2 : d2 = d0 := by
        rcases hh with w | w
        · exact absurd (own d1 e1 w) q1
        · exact own d2 e2 w
      subst q2
      obtain ⟨u1, u2⟩ := lst n2 i2 f2
      obtain ⟨j1, v1, v2⟩ := nof d1 n1 i1 e1 q1 f1
      rw [u2 b hb9, v2 a ha9] at he9
      by_cases w1 : b = n0
      · rw [w1, upQ_eq] at he9
        exact absurd he9 (hfr d1 n1 a j1 e1 v1 ha9)
      · rw [upQ_lt (by omega)] at he9
        have z := h.2.2.2.2 d1 d2 n1 n0 a b j1 it0 e1 hd v1 hfl0 ha9 (by omega) he9
        exact absurd z.1 q1
/-- a list of another role: fields stay apart -/
theorem Fu_oth (hw : WPr G K g) (hr : ¬ g 3 f = 1) : ∀ (d1 d2 n1 n2 a b : Nat) (i1 i2 : Nat → Nat), K.1 d1 = 4 → K.1 d2 = 4 → (K.2.2.1 8 d1 = some f ∨ K.2.2.1 8 d2 = some f) → FlP G K1 d1 n1 i1 → FlP G K1 d2 n2 i2 → a < n1 → b < n2 → i1 a = i2 b → d1 = d2 ∧ a = b := fun d1 d2 n1 n2 a b i1 i2 e1 e2 hh _ _ _ _ _ => by
  rcases hh with w | w
  · exact absurd (hw.r8 e1 w).1 hr
  · exact absurd (hw.r8 e2 w).1 hr
/-- a method more -/
theorem PzK.addM (h : PzK G K g nm it none) (hw : WPr G K g) (ha : AdQ K K1 f) (hn6 : N6 K K1) (hd : K.1 d0 = 4) (h9 : K.2.2.1 9 d0 = some f) (hl : LsC G K f 3 n0 it0 c0) (hl1 : LsC G K1 f 3 (n0 + 1) (upQ it0 n0 x) c1) (hx : K.1 x = 3) (h5 : K.2.2.1 5 x = some d0) (h7 : K.2.2.1 7 x = none) (hg : g 5 d0 = 0) (ho : K.2.1 18 d0 = 0 → om = some x) : PzK G K1 g nm it om ∧ MeI G K1 d0 x := by
  obtain ⟨r1, r2, r3⟩ := hw.r9 hd h9
  have own : ∀ d : Nat, K.1 d = 4 → K.2.2.1 9 d = some f → d = d0 := fun d h1 h2 => (hw.r9 h1 h2).2.1.symm.trans r2
  have smd : ∀ {p : Nat}, K.1 p = 4 → Sm K K1 p := fun {p} hp => ha.sm (by rw [hp]; decide) (fun e => by rw [e, r3] at hp; exact absurd hp (by decide)) (by rw [hp]; decide)
  refine ⟨PzK.add h hw ha hn6 r3 (fun d n jt h1 h2 _ => ?_) (fun d y h1 h2 z => ?_) (fun m n jt h1 h2 _ => ?_) (fun d y h1 h2 z => ?_) (fun _ z => by cases z) (Fu_oth hw (by rw [r1]; decide)), f, n0 + 1, c1, n0, upQ it0 n0 x, ((smd hd).2.2.1 9).trans h9, hl1, by omega, upQ_eq⟩
  · have z := (hw.r8 h1 h2).1
    rw [r1] at z; exact absurd z (by decide)
  · have ed := own d h1 h2
    subst ed
    obtain ⟨lm, n, cp, a, jt, f1, f2, f3, f4⟩ := z
    rw [(smd hd).2.2.1 9] at f1
    have e : f = lm := Option.some.inj (h9.symm.trans f1)
    subst e
    obtain ⟨en, ei⟩ := f2.same9 hl1
    rw [ei a f3] at f4
    by_cases e : a = n0
    · rw [e, upQ_eq] at f4
      subst f4
      exact ⟨hx, hg, h5, fun w => Or.inl (ho w), fun b hb => by rw [h7] at hb; cases hb⟩
    · rw [upQ_lt (by omega)] at f4
      have hm : MeI G K d y := ⟨f, n0, c0, a, it0, h9, hl, by omega, f4⟩
      obtain ⟨y1, y2, y3, y4⟩ := h.2.1 d y hd hm
      exact ⟨by rw [← f4]; exact hl.at9 (by omega), y1, y2, fun w => (y3 w).elim (fun z => by cases z) Or.inr, y4⟩
  · have z := (hw.r6 h1 h2).1
    rw [r1] at z; exact absurd z (by decide)
  · have ed := own d h1 h2
    subst ed
    obtain ⟨lm, n, cp, a, jt, f1, f2, f3, f4⟩ := z
    have e : f = lm := Option.some.inj (h9.symm.trans f1)
    subst e
    obtain ⟨en, ei⟩ := f2.same9 hl
    refine ⟨f, n0 + 1, c1, a, upQ it0 n0 x, ((smd hd).2.2.1 9).trans h9, hl1, by omega, ?_⟩
    rw [upQ_lt (by omega), ← ei a f3]; exact f4
/-- a parameter more -/
theorem PzK.addP (h : PzK G K g nm it om) (hw : WPr G K g) (ha : AdQ K K1 f) (hn6 : N6 K K1) (hm : K.1 m = 3) (h6 : K.2.2.1 6 m = some f) (hl1 : LsC G K1 f 1 (n0 + 1) jt c1) (hn : n0 + 1 ≤ 8) : PzK G K1 g nm it om := by
  obtain ⟨r1, r2, r3⟩ := hw.r6 hm h6
  refine PzK.add h hw ha hn6 r3 (fun d n jt h1 h2 _ => ?_) (fun d y h1 h2 _ => ?_) (fun m2 n j2 h1 h2 z => ?_) (fun d y h1 h2 _ => ?_) (fun _ z => z) (Fu_oth hw (by rw [r1]; decide))
  · have z := (hw.r8 h1 h2).1
    rw [r1] at z; exact absurd z (by decide)
  · have z := (hw.r9 h1 h2).1
    rw [r1] at z; exact absurd z (by decide)
  · obtain ⟨lp, cp, f1, f2⟩ := z
    have s := ha.sm (p := m2) (by rw [h1]; decide) (fun e => by rw [e, r3] at h1; exact absurd h1 (by decide)) (by rw [h1]; decide)
    rw [s.2.2.1 6] at f1
    have e : f = lp := Option.some.inj (h2.symm.trans f1)
    subst e
    have en := (f2.same9 hl1).1
    omega
  · have z := (hw.r9 h1 h2).1
    rw [r1] at z; exact absurd z (by decide)
/-- it gets a number -/
theorem PzK.addN (h : PzK G K g nm it (some q)) (hw : WPr G (_root_.Jvm.Pilot.@@N@@.kI K 9 q (nI nm)) g) (ha : AdQ (_root_.Jvm.Pilot.@@N@@.kI K 9 q (nI nm)) K1 f) (hn6 : N6 (_root_.Jvm.Pilot.@@N@@.kI K 9 q (nI nm)) K1) (hf : K.1 f = 5) (hr : g 3 f = 6) (hq : K.1 q = 3) (h9 : K.2.1 9 q = -1) (hm : K.1 d0 = 4 ∧ MeI G K d0 q) (hn : nm < 2147483648) : PzK G K1 g (nm + 1) (upQ it nm q) (some q) := by
  have hb : PzK G (_root_.Jvm.Pilot.@@N@@.kI K 9 q (nI nm)) g (nm + 1) (upQ it nm q) (some q) := by
    obtain ⟨a1, a2, a3, a4, a5⟩ := h
    have hfl : ∀ (d n : Nat) (jt : Nat → Nat), FlP G (_root_.Jvm.Pilot.@@N@@.kI K 9 q (nI nm)) d n jt → FlP G K d n jt := fun d n jt z => by
      obtain ⟨lf, cp, f1, f2⟩ := z
      exact ⟨lf, cp, f1, f2.kIb (by decide)⟩
    have hme : ∀ d x : Nat, MeI G (_root_.Jvm.Pilot.@@N@@.kI K 9 q (nI nm)) d x → MeI G K d x := fun d x z => by
      obtain ⟨lm, n, cp, a, jt, f1, f2, f3⟩ := z
      exact ⟨lm, n, cp, a, jt, f1, f2.kIb (by decide), f3⟩
    have mef : ∀ d x : Nat, MeI G K d x → MeI G (_root_.Jvm.Pilot.@@N@@.kI K 9 q (nI nm)) d x := fun d x z => by
      obtain ⟨lm, n, cp, a, jt, f1, f2, f3⟩ := z
      exact ⟨lm, n, cp, a, jt, f1, f2.kIf (by decide), f3⟩
    have e0 : ∀ p : Nat, (_root_.Jvm.Pilot.@@N@@.kI K 9 q (nI nm)).2.1 0 p = K.2.1 0 p := fun p => kI_of (by decide)
    have e18 : ∀ p : Nat, (_root_.Jvm.Pilot.@@N@@.kI K 9 q (nI nm)).2.1 18 p = K.2.1 18 p := fun p => kI_of (by decide)
    refine ⟨fun d n jt hd z => ?_, fun d x hd z => ?_, fun m n jt hm z => ?_, fun j hj => ?_, fun d1 d2 n1 n2 a b i1 i2 x1 x2 f1 f2 => a5 d1 d2 n1 n2 a b i1 i2 x1 x2 (hfl _ _ _ f1) (hfl _ _ _ f2)⟩
    · rw [e18]
      obtain ⟨y1, y2⟩ := a1 d n jt hd (hfl d n jt z)
      exact ⟨y1, fun i hi => (e0 _).trans (y2 i hi)⟩
    · obtain ⟨y1, y2, y3, y4⟩ := a2 d x hd (hme d x z)
      refine ⟨y1, y2, fun w => ?_, fun b hb => ?_⟩
      · rw [e18] at w
        by_cases e : x = q
        · exact Or.inl (by rw [e])
        · rcases y3 w with w2 | ⟨w2, j, j1, j2, j3⟩
          · exact absurd (Option.some.inj w2).symm e
          · exact Or.inr ⟨w2, j, by omega, (kI_ne e).trans j2, by rw [upQ_lt j1]; exact j3⟩
      · rw [e18]; exact y4 b hb
    · obtain ⟨lp, cp, f1, f2⟩ := z
      exact a3 m n jt hm ⟨lp, cp, f1, f2.kIb (by decide)⟩
    · by_cases e : j = nm
      · subst e
        rw [upQ_eq]
        exact ⟨hq, kI_eq, Or.inl rfl, d0, hm.1, mef d0 q hm.2⟩
      · rw [upQ_lt (by omega)]
        obtain ⟨y1, y2, y3, d, y4, y5⟩ := a4 j (by omega)
        have hne : ¬ it j = q := fun z => by
          rw [z, h9] at y2
          exact nI_m1 (by omega) y2.symm
        exact ⟨y1, (kI_ne hne).trans y2, y3, d, y4, mef d _ y5⟩
  refine PzK.add hb hw ha hn6 hf (fun d n jt h1 h2 _ => ?_) (fun d y h1 h2 _ => ?_) (fun m2 n j2 h1 h2 z => ?_) (fun d y h1 h2 _ => ?_) (fun _ z => z) (Fu_oth hw (by rw [hr]; decide))
  · have z := (hw.r8 h1 h2).1
    rw [hr] at z; exact absurd z (by decide)
  · have z := (hw.r9 h1 h2).1
    rw [hr] at z; exact absurd z (by decide)
  · have z := (hw.r6 h1 h2).1
    rw [hr] at z; exact absurd z (by decide)
  · have z := (hw.r9 h1 h2).1
    rw [hr] at z; exact absurd z (by decide)
/-- its body -/
theorem PzK.body (h : PzK G K g nm it (some q)) (hj : ∃ j : Nat, j < nm ∧ K.2.1 9 q = nI j ∧ it j = q) (h18 : ∀ d : Nat, K.1 d = 4 → MeI G K d q → K.2.1 18 d = 0) (hb : BdQ g b) : PzK G (kC K 7 q (some b)) g nm it none := by
  obtain ⟨a1, a2, a3, a4, a5⟩ := h
  have hls : ∀ {l es n cp : Nat} {jt : Nat → Nat}, LsC G (kC K 7 q (some b)) l es n jt cp ↔ LsC G K l es n jt cp := fun {l es n cp jt} => by
    unfold LsC
    rw [show (kC K 7 q (some b)).2.2.1 13 l = K.2.2.1 13 l from kC_of (by decide)]
    constructor
    · rintro ⟨z1, z2, z3, z4⟩
      refine ⟨z1, z2, z3, ?_⟩
      rcases z4 with z4 | ⟨e9, y1, y2, y3, y4⟩
      · exact Or.inl z4
      · exact Or.inr ⟨e9, y1, y2, (kC_of (by decide)).symm.trans y3, y4⟩
    · rintro ⟨z1, z2, z3, z4⟩
      refine ⟨z1, z2, z3, ?_⟩
      rcases z4 with z4 | ⟨e9, y1, y2, y3, y4⟩
      · exact Or.inl z4
      · exact Or.inr ⟨e9, y1, y2, (kC_of (by decide)).trans y3, y4⟩
  have hfl : ∀ (d n : Nat) (jt : Nat → Nat), FlP G (kC K 7 q (some b)) d n jt → FlP G K d n jt := fun d n jt z => by
    obtain ⟨lf, cp, f1, f2⟩ := z
    exact ⟨lf, cp, (kC_of (by decide)).symm.trans f1, hls.mp f2⟩
  have hme : ∀ d x : Nat, MeI G (kC K 7 q (some b)) d x → MeI G K d x := fun d x z => by
    obtain ⟨lm, n, cp, a, jt, f1, f2, f3⟩ := z
    exact ⟨lm, n, cp, a, jt, (kC_of (by decide)).symm.trans f1, hls.mp f2, f3⟩
  refine ⟨fun d n jt hd z => a1 d n jt hd (hfl d n jt z), fun d x hd z => ?_, fun m n jt hm z => ?_, fun j hj2 => ?_, fun d1 d2 n1 n2 a b i1 i2 x1 x2 f1 f2 => a5 d1 d2 n1 n2 a b i1 i2 x1 x2 (hfl _ _ _ f1) (hfl _ _ _ f2)⟩
  · have z1 := hme d x z
    obtain ⟨y1, y2, y3, y4⟩ := a2 d x hd z1
    refine ⟨y1, (kC_of (by decide)).trans y2, fun w => Or.inr ?_, fun b2 hb2 => ?_⟩
    · by_cases e : x = q
      · rw [e]; exact ⟨⟨b, kC_eq⟩, hj⟩
      · rcases y3 w with w2 | ⟨⟨b2, w2⟩, w3⟩
        · exact absurd (Option.some.inj w2).symm e
        · exact ⟨⟨b2, (kC_ne e).trans w2⟩, w3⟩
    · by_cases e : x = q
      · rw [e] at hb2 z1
        rw [kC_eq] at hb2
        cases hb2
        exact ⟨h18 d hd z1, hb⟩
      · rw [kC_ne e] at hb2
        exact y4 b2 hb2
  · obtain ⟨lp, cp, f1, f2⟩ := z
    exact a3 m n jt hm ⟨lp, cp, (kC_of (by decide)).symm.trans f1, hls.mp f2⟩
  · obtain ⟨y1, y2, y3, d, y4, lm, n, cp, a, jt, f1, f2, f3⟩ := a4 j hj2
    refine ⟨y1, y2, Or.inr ?_, d, y4, lm, n, cp, a, jt, (kC_of (by decide)).trans f1, hls.mpr f2, f3⟩
    by_cases e : it j = q
    · rw [e]; exact ⟨b, kC_eq⟩
    · rcases y3 with w | ⟨b2, w⟩
      · exact absurd (Option.some.inj w).symm e
      · exact ⟨b2, (kC_ne e).trans w⟩
/-- a Decl more: its lists are empty -/
theorem PzK.push (h : PzK G K g nm it om) (hw : WPr G K g) (hx : ∀ p : Nat, ¬ K.1 p = 0 → Sm K K1 p ∧ ∀ i : Nat, g1 i p = g i p) (hn : ∀ p : Nat, K.1 p = 0 → K1.1 p = 0 ∨ p = q ∨ K1.1 p = 5) (hq : K1.1 q = 4) (h8 : K1.2.2.1 8 q = some x ∧ K1.2.1 23 x = 0) (h9 : K1.2.2.1 9 q = some l ∧ K1.2.1 23 l = 0) : PzK G K1 g1 nm it om := by
  refine PzK.ext h hw hx (fun p hp h0 => ?_) (fun p hp h0 => ?_)
  · have e : p = q := by
      rcases hn p h0 with w | w | w
      · rw [hp] at w; exact absurd w (by decide)
      · exact w
      · rw [hp] at w; exact absurd w (by decide)
    subst e
    have nz : ∀ (l es n cp : Nat) (jt : Nat → Nat), K1.2.1 23 l = 0 → LsC G K1 l es n jt cp → n = 0 := fun l es n cp jt w1 w2 => (nI_eq (by have := w2.2.2.1; omega) (by decide)).mp (w2.2.1.symm.trans w1)
    refine ⟨fun n jt z => ?_, fun y z => ?_⟩
    · obtain ⟨lf, cp, f1, f2⟩ := z
      have e : x = lf := Option.some.inj (h8.1.symm.trans f1)
      subst e
      exact nz _ _ _ _ _ h8.2 f2
    · obtain ⟨lm, n, cp, a, jt, f1, f2, f3, _⟩ := z
      have e : l = lm := Option.some.inj (h9.1.symm.trans f1)
      subst e
      have := nz _ _ _ _ _ h9.2 f2
      omega
  · rcases hn p h0 with w | w | w
    · rw [hp] at w; exact absurd w (by decide)
    · rw [w, hq] at hp; exact absurd hp (by decide)
    · rw [hp] at w; exact absurd w (by decide)
theorem LsC.kE9 {dr : Nat} {F : Nat → Option Nat} (hdr : K.1 dr = 8) : LsC G (kE K dr F) l es n jt cp ↔ LsC G K l es n jt cp := by
  have e : ∀ p : Nat, K.1 p = 6 → (kE K dr F).2.2.2.2.1 p = K.2.2.2.2.1 p := fun p hp => if_neg (fun z => by rw [z, hdr] at hp; exact absurd hp (by decide))
  constructor
  · rintro ⟨z1, z2, z3, z4⟩
    refine ⟨z1, z2, z3, ?_⟩
    rcases z4 with z4 | ⟨e9, y1, y2, y3, y4, y5, y6, y7, y8⟩
    · exact Or.inl z4
    · refine Or.inr ⟨e9, y1, y2, y3, y4, y5, y6, y7, fun i hi => ?_⟩
      have w := y8 i hi
      rw [e e9 y2] at w
      exact w
  · rintro ⟨z1, z2, z3, z4⟩
    refine ⟨z1, z2, z3, ?_⟩
    rcases z4 with z4 | ⟨e9, y1, y2, y3, y4, y5, y6, y7, y8⟩
    · exact Or.inl z4
    · refine Or.inr ⟨e9, y1, y2, y3, y4, y5, y6, y7, fun i hi => ?_⟩
      rw [e e9 y2]
      exact y8 i hi
theorem PzK.kE {dr : Nat} {F : Nat → Option Nat} (h : PzK G K g nm it om) (hdr : K.1 dr = 8) : PzK G (_root_.Jvm.Pilot.@@N@@.kE K dr F) g nm it om := by
  obtain ⟨a1, a2, a3, a4, a5⟩ := h
  have hfl : ∀ (d n : Nat) (jt : Nat → Nat), FlP G (_root_.Jvm.Pilot.@@N@@.kE K dr F) d n jt → FlP G K d n jt := fun d n jt z => by
    obtain ⟨lf, cp, f1, f2⟩ := z
    exact ⟨lf, cp, f1, (LsC.kE9 hdr).mp f2⟩
  have hme : ∀ d x : Nat, MeI G (_root_.Jvm.Pilot.@@N@@.kE K dr F) d x → MeI G K d x := fun d x z => by
    obtain ⟨lm, n, cp, a, jt, f1, f2, f3⟩ := z
    exact ⟨lm, n, cp, a, jt, f1, (LsC.kE9 hdr).mp f2, f3⟩
  refine ⟨fun d n jt hd z => a1 d n jt hd (hfl d n jt z), fun d x hd z => a2 d x hd (hme d x z), fun m n jt hm z => ?_, fun j hj => ?_, fun d1 d2 n1 n2 a b i1 i2 x1 x2 f1 f2 => a5 d1 d2 n1 n2 a b i1 i2 x1 x2 (hfl _ _ _ f1) (hfl _ _ _ f2)⟩
  · obtain ⟨lp, cp, f1, f2⟩ := z
    exact a3 m n jt hm ⟨lp, cp, f1, (LsC.kE9 hdr).mp f2⟩
  · obtain ⟨y1, y2, y3, d, y4, lm, n, cp, a, jt, f1, f2, f3⟩ := a4 j hj
    exact ⟨y1, y2, y3, d, y4, lm, n, cp, a, jt, f1, (LsC.kE9 hdr).mpr f2, f3⟩
/-- nothing is there yet -/
theorem PzK.nil (h4 : ∀ p : Nat, ¬ K.1 p = 4) (h3 : ∀ p : Nat, ¬ K.1 p = 3) : PzK G K g 0 it none := ⟨fun d _ _ hd => absurd hd (h4 d), fun d _ hd => absurd hd (h4 d), fun m _ _ hm => absurd hm (h3 m), fun j hj => absurd hj (by omega), fun d1 _ _ _ _ _ _ _ h1 => absurd h1 (h4 d1)⟩
theorem NewN.h4 {g9 : Nat → Nat → Nat} (hn : ∀ p : Nat, K.1 p = 0 → ¬ K1.1 p = 0 → K1.1 p = 1) : (∀ p : Nat, K1.1 p = 4 → K.1 p = 0 → (∀ (n : Nat) (jt : Nat → Nat), FlP G K1 p n jt → n = 0) ∧ ∀ x : Nat, ¬ MeI G K1 p x) ∧ ∀ p : Nat, K1.1 p = 3 → K.1 p = 0 → ∀ (n : Nat) (jt : Nat → Nat), PmL G K1 p n jt → n ≤ 8 := ⟨fun p hp h0 => by
  have z := hn p h0 (by rw [hp]; decide)
  rw [hp] at z; exact absurd z (by decide), fun p hp h0 => by
  have z := hn p h0 (by rw [hp]; decide)
  rw [hp] at z; exact absurd z (by decide)⟩
/-- nodes more -/
theorem PzK.nds (h : PzK G K g nm it om) (hw : WPr G K g) (hx : XtG K K1 g g1) (hn : ∀ p : Nat, K.1 p = 0 → ¬ K1.1 p = 0 → K1.1 p = 1) : PzK G K1 g1 nm it om := PzK.ext h hw (fun p hp => ⟨hx.1 p hp, hx.2 p hp⟩) (NewN.h4 (g9 := g) hn).1 (NewN.h4 (g9 := g) hn).2
/-- a new node is no field -/
theorem Fl_new (hw : WPr G K g) (hx : XtG K K1 g g1) (hn : ∀ p : Nat, K.1 p = 0 → ¬ K1.1 p = 0 → K1.1 p = 1) (h0 : K.1 x = 0) : ∀ (d n i : Nat) (jt : Nat → Nat), K1.1 d = 4 → FlP G K1 d n jt → i < n → ¬ jt i = x := fun d n i jt hd hf hi e => by
  have hd0 : ¬ K.1 d = 0 := fun z => by
    have w := hn d z (by rw [hd]; decide)
    rw [hd] at w; exact absurd w (by decide)
  have hd4 : K.1 d = 4 := (hx.1 d hd0).1.symm.trans hd
  obtain ⟨lf, cp, f1, f2⟩ := hf
  rw [(hx.1 d hd0).2.2.1 8] at f1
  obtain ⟨r1, r2, r3⟩ := hw.r8 hd4 f1
  obtain ⟨c9, j9, z1, z2⟩ := Ls_back hw (fun p hp => (hx.1 p hp).1) r3 (hx.1 lf (by rw [r3]; decide)) (fun e h6 _ => hx.1 e (by rw [h6]; decide)) (by rw [r1]; rfl) f2
  have w := z1.at9 hi
  rw [← z2 i hi, e, h0] at w
  exact absurd w (by decide)
theorem MeI.sm (h : MeI G K d x) (hd : K.1 d = 4) (hs : ∀ p : Nat, ¬ K.1 p = 0 → Sm K K1 p) : MeI G K1 d x := by
  obtain ⟨lm, n, cp, a, jt, f1, f2, f3⟩ := h
  exact ⟨lm, n, cp, a, jt, ((hs d (by rw [hd]; decide)).2.2.1 9).trans f1, LsC.wx (fun p hp => (hs p hp).1) (by decide) (hs lm (by rw [f2.1]; decide)) (fun e h6 _ => hs e (by rw [h6]; decide)) f2, f3⟩
theorem MeI.ad (h : MeI G K d x) (hw : WPr G K g) (hd : K.1 d = 4) (ha : AdQ K K1 f) (hf : K.1 f = 5) (hr : ¬ g 3 f = 2) : MeI G K1 d x := by
  obtain ⟨lm, n, cp, a, jt, f1, f2, f3⟩ := h
  exact ⟨lm, n, cp, a, jt, ((ha.sm (p := d) (by rw [hd]; decide) (fun e => by rw [e, hf] at hd; exact absurd hd (by decide)) (by rw [hd]; decide)).2.2.1 9).trans f1, Ls_fwd ha hf (fun z => hr (by rw [← z]; exact (hw.r9 hd f1).1)) (by decide) f2, f3⟩
theorem MeI.ki (h : MeI G K d x) (hf : ¬ 23 = f) : MeI G (kI K f q v) d x := by
  obtain ⟨lm, n, cp, a, jt, f1, f2, f3⟩ := h
  exact ⟨lm, n, cp, a, jt, f1, f2.kIf hf, f3⟩
/-- the method that is open, if there is one -/
def omx (K : PK) (d r : Nat) : Option Nat := if K.2.1 18 d = 0 then some r else none
theorem omx.c (h : K.2.1 18 d = 0) : omx K d x = some x := if_pos h
theorem omx.i (h : ¬ K.2.1 18 d = 0) : omx K d x = none := if_neg h
theorem PzK.the (h : PzK G K g nm it (some q)) (hd : K.1 d0 = 4) (hm : MeI G K d0 q) (h18 : K.2.1 18 d0 = 0) : ∀ d : Nat, K.1 d = 4 → MeI G K d q → K.2.1 18 d = 0 := fun d h1 h2 => by
  have z1 := (h.2.1 d q h1 h2).2.1
  have z2 := (h.2.1 d0 q hd hm).2.1
  have e : d = d0 := Option.some.inj (z1.symm.trans z2)
  rw [e]; exact h18
theorem PzK.to {om1 : Option Nat} (h : PzK G K g nm it om) (e : om = om1) : PzK G K g nm it om1 := by rw [← e]; exact h
end EPZ
