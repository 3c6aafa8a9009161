/-- what the parser knows of Decls and methods -/
def PzD (G : pT) (K : PK) (g : Nat → Nat → Nat) (nm : Nat) (it : Nat → Nat) (k d : Nat) : Prop := ((¬ K.2.1 18 d = 0 ∨ k < 7) → ∀ (n : Nat) (jt : Nat → Nat), FlP G K d n jt → n = 0) ∧ (k < 7 → ∀ x : Nat, ¬ MeI G K d x) ∧
  ∀ x : Nat, MeI G K d x → K.2.2.1 5 x = some d ∧ (∀ (np : Nat) (itp : Nat → Nat), PmL G K x np itp → np ≤ 8) ∧ (K.2.1 18 d = 0 → ∃ b j : Nat, K.2.2.1 7 x = some b ∧ j < nm ∧ K.2.1 9 x = nI j ∧ it j = x) ∧ ∀ b : Nat, K.2.2.1 7 x = some b → K.2.1 18 d = 0 ∧ ndE g b ≤ 40 ∧ rS (g 2 b) + 2 ≤ rE (g 2 b)
def PzF (G : pT) (K : PK) (g : Nat → Nat → Nat) (dr nd nm : Nat) (it : Nat → Nat) : Prop := (∀ k d : Nat, k < nd → K.2.2.2.2.1 dr k = some d → PzD G K g nm it k d) ∧
  (∀ j : Nat, j < nm → K.1 (it j) = 3 ∧ K.2.1 9 (it j) = nI j ∧ (∃ b : Nat, K.2.2.1 7 (it j) = some b) ∧ ∃ k d : Nat, k < nd ∧ K.2.2.2.2.1 dr k = some d ∧ MeI G K d (it j)) ∧
  (∀ (d n i : Nat) (jt : Nat → Nat), K.1 d = 4 → FlP G K d n jt → i < n → K.2.1 0 (jt i) = 36) ∧ FuO G K ∧ nm ≤ 5000
section GND
variable {G : pT} {K K0 K1 : PK} {g : Nat → Nat → Nat} {dr nd nm d e p q k u j m m1 m2 m3 n n2 np cp lm sz : Nat} {it jt rk itp : Nat → Nat} {V ro kd ty : Nat → Int32} {ab : Nat → Int64} {x : Int32} {o : Option Nat}
theorem ls_first (P : Nat → Prop) : ∀ n : Nat, (∀ i : Nat, i < n → ¬ P i) ∨ ∃ i : Nat, i < n ∧ P i ∧ ∀ j : Nat, j < i → ¬ P j := by
  intro n
  induction n with
  | zero => exact Or.inl (fun i h => absurd h (by omega))
  | succ n ih =>
    rcases ih with h | ⟨i, h1, h2, h3⟩
    · by_cases z : P n
      · exact Or.inr ⟨n, by omega, z, h⟩
      · refine Or.inl (fun i hi => ?_)
        by_cases y : i = n
        · rw [y]; exact z
        · exact h i (by omega)
    · exact Or.inr ⟨i, by omega, h2, h3⟩
theorem OwP.tot (h9 : K.2.2.1 9 d = some lm) (hl : LsC G K lm 3 n it cp) : ∃ o : Option Nat, OwP K d x o := by
  have hn := hl.2.2.1
  rcases ls_first (fun i => K.2.1 6 (it i) = x) n with h | ⟨i, h1, h2, h3⟩
  · exact ⟨none, lm, n, it, h9, LsC.sz hl, hn, LsC.el hl, Or.inl ⟨rfl, h⟩⟩
  · exact ⟨some (it i), lm, n, it, h9, LsC.sz hl, hn, LsC.el hl, Or.inr ⟨i, h1, rfl, h2, h3⟩⟩
theorem WPr.ml (hw : WPr G K g) (hd : K.1 d = 4) : ∃ (lm n cp : Nat) (it : Nat → Nat), K.2.2.1 9 d = some lm ∧ LsC G K lm 3 n it cp ∧ g 3 lm = 2 := by
  obtain ⟨y, y1, y2, y3, _⟩ := (hw.2.2.1 d hd).2.1
  obtain ⟨n, it, cp, z1, _⟩ := hw.2.1 y y2
  rw [y3] at z1
  exact ⟨y, n, cp, it, y1, z1, y3⟩
theorem WPr.pl (hw : WPr G K g) (hm : K.1 m = 3) : ∃ (np : Nat) (itp : Nat → Nat), PmL G K m np itp := by
  obtain ⟨y, y1, y2, y3, _⟩ := (hw.2.2.2 m hm).1
  obtain ⟨n, it, cp, z1, _⟩ := hw.2.1 y y2
  rw [y3] at z1
  exact ⟨n, it, y, cp, y1, z1⟩
theorem WPr.own9 (hw : WPr G K g) (hd : K.1 d = 4) : ∃ o : Option Nat, OwP K d x o := by
  obtain ⟨lm, n, cp, it, h1, h2, _⟩ := hw.ml hd
  exact OwP.tot h1 h2
theorem PmL.uniq {itq : Nat → Nat} (h : PmL G K m n itp) (h2 : PmL G K m n2 itq) : n = n2 ∧ ∀ i : Nat, i < n → itp i = itq i := by
  obtain ⟨l1, c1, a1, a2⟩ := h
  obtain ⟨l2, c2, b1, b2⟩ := h2
  have e : l1 = l2 := Option.some.inj (a1.symm.trans b1)
  subst e
  exact a2.same b2
theorem OwP.mei (hw : WPr G K g) (hd : K.1 d = 4) (h : OwP K d x (some m)) : MeI G K d m ∧ K.2.1 6 m = x := by
  obtain ⟨lm, n, cp, it, h1, h2, _⟩ := hw.ml hd
  obtain ⟨i, i1, i2, i3⟩ := h.mem h1 h2
  exact ⟨⟨lm, n, cp, i, it, h1, h2, i1, i2⟩, i3⟩
theorem OwS.mei (h : OwS G K d) (hm : MeI G K d m) : OwP K d (K.2.1 6 m) (some m) := by
  obtain ⟨lm, n, cp, a, it, h1, h2, h3, h4⟩ := hm
  rw [← h4]; exact h lm n cp it h1 h2 a h3
theorem JmA.mei {d0 : Nat} (h : JmA G K dr nd ty sz d0 d) (hm : MeI G K d m) : JmP G K dr nd ty sz d0 d m := by
  obtain ⟨lm, n, cp, a, it, h1, h2, h3, h4⟩ := hm
  rw [← h4]; exact h lm n cp it h1 h2 a h3
theorem NeP.uniq9 : ∀ {n n2 d : Nat}, NeP K x n d m → NeP K x n2 d m2 → m = m2
  | 0, _, _, h, _ => h.elim
  | _ + 1, 0, _, _, h => h.elim
  | n + 1, n2 + 1, d, h, h2 => by
    rcases h with h | ⟨h1, p, h3, h4⟩
    · rcases h2 with g1 | ⟨g1, _⟩
      · exact Option.some.inj (h.uniq g1)
      · have z := h.uniq g1; cases z
    · rcases h2 with g1 | ⟨_, p2, g3, g4⟩
      · have z := h1.uniq g1; cases z
      · have e : p = p2 := Option.some.inj (h3.symm.trans g3)
        subst e
        exact NeP.uniq9 h4 g4
theorem NeP.mono : ∀ {n n2 d : Nat}, n ≤ n2 → NeP K x n d m → NeP K x n2 d m
  | 0, _, _, _, h => h.elim
  | n + 1, n2, d, hn, h => by
    obtain ⟨n3, rfl⟩ : ∃ z : Nat, n2 = z + 1 := ⟨n2 - 1, by omega⟩
    rcases h with h | ⟨h1, p, h3, h4⟩
    · exact Or.inl h
    · exact Or.inr ⟨h1, p, h3, NeP.mono (by omega) h4⟩
theorem SgE.rfl9 (h : PmL G K m np itp) : SgE G K ty sz m m := by
  obtain ⟨lp, cp, a1, a2⟩ := h
  exact ⟨rfl, lp, lp, np, cp, cp, itp, itp, a1, a2, a1, a2, fun _ _ => rfl⟩
theorem SgE.tr (h : SgE G K ty sz m1 m2) (h2 : SgE G K ty sz m3 m2) : SgE G K ty sz m1 m3 := by
  obtain ⟨a1, l1, l2, n, c1, c2, i1, i2, b1, b2, b3, b4, b5⟩ := h
  obtain ⟨d1, k1, k2, n9, e1, e2, j1, j2, f1, f2, f3, f4, f5⟩ := h2
  have el : l2 = k2 := Option.some.inj (b3.symm.trans f3)
  subst el
  obtain ⟨en, ei⟩ := b4.same f4
  subst en
  refine ⟨a1.trans d1.symm, l1, k1, n, c1, e1, i1, j1, b1, b2, f1, f2, fun i hi => ?_⟩
  rw [b5 i hi, ei i hi, f5 i hi]
theorem FfP.uniq9 (hnd : nd ≤ 37) (h : FfP K dr nd d x m) (h2 : FfP K dr nd d x m2) : m = m2 := by
  obtain ⟨k, e, a1, a2, a3, a4, a5⟩ := h
  obtain ⟨k2, e2, b1, b2, b3, b4, b5⟩ := h2
  rcases Nat.lt_trichotomy k k2 with z | z | z
  · have y := a4.uniq (b5 k e z a2 a3); cases y
  · subst z
    have y : e = e2 := Option.some.inj (a2.symm.trans b2)
    subst y
    exact Option.some.inj (a4.uniq b4)
  · have y := b4.uniq (a5 k2 e2 z b2 b3); cases y
/-- the class that has the one that is called -/
theorem NeP.cls (hr : DcR K g dr nd) (hnd : nd ≤ 37) (hpx : PaX K dr nd nd) (hpb : PaB K dr nd ab) (hwc : WCl ab nd nd) : ∀ {n k d : Nat}, k < nd → K.2.2.2.2.1 dr k = some d → K.2.1 18 d = 0 → NeP K x n d m → ∃ u e : Nat, u < nd ∧ K.2.2.2.2.1 dr u = some e ∧ (u = k ∨ bitL (ab k) u) ∧ K.2.1 18 e = 0 ∧ OwP K e x (some m)
  | 0, _, _, _, _, _, h => h.elim
  | n + 1, k, d, hk, he, h18, h => by
    rcases h with h | ⟨_, p, h3, h4⟩
    · exact ⟨k, d, hk, he, Or.inl rfl, h18, h⟩
    · have hp := hpx k d hk hk he
      have h1 : 1 ≤ k := by
        rcases Nat.eq_zero_or_pos k with z | z
        · rw [hp.1 (Or.inl z)] at h3; cases h3
        · exact z
      obtain ⟨i, p2, i1, i2, i3, i4⟩ := hp.2 h1 h18
      have ep : p2 = p := Option.some.inj (i3.symm.trans h3)
      subst ep
      obtain ⟨i', j1, j2, j3⟩ := hpb k hk d p2 he h3
      have ei : i' = i := hr.uniq (by omega) (by omega) j1 i1 j2 i2
      subst ei
      obtain ⟨u, e, a1, a2, a3, a4, a5⟩ := NeP.cls hr hnd hpx hpb hwc i1 i2 i4 h4
      refine ⟨u, e, a1, a2, Or.inr ?_, a4, a5⟩
      rcases a3 with a3 | a3
      · rw [a3]; exact j3
      · exact hwc i' k u i1 hk a1 j3 a3
/-- one of the parents has it: there is one that is called -/
theorem NeP.ex (hw : WPr G K g) (hrk : RkO K rk) : ∀ {n d : Nat}, K.1 d = 4 → AnP K n d e → OwP K e x (some m) → ∃ m2 : Nat, NeP K x (rk d + 1) d m2
  | 0, _, _, h, _ => h.elim
  | n + 1, d, hd, h, ho => by
    obtain ⟨p, h1, h2⟩ := h
    obtain ⟨hp, hlt, _⟩ := hrk d p hd h1
    obtain ⟨o, h3⟩ := hw.own9 (x := x) hd
    cases o with
    | some m1 => exact ⟨m1, Or.inl h3⟩
    | none =>
      have z : ∃ m2 : Nat, NeP K x (rk p + 1) p m2 := by
        rcases h2 with h2 | h2
        · subst h2; exact ⟨m, Or.inl ho⟩
        · exact NeP.ex hw hrk hp h2 ho
      obtain ⟨m2, z⟩ := z
      exact ⟨m2, Or.inr ⟨h3, p, h1, NeP.mono (by omega) z⟩⟩
/-- what is called, of an object of a class, by the name of a method that stands above it -/
theorem Nm_call (hj : JnQ G K K1 g dr nd V ro kd sz ty ab) (hz : PzF G K g dr nd nm it) (hrk : RkO K rk) (hnd : nd ≤ 37) (hk : k < nd) (he : K.2.2.2.2.1 dr k = some d) (h18 : K.2.1 18 d = 0) (hu : u < nd) (hue : K.2.2.2.2.1 dr u = some e) (hb : u = k ∨ bitL (ab k) u) (hm : MeI G K e m2) : ∃ m : Nat, NeP K (K.2.1 6 m2) 101 d m ∧ SgE G K ty sz m2 m ∧ ∃ u2 e2 : Nat, u2 < nd ∧ K.2.2.2.2.1 dr u2 = some e2 ∧ (u2 = k ∨ bitL (ab k) u2) ∧ K.2.1 18 e2 = 0 ∧ MeI G K e2 m := by
  obtain ⟨⟨hw, hr, hA, _⟩, ⟨ha, hpb, hwc, hb0, hca, hpx, _⟩, ⟨hr1, _, hr3⟩, _⟩ := hj
  have T4 : ∀ a b : Nat, a < nd → K.2.2.2.2.1 dr a = some b → K.1 b = 4 := fun a b h1 h2 => by
    obtain ⟨dz, z1, z2, _⟩ := hr a h1
    rw [h2] at z1; cases z1; exact z2
  have hd := T4 k d hk he
  have hed := T4 u e hu hue
  have hu7 : 7 ≤ u := Classical.byContradiction fun z => (hz.1 u e hu hue).2.1 (by omega) m2 hm
  have hk7 : 7 ≤ k := Classical.byContradiction fun z => by
    rcases hb with y | y
    · omega
    · rcases Nat.eq_zero_or_pos k with w | w
      · rw [w, hb0.1] at y; exact bitL_zero y
      · have := hb0.2 k u w (by omega) (by omega) y
        omega
  obtain ⟨np, itp, hpl⟩ := hw.pl hm.T3
  have fin : ∀ m : Nat, NeP K (K.2.1 6 m2) 101 d m → SgE G K ty sz m2 m → ∃ m : Nat, NeP K (K.2.1 6 m2) 101 d m ∧ SgE G K ty sz m2 m ∧ ∃ u2 e2 : Nat, u2 < nd ∧ K.2.2.2.2.1 dr u2 = some e2 ∧ (u2 = k ∨ bitL (ab k) u2) ∧ K.2.1 18 e2 = 0 ∧ MeI G K e2 m := fun m h1 h2 => by
    obtain ⟨u2, e2, a1, a2, a3, a4, a5⟩ := NeP.cls hr hnd hpx hpb hwc hk he h18 h1
    exact ⟨m, h1, h2, u2, e2, a1, a2, a3, a4, (OwP.mei hw (T4 u2 e2 a1 a2) a5).1⟩
  rcases hb with y | y
  · subst y
    have ee : d = e := Option.some.inj (he.symm.trans hue)
    subst ee
    have ow := ((hr1.1 u hu7 hu d hue).1).mei hm
    exact fin m2 (NeP.fst (by decide) ow) (SgE.rfl9 hpl)
  · have hbd : bitL (K.2.2.2.1 d) u := by rw [ha k hk d he]; exact y
    obtain ⟨⟨o1, s1, s2⟩, s3⟩ := (hr3.1 k hk7 hk d he u e hu hue hbd).mei hm
    have hex : ∃ m : Nat, NeP K (K.2.1 6 m2) 101 d m := by
      by_cases z : K.2.1 18 e = 0
      · rcases hca k u d e hk hk hu y he hue with w | w | ⟨_, n, w⟩
        · omega
        · exact absurd z w
        · have ow := ((hr1.1 u hu7 hu e hue).1).mei hm
          obtain ⟨m3, w2⟩ := NeP.ex hw hrk hd w ow
          have hle : rk d ≤ 100 := by
            cases hc : K.2.2.1 10 d with
            | none =>
              cases n with
              | zero => exact w.elim
              | succ n => obtain ⟨p9, w3, _⟩ := w; rw [hc] at w3; cases w3
            | some p9 => exact (hrk d p9 hd hc).2.2
          exact ⟨m3, NeP.mono (by omega) w2⟩
      · exact s3 z h18
    obtain ⟨m, hm9⟩ := hex
    refine fin m hm9 ?_
    rcases s1 with s1 | ⟨s1, s4⟩
    · rcases (NeP.nx hm9).2 with w | ⟨w, _⟩
      · have em : o1 = m := Option.some.inj (s1.uniq w)
        rw [← em]; exact s2
      · have w2 := s1.uniq w; cases w2
    · obtain ⟨u2, e2, a1, a2, a3, a4, a5⟩ := NeP.cls hr hnd hpx hpb hwc hk he h18 hm9
      have hne : ¬ u2 = k := fun w => by
        subst w
        have ee : d = e2 := Option.some.inj (he.symm.trans a2)
        subst ee
        have w2 := s1.uniq a5; cases w2
      have a3 : bitL (ab k) u2 := a3.elim (fun w => absurd w hne) id
      obtain ⟨hme, h6⟩ := OwP.mei hw (T4 u2 e2 a1 a2) a5
      have hbd2 : bitL (K.2.2.2.1 d) u2 := by rw [ha k hk d he]; exact a3
      obtain ⟨⟨o2, t1, t2⟩, _⟩ := (hr3.1 k hk7 hk d he u2 e2 a1 a2 hbd2).mei hme
      rw [h6] at t1
      rcases t1 with t1 | ⟨_, t4⟩
      · have w2 := s1.uniq t1; cases w2
      · have eo : o1 = o2 := FfP.uniq9 hnd s4 t4
        subst eo
        exact SgE.tr s2 t2
end GND
