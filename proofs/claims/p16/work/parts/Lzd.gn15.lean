/-! names: the whole of what judging asks -/
section GNF
variable {G : pT} {K K0 : PK} {g : Nat → Nat → Nat} {dr nd nm d e p q k u j m m2 n np cp lm sz t c f i : Nat} {it jt rk itp : Nat → Nat} {V ro kd ty : Nat → Int32} {ab : Nat → Int64} {x r : Int32} {o : Option Nat}
theorem JnQ.T4 (hj : JnQ G K0 K g dr nd V ro kd sz ty ab) (hk : k < nd) (he : K0.2.2.2.2.1 dr k = some d) : K0.1 d = 4 := by
  obtain ⟨dz, z1, z2, _⟩ := hj.1.2.1 k hk
  rw [he] at z1; cases z1; exact z2
theorem JnQ.at9 (hj : JnQ G K0 K g dr nd V ro kd sz ty ab) (hk : k < nd) : ∃ d : Nat, K0.2.2.2.2.1 dr k = some d ∧ K0.1 d = 4 ∧ K0.2.1 15 d = nI k := by
  obtain ⟨dz, z1, z2, z3, _⟩ := hj.1.2.1 k hk
  exact ⟨dz, z1, z2, z3⟩
theorem JnQ.bt (hj : JnQ G K0 K g dr nd V ro kd sz ty ab) (hdr : K0.1 dr = 8) (hk : k < nd) : btK K dr k u ↔ bitL (ab k) u := by
  have hj9 := hj
  obtain ⟨⟨_, _, _, hz⟩, ⟨ha, _⟩, _⟩ := hj9
  constructor
  · rintro ⟨d, z1, z2⟩
    rw [hz.E hdr] at z1
    rw [hz.L (JnQ.T4 hj hk z1), ha k hk d z1] at z2
    exact z2
  · intro z
    obtain ⟨d, z1, z2, _⟩ := JnQ.at9 hj hk
    exact ⟨d, by rw [hz.E hdr]; exact z1, by rw [hz.L z2, ha k hk d z1]; exact z⟩
/-- interfaces and what is built in have no fields -/
theorem JnQ.ly0 (hj : JnQ G K0 K g dr nd V ro kd sz ty ab) (hz : PzF G K0 g dr nd nm it) (hnd : nd ≤ 37) (hk : k < nd) (he : K0.2.2.2.2.1 dr k = some d) (h : ¬ K0.2.1 18 d = 0 ∨ k < 7) (hl : LyP G K0 f d n jt) : n = 0 := by
  obtain ⟨⟨hw, hr, _, _⟩, ⟨_, hpb, _, hb0, _, hpx, _⟩, _⟩ := hj
  have zero : ∀ (f d n : Nat) (jt : Nat → Nat), K0.2.2.2.2.1 dr 0 = some d → 0 < nd → LyP G K0 f d n jt → n = 0 := fun f d n jt h1 h2 h3 => by
    cases f with
    | zero => exact h3.elim
    | succ f =>
      obtain ⟨np, nf, ip, jf, a1, a2, a3, _, _⟩ := h3
      have e1 := (hz.1 0 d h2 h1).1 (Or.inr (by omega)) nf jf a2
      rcases a1 with ⟨_, a1⟩ | ⟨p, a1, _⟩
      · omega
      · rw [(hpx 0 d h2 h2 h1).1 (Or.inl rfl)] at a1; cases a1
  cases f with
  | zero => exact hl.elim
  | succ f =>
    obtain ⟨np, nf, ip, jf, a1, a2, a3, _, _⟩ := hl
    have e1 := (hz.1 k d hk he).1 h nf jf a2
    rcases a1 with ⟨_, a1⟩ | ⟨p, a1, a6⟩
    · omega
    · rcases h with h | h
      · rw [(hpx k d hk hk he).1 (Or.inr h)] at a1; cases a1
      · rcases Nat.eq_zero_or_pos k with w | w
        · rw [(hpx k d hk hk he).1 (Or.inl w)] at a1; cases a1
        · obtain ⟨i, i1, i2, i3⟩ := hpb k hk d p he a1
          have i0 : i = 0 := hb0.2 k i w h h i3
          subst i0
          have := zero f p np ip i2 i1 a6
          omega
theorem fiK.low {bt : Nat → Nat → Prop} (h : fiK bt nd d c) (hnd : nd ≤ 37) (hc : c < 60) (hc0 : ¬ c = 0) : d < nd ∧ (d = c ∨ (c < nd ∧ bt d c)) := by
  obtain ⟨h1, h2, h3, h4⟩ := h
  unfold DyT at h1
  rcases h4 with e | ⟨e1, e2, e3⟩ | ⟨e1, e2, e3, e4, e5, e6, e7, e8⟩ | ⟨e1, e2, e3, e4, e5, e6, e7⟩
  · refine ⟨?_, Or.inl e⟩
    rcases h1 with h1 | h1
    · exact h1
    · omega
  · rcases e2 with e2 | e2
    · omega
    · exact absurd e2 hc0
  · omega
  · exact ⟨e6, Or.inr ⟨e5, e7⟩⟩
theorem fiK.mk9 {bt : Nat → Nat → Prop} (hnd : nd ≤ 37) (hd : d < nd) (hc : c < nd) (h : d = c ∨ bt d c) : fiK bt nd d c := by
  refine ⟨Or.inl hd, by omega, by omega, ?_⟩
  by_cases e : d = c
  · exact Or.inl e
  · have h : bt d c := h.elim (fun z => absurd z e) id
    by_cases z : c = 0
    · exact Or.inr (Or.inl ⟨e, Or.inr z, by omega, by omega, by omega, by omega⟩)
    · exact Or.inr (Or.inr (Or.inr ⟨e, by omega, z, Or.inl (by omega), hc, hd, h⟩))
theorem MeI.own9 (hj : JnQ G K0 K g dr nd V ro kd sz ty ab) (hz : PzF G K0 g dr nd nm it) (hnd : nd ≤ 37) (hk : k < nd) (he : K0.2.2.2.2.1 dr k = some d) (hu : u < nd) (hue : K0.2.2.2.2.1 dr u = some e) (h1 : MeI G K0 d m) (h2 : MeI G K0 e m) : k = u := by
  have z1 := ((hz.1 k d hk he).2.2 m h1).1
  have z2 := ((hz.1 u e hu hue).2.2 m h2).1
  have e9 : d = e := Option.some.inj (z1.symm.trans z2)
  subst e9
  exact hj.1.2.1.uniq (by omega) (by omega) hk hu he hue
/-- where the run begins -/
def MnB (pb : PNb) (K : PK) (dr nd m i : Nat) : Prop := m < nd ∧ m < 60 ∧ (bX pb).1 m ∧ (∃ q : Nat, K.2.2.2.2.1 dr m = some q ∧ K.2.1 16 q = 36) ∧ (∀ k q : Nat, k < m → K.2.2.2.2.1 dr k = some q → ¬ K.2.1 16 q = 36) ∧ (bX pb).2.1 m 37 = some i ∧ (bX pb).2.2.1 i = 0 ∧ pb.1 m ((bX pb).2.2.2.2.2 i)
set_option maxHeartbeats 4000000 in
theorem Nm_pb (hj : JnQ G K0 K g dr nd V ro kd sz ty ab) (hz : PzF G K0 g dr nd nm it) (hrk : RkO K0 rk) (h7 : 7 ≤ nd) (hnd : nd ≤ 37) (hsz : sz ≤ 5000) (hwK : WPr G K g) (hdr : K0.1 dr = 8) : ∃ pb : PNb, NaB pb G K ty dr nd sz ∧ NaX pb K dr nd nm it ∧ (∀ k i m : Nat, k < nd → MtP G K dr k i m → MtOp pb G K ty sz nd nm dr k m it g) ∧ (∀ c e : Nat, c < nd → K0.2.2.2.2.1 dr c = some e → K0.2.1 18 e = 0 → (bX pb).1 c) ∧ pb.1 = fiK (btK K dr) nd ∧ ∃ m i : Nat, MnB pb K dr nd m i := by
  have hj9 := hj
  obtain ⟨⟨hw, hr, hA, hly⟩, ⟨ha, hpb, hwc, hb0, hca, hpx, _⟩, ⟨hr1, htx, hr3⟩, hsl, hkn, hrs⟩ := hj
  have hTR : TyR ty nd sz := Ty_R hnd hr1 htx
  have hs5 : sz ≤ 100000 := by omega
  have T4 : ∀ {a b : Nat}, a < nd → K0.2.2.2.2.1 dr a = some b → K0.1 b = 4 := fun h1 h2 => JnQ.T4 hj9 h1 h2
  have hE := hly.E hdr
  have hbt : ∀ {a b : Nat}, a < nd → (btK K dr a b ↔ bitL (ab a) b) := fun h => JnQ.bt hj9 hdr h
  have I8 : ∀ {a : Nat}, K0.1 a = 3 → K.2.1 8 a = K0.2.1 8 a := fun h => hly.I h (by decide) (by decide) (by decide) (by decide) (by decide)
  have I6 : ∀ {a : Nat}, K0.1 a = 3 → K.2.1 6 a = K0.2.1 6 a := fun h => hly.I h (by decide) (by decide) (by decide) (by decide) (by decide)
  have I9 : ∀ {a : Nat}, K0.1 a = 3 → K.2.1 9 a = K0.2.1 9 a := fun h => hly.I h (by decide) (by decide) (by decide) (by decide) (by decide)
  have I2 : ∀ {a : Nat}, K0.1 a = 1 → K.2.1 2 a = K0.2.1 2 a := fun h => hly.I h (by decide) (by decide) (by decide) (by decide) (by decide)
  have hres : ∀ {a b y : Nat}, a < nd → K0.2.2.2.2.1 dr a = some b → MeI G K0 b y → K.2.1 10 y = nI (tyN ty sz (K.2.1 8 y)) := fun h1 h2 h3 => by
    rw [hrs _ h1 _ _ h2 h3, I8 h3.T3]
    exact tkN_ty hTR hs5
  -- fields
  have hF0 : ∀ c : Nat, ∃ P : Nat × (Nat → Nat), c < nd → ∀ d : Nat, K0.2.2.2.2.1 dr c = some d → ∃ ll cp f : Nat, K0.2.2.1 11 d = some ll ∧ LsC G K ll 1 P.1 P.2 cp ∧ LyP G K0 f d P.1 P.2 ∧ ∀ i : Nat, i < P.1 → K.2.1 5 (P.2 i) = nI i := fun c => by
    by_cases z : c < nd
    · obtain ⟨d, z1, z2, _⟩ := JnQ.at9 hj9 z
      obtain ⟨ll, n, cp, f, it9, a1, a2, a3, a4⟩ := hsl c z d z2 z1
      refine ⟨(n, it9), fun _ d2 hd2 => ?_⟩
      have ed : d = d2 := Option.some.inj (z1.symm.trans hd2)
      subst ed
      exact ⟨ll, cp, f, a1, a2, a3, a4⟩
    · exact ⟨(0, fun _ => 0), fun w => absurd w z⟩
  obtain ⟨F, hF⟩ := Classical.axiomOfChoice hF0
  -- methods
  have hM0 : ∀ j : Nat, ∃ P : Nat × (Nat → Nat) × Nat, j < nm → PmL G K (it j) P.1 P.2.1 ∧ P.2.2 < nd ∧ ∃ d : Nat, K0.2.2.2.2.1 dr P.2.2 = some d ∧ MeI G K0 d (it j) := fun j => by
    by_cases z : j < nm
    · obtain ⟨y1, _, _, k, d, y2, y3, y4⟩ := hz.2.1 j z
      obtain ⟨np, itp, y5⟩ := hw.pl y1
      exact ⟨(np, itp, k), fun _ => ⟨hly.pml hw y1 y5, y2, d, y3, y4⟩⟩
    · exact ⟨(0, (fun _ => 0), 0), fun w => absurd w z⟩
  obtain ⟨M, hM⟩ := Classical.axiomOfChoice hM0
  -- what is called
  have hN0 : ∀ a : Nat × Int32, ∃ o : Option Nat, (∀ i : Nat, o = some i → i < nm ∧ ∃ q : Nat, K.2.2.2.2.1 dr a.1 = some q ∧ NeP K a.2 101 q (it i)) ∧ ((∃ i : Nat, i < nm ∧ ∃ q : Nat, K.2.2.2.2.1 dr a.1 = some q ∧ NeP K a.2 101 q (it i)) → ∃ i : Nat, o = some i) := fun a => by
    by_cases z : ∃ i : Nat, i < nm ∧ ∃ q : Nat, K.2.2.2.2.1 dr a.1 = some q ∧ NeP K a.2 101 q (it i)
    · obtain ⟨i, z1⟩ := z
      exact ⟨some i, fun i2 e => (by cases e; exact z1), fun _ => ⟨i, rfl⟩⟩
    · exact ⟨none, fun i2 e => (by cases e), fun w => absurd w z⟩
  obtain ⟨Nn, hN⟩ := Classical.axiomOfChoice hN0
  -- a method of a class has a number
  have hnum : ∀ {u e y : Nat}, u < nd → K0.2.2.2.2.1 dr u = some e → K0.2.1 18 e = 0 → MeI G K0 e y → ∃ j : Nat, j < nm ∧ it j = y := fun h1 h2 h3 h4 => by
    obtain ⟨b, j, _, z2, _, z4⟩ := ((hz.1 _ _ h1 h2).2.2 _ h4).2.2.1 h3
    exact ⟨j, z2, z4⟩
  have hinj : ∀ {a b : Nat}, a < nm → b < nm → it a = it b → a = b := fun h1 h2 h3 => by
    have z1 := (hz.2.1 _ h1).2.1
    have z2 := (hz.2.1 _ h2).2.1
    have hn5 := hz.2.2.2.2
    rw [h3] at z1
    exact (nI_eq (by omega) (by omega)).mp (z1.symm.trans z2)
  have hnear : ∀ {a q y : Nat} {x : Int32}, a < nd → K0.2.2.2.2.1 dr a = some q → K0.2.1 18 q = 0 → NeP K0 x 101 q y → ∃ j u e : Nat, Nn (a, x) = some j ∧ j < nm ∧ it j = y ∧ u < nd ∧ K0.2.2.2.2.1 dr u = some e ∧ (u = a ∨ bitL (ab a) u) ∧ MeI G K0 e y ∧ (M j).2.2 = u := fun {a q y x} h1 h2 h3 h4 => by
    obtain ⟨u, e, u1, u2, u3, u4, u5⟩ := NeP.cls hr hnd hpx hpb hwc h1 h2 h3 h4
    obtain ⟨hme, _⟩ := OwP.mei hw (T4 u1 u2) u5
    obtain ⟨j, j1, j2⟩ := hnum u1 u2 u4 hme
    have hq4 := T4 h1 h2
    have hK : NeP K x 101 q y := hly.nep hw hq4 h4
    obtain ⟨i, hi⟩ := (hN (a, x)).2 ⟨j, j1, q, by rw [hE]; exact h2, by rw [j2]; exact hK⟩
    obtain ⟨i1, q2, i2, i3⟩ := (hN (a, x)).1 i hi
    have i2 : K.2.2.2.2.1 dr a = some q2 := i2
    rw [hE] at i2
    have eq : q = q2 := Option.some.inj (h2.symm.trans i2)
    subst eq
    have ey : it i = y := NeP.uniq9 i3 hK
    refine ⟨i, u, e, hi, i1, ey, u1, u2, u3, hme, ?_⟩
    obtain ⟨_, m1, dd, m2, m3⟩ := hM i i1
    rw [ey] at m3
    exact MeI.own9 hj9 hz hnd m1 m2 u1 u2 m3 hme
  refine ⟨(fiK (btK K dr) nd, fun c => if c < nd then (F c).1 else 0, fun c i => tyc (tyN ty sz (K.2.1 2 ((F c).2 i))), (fun c => c < nd ∧ ∃ e : Nat, K0.2.2.2.2.1 dr c = some e ∧ K0.2.1 18 e = 0), fun c x => Nn (c, x), fun j => (M j).1, fun j i => tyc (tyN ty sz (K.2.1 2 ((M j).2.1 i))), fun j => tyN ty sz (K.2.1 8 (it j)), fun j => (M j).2.2), ?_, ?_, ?_, fun c e h1 h2 h3 => ⟨h1, e, h2, h3⟩, rfl, ?_⟩
  · refine ⟨⟨hnd, hTR, btK K dr, rfl, fun i k _ => Iff.rfl, fun k z => ?_, fun i j k hi hjn hk z1 z2 => ?_⟩, fun c d hc hd => ?_⟩
    · have z := (hbt (by omega)).mp z
      rw [hb0.1] at z; exact bitL_zero z
    · exact (hbt hi).mpr (hwc j i k hjn hi hk ((hbt hi).mp z1) ((hbt hjn).mp z2))
    · rw [hE] at hd
      have hd4 := T4 hc hd
      refine ⟨?_, ?_, fun p x m2 hp hne => ?_⟩
      · obtain ⟨ll, cp, f, a1, a2, a3, a4⟩ := hF c hc d hd
        have k11 : K.2.2.1 11 d = some ll := (hly.C hd4 (by decide) (by decide) (by decide) 11).trans a1
        have hn5 : (F c).1 ≤ 5000 := by
          obtain ⟨n9, i9, c9, z1, z2, _⟩ := hwK.2.1 ll a2.1
          have g3 := (hw.ow11 hd4 a1).1
          rw [g3] at z1 z2
          have z3 := (a2.same (show LsC G K ll 1 n9 i9 c9 from z1)).1
          have z2 : n9 ≤ 5000 := z2
          omega
        refine ⟨ll, (F c).1, cp, (F c).2, k11, a2, hn5, if_pos hc, fun i hi => ⟨?_, a4 i hi, rfl⟩⟩
        obtain ⟨h9, np, nf, b, ip, jf, c1, _, c3, c4, _, c6⟩ := LyP.at9 (fun d p h1 h2 => (hw.2.2.1 d h1).2.2.2.2.1 p h2) hd4 a3 i hi
        have z1 := hz.2.2.1 h9 nf b jf c1 c3 c4
        obtain ⟨lf, cpf, _, c8⟩ := c3
        rw [c6, hly.I (c8.T c4) (by decide) (by decide) (by decide) (by decide) (by decide)]
        exact z1
      · obtain ⟨lk, n, cp, itk, a1, a2, a3⟩ := hkn c hc d hd4 hd
        have k12 : K.2.2.1 12 d = some lk := (hly.C hd4 (by decide) (by decide) (by decide) 12).trans a1
        have hn5 : n ≤ 5000 := by
          obtain ⟨n9, i9, c9, z1, z2, _⟩ := hwK.2.1 lk a2.1
          have g3 := (hw.ow12 hd4 a1).1
          rw [g3] at z1 z2
          have z3 := (a2.same (show LsC G K lk 3 n9 i9 c9 from z1)).1
          have z2 : n9 ≤ 5000 := z2
          omega
        refine ⟨lk, n, cp, itk, k12, a2, hn5, fun i hi => ?_⟩
        obtain ⟨u, e, u1, u2, u3, u4⟩ := a3 i hi
        have hm3 := u4.T3
        obtain ⟨np, itp, hpl⟩ := hw.pl hm3
        have hnp8 := ((hz.1 u e u1 u2).2.2 _ u4).2.1 np itp hpl
        have hplK := hly.pml hw hm3 hpl
        obtain ⟨lp, cpp, p1, p2⟩ := hplK
        refine ⟨hly.T hm3 (by decide), lp, np, cpp, tyN ty sz (K.2.1 8 (itk i)), itp, p1, p2, hnp8, hres u1 u2 u4, hTR.V hs5, fun dd d1 d2 => ?_⟩
        have u3 : u = c ∨ bitL (ab c) u := u3.imp id (fun z => by rw [← ha c hc d hd]; exact z)
        have hu7 : 7 ≤ u := Classical.byContradiction fun z => (hz.1 u e u1 u2).2.1 (by omega) _ u4
        have hc0 : ¬ c = 0 := fun z => by
          rcases u3 with w | w
          · omega
          · rw [z, hb0.1] at w; exact bitL_zero w
        have d2 : fiK (btK K dr) nd dd c := d2
        obtain ⟨d3, d4⟩ := d2.low hnd (by omega) hc0
        obtain ⟨_, qd, d5, d6⟩ := d1 (by omega)
        have hbu : u = dd ∨ bitL (ab dd) u := by
          rcases d4 with d4 | ⟨_, d4⟩
          · rw [d4]; exact u3
          · have d7 := (hbt d3).mp d4
            rcases u3 with w | w
            · rw [w]; exact Or.inr d7
            · exact Or.inr (hwc c dd u hc d3 u1 d7 w)
        obtain ⟨m, m1, m2, _⟩ := Nm_call hj9 hz hrk hnd d3 d5 d6 u1 u2 hbu u4
        obtain ⟨j, v, e2, j1, j2, j3, j4, j5, j6, j7, j8⟩ := hnear d3 d5 d6 m1
        have hm23 := j7.T3
        obtain ⟨s1, l1, l2, n9, c1, c2, i1, i2, b1, b2, b3, b4, b5⟩ := m2
        have ep := PmL.uniq hpl ⟨l1, c1, b1, b2⟩
        have eq : PmL G K m n9 i2 := hly.pml hw hm23 ⟨l2, c2, b3, b4⟩
        have ej := (hM j j2).1
        rw [j3] at ej
        have ej2 := PmL.uniq ej eq
        refine ⟨by omega, j, ?_, by show (M j).1 = np; rw [ej2.1, ep.1], fun i9 hi9 => ?_, ?_, ?_⟩
        · show Nn (dd, K.2.1 6 (itk i)) = some j
          rw [I6 hm3]; exact j1
        · show tyc (tyN ty sz (K.2.1 2 ((M j).2.1 i9))) = tyc (tyN ty sz (K.2.1 2 (itp i9)))
          have hi8 : i9 < n9 := by rw [← ep.1]; exact hi9
          rw [ej2.2 i9 (by rw [ej2.1]; exact hi8), ep.2 i9 hi9, I2 (b4.T hi8), I2 (b2.T hi8)]
          rw [ty_eq hTR hs5 hnd (b5 i9 hi8)]
        · show tyN ty sz (K.2.1 8 (it j)) = tyN ty sz (K.2.1 8 (itk i))
          rw [j3, I8 hm23, I8 hm3]
          exact (ty_eq hTR hs5 hnd s1).symm
        · show fiK (btK K dr) nd dd ((M j).2.2)
          rw [j8]
          exact fiK.mk9 hnd d3 j4 (j6.imp Eq.symm (fun z => (hbt d3).mpr z))
      · have hp0 : K0.2.2.1 10 d = some p := (hly.C hd4 (by decide) (by decide) (by decide) 10).symm.trans hp
        have hpx9 := hpx c d hc hc hd
        have h18 : K0.2.1 18 d = 0 := Classical.byContradiction fun z => by rw [hpx9.1 (Or.inr z)] at hp0; cases hp0
        have hc1 : 1 ≤ c := by
          rcases Nat.eq_zero_or_pos c with z | z
          · rw [hpx9.1 (Or.inl z)] at hp0; cases hp0
          · exact z
        obtain ⟨i, p2, i1, i2, i3, i4⟩ := hpx9.2 hc1 h18
        have ep : p2 = p := Option.some.inj (i3.symm.trans hp0)
        subst ep
        obtain ⟨i', j1, j2, j3⟩ := hpb c hc d p2 hd hp0
        have ei : i' = i := hr.uniq (by omega) (by omega) j1 i1 j2 i2
        subst ei
        have hne0 := hly.neb hw (T4 i1 i2) hne
        obtain ⟨j, v, e2, n1, n2, n3, n4, n5, n6, n7, n8⟩ := hnear i1 i2 i4 hne0
        have hm3 := n7.T3
        obtain ⟨np, itp, hpl⟩ := hw.pl hm3
        have hnp8 := ((hz.1 v e2 n4 n5).2.2 _ n7).2.1 np itp hpl
        have hplK := hly.pml hw hm3 hpl
        have ej := (hM j n2).1
        rw [n3] at ej
        have ej2 := PmL.uniq ej hplK
        obtain ⟨lp, cpp, p1, p3⟩ := hplK
        have hn5 := hz.2.2.2.2
        have hbv : bitL (ab c) v := by
          rcases n6 with w | w
          · rw [w]; exact j3
          · exact hwc i' c v i1 hc n4 j3 w
        refine ⟨hly.T hm3 (by decide), lp, np, cpp, tyN ty sz (K.2.1 8 m2), j, itp, p1, p3, hnp8, hres n4 n5 n7, hTR.V hs5, ?_, by omega, ej2.1, fun i9 hi9 => ?_, ?_, ?_, i', x, ⟨i1, p2, i2, i4⟩, n1⟩
        · rw [I9 hm3, ← n3]; exact (hz.2.1 j n2).2.1
        · show tyc (tyN ty sz (K.2.1 2 ((M j).2.1 i9))) = tyc (tyN ty sz (K.2.1 2 (itp i9)))
          rw [ej2.2 i9 (by rw [ej2.1]; exact hi9)]
        · show tyN ty sz (K.2.1 8 (it j)) = tyN ty sz (K.2.1 8 m2)
          rw [n3]
        · show TL (fiK (btK K dr) nd) c ((M j).2.2)
          rw [n8]
          have hk : fiK (btK K dr) nd c v := fiK.mk9 hnd hc n4 (Or.inr ((hbt hc).mpr hbv))
          refine TL.fit hnd (fun k z => ?_) (fun i j k hi hjn hk z1 z2 => ?_) hk.2 (Or.inl (Or.inl (by omega))) (Or.inl (Or.inl (by omega)))
          · have z := (hbt (by omega)).mp z
            rw [hb0.1] at z; exact bitL_zero z
          · exact (hbt hi).mpr (hwc j i k hjn hi hk ((hbt hi).mp z1) ((hbt hjn).mp z2))
  · refine ⟨fun d h => h.1, fun d h1 h2 => ?_, fun i hi => ?_, fun d i x _ h2 => (hN (d, x)).1 i h2, fun d c k h1 h2 h3 => ?_, fun d k _ => ?_, fun d h => ?_⟩
    · obtain ⟨dz, z1, z2, _, z4⟩ := hr d (by omega)
      exact ⟨by omega, dz, z1, ((hw.2.2.1 dz z2).2.2.2.2.2.1 (by rw [z4]; exact bti_1 h1 h2)).2.2⟩
    · obtain ⟨m1, m2, m3, m4, m5⟩ := hM i hi
      obtain ⟨z1, z2, _⟩ := hz.2.1 i hi
      refine ⟨(I9 z1).trans z2, hres m2 m4 m5, (hTR.V hs5).lt hnd, ?_⟩
      show (M i).2.2 < 60
      omega
    · have h3 : k < (if c < nd then (F c).1 else 0) := h3
      have hc : c < nd := Classical.byContradiction fun z => by rw [if_neg z] at h3; omega
      rw [if_pos hc] at h3
      obtain ⟨dc, c1, c2, _⟩ := JnQ.at9 hj9 hc
      obtain ⟨ll, cp, f, a1, a2, a3, a4⟩ := hF c hc dc c1
      have hc7 : ¬ (¬ K0.2.1 18 dc = 0 ∨ c < 7) := fun z => by
        have := JnQ.ly0 hj9 hz hnd hc c1 z a3
        omega
      have h1 : fiK (btK K dr) nd d c := h1
      obtain ⟨d1, d2⟩ := h1.low hnd h2 (fun z => hc7 (Or.inr (by omega)))
      obtain ⟨dd, e1, e2, _⟩ := JnQ.at9 hj9 d1
      obtain ⟨ll2, cp2, f2, b1, b2, b3, b4⟩ := hF d d1 dd e1
      have hpre : (F c).1 ≤ (F d).1 ∧ ∀ i : Nat, i < (F c).1 → (F d).2 i = (F c).2 i := by
        rcases d2 with d2 | ⟨_, d2⟩
        · rw [d2]; exact ⟨Nat.le_refl _, fun _ _ => rfl⟩
        · rcases hca d c dd dc d1 d1 hc ((hbt d1).mp d2) e1 c1 with w | w | ⟨_, n, w⟩
          · exact absurd (Or.inr (by omega)) hc7
          · exact absurd (Or.inl w) hc7
          · exact LyP.pre w b3 a3
      refine ⟨by omega, ?_, ?_⟩
      · show k < (if d < nd then (F d).1 else 0)
        rw [if_pos d1]; omega
      · show tyc (tyN ty sz (K.2.1 2 ((F d).2 k))) = tyc (tyN ty sz (K.2.1 2 ((F c).2 k)))
        rw [hpre.2 k h3]
    · exact (hTR.V hs5).ty hnd
    · show (if d < nd then (F d).1 else 0) = 0
      rw [if_pos (by omega)]
      obtain ⟨dd, e1, e2, _⟩ := JnQ.at9 hj9 (show d < nd by omega)
      obtain ⟨ll, cp, f, a1, a2, a3, a4⟩ := hF d (by omega) dd e1
      exact JnQ.ly0 hj9 hz hnd (by omega) e1 (Or.inr h) a3
  · intro k i m hk hm
    obtain ⟨d, lm, n, cp, itm, h1, h2, h3, h4, h5⟩ := hm
    have h10 : K0.2.2.2.2.1 dr k = some d := by rw [← hE]; exact h1
    have hd4 := T4 hk h10
    have hme : MeI G K0 d m := by rw [← h5]; exact hly.me hw hd4 h2 h3 h4
    have hm3 := hme.T3
    obtain ⟨z1, z2, z3, z4⟩ := (hz.1 k d hk h10).2.2 m hme
    obtain ⟨dz, y1, y2, y3, _⟩ := hr k hk
    have edz : d = dz := Option.some.inj (h10.symm.trans y1)
    subst edz
    obtain ⟨np, itp, hpl⟩ := hw.pl hm3
    have hplK := hly.pml hw hm3 hpl
    obtain ⟨lp, cpp, p1, p2⟩ := hplK
    refine ⟨⟨d, (hly.C hm3 (by decide) (by decide) (by decide) 5).trans z1, hly.T hd4 (by decide), h1, (hly.I hd4 (by decide) (by decide) (by decide) (by decide) (by decide)).trans y3⟩, lp, np, cpp, tyN ty sz (K.2.1 8 m), itp, p1, p2, z2 np itp hpl, hres hk h10 hme, hTR.V hs5, fun b hb => ?_⟩
    have hb0' : K0.2.2.1 7 m = some b := (hly.C hm3 (by decide) (by decide) (by decide) 7).symm.trans hb
    obtain ⟨w1, w2, w3⟩ := z4 b hb0'
    obtain ⟨_, j, _, v2, _, v4⟩ := z3 w1
    have ej := (hM j v2).1
    rw [v4] at ej
    have ej2 := PmL.uniq ej (show PmL G K m np itp from ⟨lp, cpp, p1, p2⟩)
    refine ⟨w2, w3, j, v2, v4, ej2.1, fun i9 hi9 => ?_, ?_, ?_⟩
    · show tyc (tyN ty sz (K.2.1 2 ((M j).2.1 i9))) = tyc (tyN ty sz (K.2.1 2 (itp i9)))
      rw [ej2.2 i9 (by rw [ej2.1]; exact hi9)]
    · show tyN ty sz (K.2.1 8 (it j)) = tyN ty sz (K.2.1 8 m)
      rw [v4]
    · obtain ⟨_, m1, dd, m2, m3⟩ := hM j v2
      rw [v4] at m3
      exact MeI.own9 hj9 hz hnd m1 m2 hk h10 m3 hme
  · obtain ⟨kF, dF, mF, f1, f2, f3, f4, f5, f6, lpF, cpF, itF, f7, f8⟩ := hr3.2
    obtain ⟨j, v, e2, j1, j2, j3, j4, j5, j6, j7, j8⟩ := hnear f1 f3 f4 f5
    have hfd : K0.2.1 16 dF = 36 ∧ ∀ k q : Nat, k < kF → K0.2.2.2.2.1 dr k = some q → ¬ K0.2.1 16 q = 36 := by
      rcases f2 with ⟨z, _⟩ | ⟨k, d, z1, z2, z3, z4, z5⟩
      · exact absurd z (nI_m1 (by omega))
      · have ek : kF = k := (nI_eq (by omega) (by omega)).mp z2
        subst ek
        have ed : dF = d := Option.some.inj (f3.symm.trans z3)
        subst ed
        exact ⟨z4, z5⟩
    have I16 : ∀ {a : Nat}, K0.1 a = 4 → K.2.1 16 a = K0.2.1 16 a := fun h => hly.I h (by decide) (by decide) (by decide) (by decide) (by decide)
    refine ⟨kF, j, f1, by omega, ⟨f1, dF, f3, f4⟩, ⟨dF, by rw [hE]; exact f3, by rw [I16 (T4 f1 f3)]; exact hfd.1⟩, fun k q hk hq => ?_, j1, ?_, ?_⟩
    · rw [hE] at hq
      rw [I16 (T4 (show k < nd by omega) hq)]
      exact hfd.2 k q hk hq
    · show (M j).1 = 0
      have ej := (hM j j2).1
      rw [j3] at ej
      exact (PmL.uniq ej (hly.pml hw j7.T3 ⟨lpF, cpF, f7, f8⟩)).1
    · show fiK (btK K dr) nd kF ((M j).2.2)
      rw [j8]
      exact fiK.mk9 hnd f1 j4 (j6.imp Eq.symm (fun z => (hbt f1).mpr z))
end GNF
