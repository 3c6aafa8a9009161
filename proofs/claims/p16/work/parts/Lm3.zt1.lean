/-! what is known of a statement's node by its kind; loops -/
def tO (g : Nat → Nat → Nat) (o : Option Nat) : Nat := match o with
  | none => 0
  | some x => tlE g x
/-- an E within a statement -/
def EsO (g : Nat → Nat → Nat) (x : Nat) : Prop := EcO g x ∧ ndE g x ≤ 243
def SkO (K : PK) (g : Nat → Nat → Nat) (ty : Nat → Int32) (sz nd q : Nat) : Prop :=
  (K.2.1 0 q = 22 → 2 ≤ tlE g q ∧ ∀ x : Nat, K.2.2.1 0 q = some x → EsO g x ∧ tlE g x + 2 ≤ tlE g q) ∧
  (K.2.1 0 q = 23 → ∀ x y : Nat, K.2.2.1 0 q = some x → K.2.2.1 1 q = some y → EsO g x ∧ EsO g y ∧ tlE g x + tlE g y + 1 ≤ tlE g q ∧ ¬ InE g y x) ∧
  (K.2.1 0 q = 24 → ∀ x : Nat, K.2.2.1 0 q = some x → EsO g x ∧ tlE g x ≤ tlE g q ∧ K.1 x = 1 ∧ CaK (K.2.1 0 x)) ∧
  (K.2.1 0 q = 25 → ∀ x y : Nat, K.2.2.1 0 q = some x → K.2.2.1 1 q = some y → EsO g x ∧ tlE g x + tlE g y + tO g (K.2.2.1 2 q) + 3 ≤ tlE g q ∧ ndE g y ≤ ndE g q ∧ (K.1 y = 1 ∧ ¬ K.2.1 0 y = 22) ∧ ∀ z : Nat, K.2.2.1 2 q = some z → ndE g z ≤ ndE g q ∧ K.1 z = 1 ∧ ¬ K.2.1 0 z = 22) ∧
  ((K.2.1 0 q = 26 ∨ K.2.1 0 q = 27) → ∀ d : Nat, K.2.2.1 3 q = some d → ndE g d ≤ ndE g q ∧ (K.1 d = 1 ∧ ¬ K.2.1 0 d = 22) ∧ tO g (K.2.2.1 0 q) + tO g (K.2.2.1 1 q) + tO g (K.2.2.1 2 q) + tlE g d + 3 ≤ tlE g q ∧ (∀ x : Nat, K.2.2.1 0 q = some x → K.1 x = 1 ∧ (K.2.1 0 x = 22 ∨ K.2.1 0 x = 23)) ∧ (∀ x : Nat, K.2.2.1 1 q = some x → EsO g x) ∧ ∀ x : Nat, K.2.2.1 2 q = some x → K.1 x = 1 ∧ (K.2.1 0 x = 23 ∨ K.2.1 0 x = 24)) ∧
  (K.2.1 0 q = 28 → 2 ≤ tlE g q ∧ ∀ x : Nat, K.2.2.1 0 q = some x → EsO g x ∧ tlE g x + 2 ≤ tlE g q) ∧
  ((K.2.1 0 q = 29 ∨ K.2.1 0 q = 30) → 2 ≤ tlE g q) ∧
  ((K.2.1 0 q = 31 ∨ K.2.1 0 q = 33) → ∀ x : Nat, K.2.2.1 0 q = some x → EsO g x ∧ tlE g x + 2 ≤ tlE g q) ∧
  (K.2.1 0 q = 32 → ∀ x : Nat, K.2.2.1 0 q = some x → (rS (g 2 q) + 1 ≤ rS (g 2 x) ∧ rS (g 2 x) + 2 ≤ rE (g 2 x) ∧ rE (g 2 x) ≤ rM (g 2 q) ∧ ndE g x ≤ ndE g q) ∧ ∀ z : Nat, K.2.2.1 2 q = some z → rN (g 2 q) + 1 ≤ rS (g 2 z) ∧ rS (g 2 z) + 2 ≤ rE (g 2 z) ∧ rE (g 2 z) ≤ rE (g 2 q) ∧ ndE g z + 2 ≤ ndE g q) ∧
  (K.2.1 0 q = 35 → tyN ty sz (K.2.1 2 q) < nd ∧ ∀ x : Nat, K.2.2.1 0 q = some x → rS (g 2 q) + 5 ≤ rS (g 2 x) ∧ rS (g 2 x) + 2 ≤ rE (g 2 x) ∧ rE (g 2 x) ≤ rE (g 2 q) ∧ ndE g x ≤ ndE g q) ∧
  ((K.2.1 0 q = 21 ∨ K.2.1 0 q = 32) → (K.2.1 0 q = 21 → rS (g 2 q) + 2 ≤ rE (g 2 q)) ∧ ∀ x : Nat, K.1 x = 1 → 1 ≤ g 0 x → g 1 x = q + 1 → ndE g x ≤ ndE g q)
def SkA (K : PK) (g : Nat → Nat → Nat) (ty : Nat → Int32) (sz nd : Nat) : Prop := ∀ q : Nat, K.1 q = 1 → 1 ≤ g 0 q → SkO K g ty sz nd q
/-- the jump out of a loop, if it has a condition -/
def ExJ (O L : Nat → Int32) (A : Nat → AS) (x : Int32) (ex : List Nat) (lo cs cs1 hd : Nat) (sl : Nat → Nat) (wt wf : Int32) : Prop :=
  (ex = [] ∧ x = -1 ∧ wf = -1) ∨ ∃ (j u : Nat) (as w9 : Int32), ex = [j] ∧ x = nI j ∧ j < 10000 ∧ L j = -1 ∧ lo ≤ j ∧ cs ≤ j ∧ j + 1 ≤ cs1 ∧ O j = nI 7 ∧ A j = (rcA as, hd, sl, [u]) ∧ (A (j + 1) = (rcA w9, hd, sl, []) ∧ (¬ wt = -1 → ¬ w9 = -1)) ∧ BoQ u as wt wf
section ZV
variable {K K1 K2 : PK} {g : Nat → Nat → Nat} {ty ty1 : Nat → Int32} {sz nd q : Nat}
theorem SkA.be (hb : BdE K K1) (e : ty1 = ty) (h : SkA K g ty sz nd) : SkA K1 g ty1 sz nd := fun q hq hl => by
  subst e
  have hq0 := hb.old1 hq
  have hn : ¬ K.1 q = 0 := by rw [hq0]; decide
  obtain ⟨a1, a2, a3, a4, a5, a6, a7, a8, a9, a10, a11⟩ := h q hq0 hl
  have k0 : K1.2.1 0 q = K.2.1 0 q := hb.I hn (by decide) (by decide)
  have k2 : K1.2.1 2 q = K.2.1 2 q := hb.I hn (by decide) (by decide)
  unfold SkO
  rw [k0, k2, hb.C hn 0, hb.C hn 1, hb.C hn 2, hb.C hn 3]
  have kx : ∀ x : Nat, K.1 x = 1 → K1.1 x = 1 ∧ K1.2.1 0 x = K.2.1 0 x := fun x hx => ⟨hb.T hx (by decide), hb.I (by rw [hx]; decide) (by decide) (by decide)⟩
  refine ⟨a1, a2, fun z x hx => ?_, fun z x y hx hy => ?_, fun z d hd => ?_, a6, a7, a8, a9, a10, fun z => ⟨(a11 z).1, fun x x1 x2 x3 => (a11 z).2 x (hb.old1 x1) x2 x3⟩⟩
  · obtain ⟨b1, b2, b3, b4⟩ := a3 z x hx
    rw [(kx x b3).2]
    exact ⟨b1, b2, (kx x b3).1, b4⟩
  · obtain ⟨b1, b2, b3, b4, b5⟩ := a4 z x y hx hy
    rw [(kx y b4.1).2]
    refine ⟨b1, b2, b3, ⟨(kx y b4.1).1, b4.2⟩, fun v hv => ?_⟩
    obtain ⟨c1, c2, c3⟩ := b5 v hv
    rw [(kx v c2).2]
    exact ⟨c1, (kx v c2).1, c3⟩
  · obtain ⟨b1, b2, b3, b4, b5, b6⟩ := a5 z d hd
    rw [(kx d b2.1).2]
    refine ⟨b1, ⟨(kx d b2.1).1, b2.2⟩, b3, fun x hx => ?_, b5, fun x hx => ?_⟩
    · obtain ⟨c1, c2⟩ := b4 x hx
      rw [(kx x c1).2]
      exact ⟨(kx x c1).1, c2⟩
    · obtain ⟨c1, c2⟩ := b6 x hx
      rw [(kx x c1).2]
      exact ⟨(kx x c1).1, c2⟩
theorem BeL.any {o : Option Nat} (h : BeL K K1 none) : BeL K K1 o := fun p hp _ f => h p hp (fun z => by cases z) f
/-- a Loop that is new -/
theorem BeL.new {o : Option Nat} {lq : Nat} (h : BeL K K1 o) (hb : BdE K K1) (h0 : K.1 lq = 0) (q : BeL K1 K2 (some lq)) : BeL K K2 o := fun p hp hn f => by
  have e : ¬ some lq = some p := fun z => by
    have z2 : lq = p := Option.some.inj z
    rw [z2, hp] at h0
    exact absurd h0 (by decide)
  exact (q p (hb.T hp (by decide)) e f).trans (h p hp hn f)
/-- the states at the loop's jumps: one comes there only if the loop is come to -/
def LpR (K : PK) (lp : Option Nat) (rL : Prop) : Prop := ∀ lq : Nat, lp = some lq → (¬ K.2.1 29 lq = -1 → rL) ∧ (¬ K.2.1 30 lq = -1 → rL)
theorem LpR.same {lp : Option Nat} {rL : Prop} (h : LpR K lp rL) (hk : ∀ lq : Nat, lp = some lq → ∀ f : Nat, 27 ≤ f → f ≤ 30 → K1.2.1 f lq = K.2.1 f lq) : LpR K1 lp rL := fun lq e => by
  rw [hk lq e 29 (by omega) (by omega), hk lq e 30 (by omega) (by omega)]
  exact h lq e
theorem LpR.new {lq : Nat} {rL : Prop} (h29 : K.2.1 29 lq = -1) (h30 : K.2.1 30 lq = -1) : LpR K (some lq) rL := fun l9 e => by
  have e9 : lq = l9 := Option.some.inj e
  subst e9
  exact ⟨fun z => absurd h29 z, fun z => absurd h30 z⟩
theorem BdE.fr {p : Nat} (h : BdE K K1) (hp : K1.1 p = 0) : K.1 p = 0 := Classical.byContradiction fun z => by
  rw [(h.1 p z).1] at hp
  exact z hp
theorem BeL.loop {ob : Option Nat} {q : Nat} {x1 : Int32} (hq : K.1 q = 0) : BeL K (_root_.Jvm.Pilot.@@N@@.kI (_root_.Jvm.Pilot.@@N@@.kI (_root_.Jvm.Pilot.@@N@@.kI (_root_.Jvm.Pilot.@@N@@.kI (_root_.Jvm.Pilot.@@N@@.kI (kC (kN K q 9 0) 16 q ob) 26 q x1) 27 q (-1)) 28 q (-1)) 29 q (-1)) 30 q (-1)) none := fun p hp _ f => by
  have hn : ¬ p = q := fun z => by rw [z, hq] at hp; exact absurd hp (by decide)
  exact (kI_ne hn).trans ((kI_ne hn).trans ((kI_ne hn).trans ((kI_ne hn).trans ((kI_ne hn).trans (if_neg hn)))))
theorem BeF.loop {ob : Option Nat} {q : Nat} {x1 : Int32} (hq : K.1 q = 0) : BeF K (_root_.Jvm.Pilot.@@N@@.kI (_root_.Jvm.Pilot.@@N@@.kI (_root_.Jvm.Pilot.@@N@@.kI (_root_.Jvm.Pilot.@@N@@.kI (_root_.Jvm.Pilot.@@N@@.kI (kC (kN K q 9 0) 16 q ob) 26 q x1) 27 q (-1)) 28 q (-1)) 29 q (-1)) 30 q (-1)) := fun p hp _ => by
  have hn : ¬ p = q := fun z => by rw [z, hq] at hp; exact absurd hp (by decide)
  exact (kI_ne hn).trans ((kI_ne hn).trans ((kI_ne hn).trans ((kI_ne hn).trans ((kI_ne hn).trans (if_neg hn)))))
theorem loop_27 {ob : Option Nat} {q : Nat} {x1 : Int32} : (_root_.Jvm.Pilot.@@N@@.kI (_root_.Jvm.Pilot.@@N@@.kI (_root_.Jvm.Pilot.@@N@@.kI (_root_.Jvm.Pilot.@@N@@.kI (_root_.Jvm.Pilot.@@N@@.kI (kC (kN K q 9 0) 16 q ob) 26 q x1) 27 q (-1)) 28 q (-1)) 29 q (-1)) 30 q (-1)).2.1 27 q = -1 := (kI_of (by decide)).trans ((kI_of (by decide)).trans ((kI_of (by decide)).trans kI_eq))
theorem loop_28 {ob : Option Nat} {q : Nat} {x1 : Int32} : (_root_.Jvm.Pilot.@@N@@.kI (_root_.Jvm.Pilot.@@N@@.kI (_root_.Jvm.Pilot.@@N@@.kI (_root_.Jvm.Pilot.@@N@@.kI (_root_.Jvm.Pilot.@@N@@.kI (kC (kN K q 9 0) 16 q ob) 26 q x1) 27 q (-1)) 28 q (-1)) 29 q (-1)) 30 q (-1)).2.1 28 q = -1 := (kI_of (by decide)).trans ((kI_of (by decide)).trans kI_eq)
theorem loop_29 {ob : Option Nat} {q : Nat} {x1 : Int32} : (_root_.Jvm.Pilot.@@N@@.kI (_root_.Jvm.Pilot.@@N@@.kI (_root_.Jvm.Pilot.@@N@@.kI (_root_.Jvm.Pilot.@@N@@.kI (_root_.Jvm.Pilot.@@N@@.kI (kC (kN K q 9 0) 16 q ob) 26 q x1) 27 q (-1)) 28 q (-1)) 29 q (-1)) 30 q (-1)).2.1 29 q = -1 := (kI_of (by decide)).trans kI_eq
theorem loop_30 {ob : Option Nat} {q : Nat} {x1 : Int32} : (_root_.Jvm.Pilot.@@N@@.kI (_root_.Jvm.Pilot.@@N@@.kI (_root_.Jvm.Pilot.@@N@@.kI (_root_.Jvm.Pilot.@@N@@.kI (_root_.Jvm.Pilot.@@N@@.kI (kC (kN K q 9 0) 16 q ob) 26 q x1) 27 q (-1)) 28 q (-1)) 29 q (-1)) 30 q (-1)).2.1 30 q = -1 := kI_eq
end ZV
section ZW
variable {fi : Nat → Nat → Prop} {fdn : Nat → Nat} {fty : Nat → Nat → Nat} {X : PXm} {K K1 : PK} {A A0 A1 A2 : Nat → AS} {Q Q1 : RX} {pd pd1 pd2 pd3 : Nat → Prop} {m sn sn1 lo cs c1 c2 c3 cs1 hd hd1 g0 g1 j u k lq lw : Nat} {as as0 as1 as2 as3 wt wf bs x : Int32} {sl sl1 : Nat → Nat} {O L R H O1 L1 R1 H1 : Nat → Int32} {os xs ex yb yc xb xb1 xc xc1 : List Nat}
/-- a loop begins: it has no jumps yet -/
theorem LpS.new (h27 : K.2.1 27 lq = -1) (h28 : K.2.1 28 lq = -1) (h29 : K.2.1 29 lq = -1) (h30 : K.2.1 30 lq = -1) (hl : ∀ z : Nat, pd z → z < cs) : LpS K O L A pd (some lq) lw cs hd sl hd sl [] [] := by
  refine ⟨hl, fun e => ⟨rfl, rfl⟩, fun lq9 e => ?_⟩
  have e9 : lq = lq9 := Option.some.inj e
  subst e9
  refine ⟨⟨h27, h28, LpJ.nil, LpJ.nil, ?_, ?_, fun z hz => absurd hz (List.not_mem_nil), fun z hz => absurd hz (List.not_mem_nil), Nat.le_refl _, fun _ _ => rfl⟩, fun z hz => absurd hz (List.not_mem_nil)⟩
  · rw [h29]; exact AsO.m1
  · rw [h30]; exact AsO.m1
theorem LpS.c (h : LpS K O L A pd (some lq) lw cs hd sl hd1 sl1 xb xc) : LpC K O L A pd lq lw cs hd sl hd1 sl1 xb xc := (h.2.2 lq rfl).1
/-- the jump out of the loop, if there is one, is aimed -/
theorem StW.exit (h : StW fi fdn fty X A A1 Q Q1 pd pd1 m sn lo cs c1 as0 (-1) hd hd1 sl sl1 g0 g1 O1 L1 R1 H1 []) (he : ExJ O1 L1 A1 x ex lo cs c2 hd sl wt wf) (hc2 : cs ≤ c2 ∧ c2 < c1) (hc : c1 < 10000) (has : ¬ wf = -1 → ¬ as0 = -1) (hw : WfA (1, hd, sl, [])) (hs : hd ≤ sn) :
    StW fi fdn fty X A (upS A1 c1 (rcA wf, hd, sl, [])) Q Q1 pd (pdm pd1 ex) m sn lo cs c1 as0 wf hd hd sl sl g0 g1 O1 (aim L1 ex c1) R1 H1 [] := by
  rcases he with ⟨e1, e2, e3⟩ | ⟨j, u, as, w9, e1, e2, e3, e4, e5, e6, e7, e8, e9, ⟨e10, e12⟩, e11⟩
  · subst e1
    subst e3
    have h8 := h.2.2.2.2.2.2.2.1
    exact h.lnd (xs := []) (bs := (-1)) (fun z hz => absurd hz (List.not_mem_nil)) LpJ.nil (fun z => absurd rfl z) (fun z => absurd rfl z) (fun z hz => absurd hz (List.not_mem_nil)) ⟨by omega, hc⟩ has hw hs
  · subst e1
    exact h.ifl ⟨e5, by omega⟩ e6 e8 e9 e10 e11.1 (fun z q => e12 ((e11.2.2 z).1 q)) (fun z => (e11.2.2 z).2) (fun z => absurd rfl z) hc has hw hs
theorem ExJ.dn {cs0 : Nat} (h : ExJ O L A x ex lo cs c2 hd sl wt wf) (hc : cs0 ≤ cs) : ExJ O L A x ex lo cs0 c2 hd sl wt wf := by
  rcases h with h | ⟨j, u, as, w9, e1, e2, e3, e4, e5, e6, e7⟩
  · exact Or.inl h
  · exact Or.inr ⟨j, u, as, w9, e1, e2, e3, e4, e5, by omega, e7⟩
theorem ExJ.chn (h : ExJ O L A x ex lo cs c2 hd sl wt wf) : ChnJ L x ex := by
  rcases h with ⟨e1, e2, _⟩ | ⟨j, u, as, w9, e1, e2, e3, e4, _⟩
  · rw [e1, e2]; rfl
  · rw [e1, e2]; exact ChnJ.one e4 e3
theorem ExJ.rng (h : ExJ O L A x ex lo cs c2 hd sl wt wf) : ∀ z : Nat, z ∈ ex → cs ≤ z ∧ z + 1 ≤ c2 := fun z hz => by
  rcases h with ⟨e1, _⟩ | ⟨j, u, as, w9, e1, e2, e3, e4, e5, e6, e7, _⟩
  · rw [e1] at hz; exact absurd hz (List.not_mem_nil)
  · rw [e1] at hz
    rw [List.mem_singleton.mp hz]
    exact ⟨e6, e7⟩
theorem ExJ.same (h : ExJ O L A x ex lo cs c2 hd sl wt wf) (hs : ∀ z : Nat, z < c2 → O1 z = O z ∧ L1 z = L z) (ha : ∀ z : Nat, z ≤ c2 → A1 z = A z) : ExJ O1 L1 A1 x ex lo cs c2 hd sl wt wf := by
  rcases h with e | ⟨j, u, as, w9, e1, e2, e3, e4, e5, e6, e7, e8, e9, ⟨e10, e12⟩, e11⟩
  · exact Or.inl e
  · exact Or.inr ⟨j, u, as, w9, e1, e2, e3, ((hs j (by omega)).2).trans e4, e5, e6, e7, ((hs j (by omega)).1).trans e8, (ha j (by omega)).trans e9, ⟨(ha (j + 1) (by omega)).trans e10, e12⟩, e11⟩
/-- another state is told at a place behind it -/
theorem ExJ.land (h : ExJ O L A x ex lo cs c2 hd sl wt wf) (hs : ∀ z : Nat, z < c2 → O1 z = O z ∧ L1 z = L z) (hc : c2 ≤ c1) (ha : ∀ z : Nat, z < c1 → A1 z = A z) (hn : A1 c1 = (rcA as3, hd, sl, [])) (h1 : A c1 = (rcA as1, hd1, sl1, [])) (g : ¬ as1 = -1 → ¬ as3 = -1) : ExJ O1 L1 A1 x ex lo cs c2 hd sl wt wf := by
  rcases h with e | ⟨j, u, as, w9, e1, e2, e3, e4, e5, e6, e7, e8, e9, ⟨e10, e12⟩, e11⟩
  · exact Or.inl e
  · by_cases z : j + 1 = c1
    · have h5 : rcA w9 = rcA as1 := by
        have y := h1
        rw [← z, e10] at y
        exact congrArg (fun z => z.1) y
      exact Or.inr ⟨j, u, as, as3, e1, e2, e3, ((hs j (by omega)).2).trans e4, e5, e6, e7, ((hs j (by omega)).1).trans e8, (ha j (by omega)).trans e9, ⟨by rw [z]; exact hn, fun q => g (rcA_of (h5.symm.trans (rcA_1 (e12 q))))⟩, e11⟩
    · exact Or.inr ⟨j, u, as, w9, e1, e2, e3, ((hs j (by omega)).2).trans e4, e5, e6, e7, ((hs j (by omega)).1).trans e8, (ha j (by omega)).trans e9, ⟨(ha (j + 1) (by omega)).trans e10, e12⟩, e11⟩
theorem ExJ.asw (h : ExJ O L A x ex lo cs c2 hd sl wt wf) (has : ¬ wt = -1 → ¬ as0 = -1) (hf : ∀ (j u : Nat) (as : Int32), ex = [j] → BoQ u as wt wf → ¬ wf = -1 → ¬ as0 = -1) : ¬ wf = -1 → ¬ as0 = -1 := fun z => by
  rcases h with ⟨_, _, e3⟩ | ⟨j, u, as, w9, e1, e2, e3, e4, e5, e6, e7, e8, e9, e10, e11⟩
  · exact absurd e3 z
  · exact hf j u as e1 e11 z
/-- jumps out of a loop, as they wait -/
def BrJ (O L : Nat → Int32) (A : Nat → AS) (x bs : Int32) (xs : List Nat) (lw cs hd : Nat) (sl : Nat → Nat) : Prop := ChnJ L x xs ∧ LpJ O A xs lw cs hd sl bs
theorem BrJ.same (h : BrJ O L A x bs xs lw cs hd sl) (hs : ∀ z : Nat, z ∈ xs → O1 z = O z ∧ L1 z = L z ∧ A1 z = A z) (hc : cs ≤ cs1) : BrJ O1 L1 A1 x bs xs lw cs1 hd sl := ⟨h.1.same (fun y hy => (hs y hy).2.1), fun z hz => by
  obtain ⟨a1, a2, a3, a4⟩ := h.2 z hz
  obtain ⟨b1, b2, b3⟩ := hs z hz
  rw [b1, b3]
  exact ⟨a1, by omega, a3, a4⟩⟩
theorem BrJ.lt (h : BrJ O L A x bs xs lw cs hd sl) : ∀ z : Nat, z ∈ xs → z < cs := fun z hz => (h.2 z hz).2.1
/-- what is still to be aimed behind a loop -/
theorem PdS.loop (h : PdS pd pd1 xb xb1 xc xc1 [] cs c1) (hl : ∀ z : Nat, pd1 z → z < c1) (hX : ∀ z : Nat, pd2 z ↔ pd1 z ∨ z ∈ ex) (hex : ∀ z : Nat, z ∈ ex → c1 ≤ z) (q : PdS pd2 pd3 [] yb [] yc [] c2 c3) (h1 : cs ≤ c1) (h2 : c1 ≤ c2) {c4 : Nat} : PdS pd (pdm (pdm (pdm pd3 yc) ex) yb) xb xb1 xc xc1 [] cs c4 := by
  obtain ⟨a1, a2, a3, a4, a5, a6, a7⟩ := h
  obtain ⟨b1, b2, b3, b4, b5, b6, b7⟩ := q
  have nb : ∀ z : Nat, z ∈ yb → c2 ≤ z := fun z hz => (b5 z hz).resolve_left (List.not_mem_nil)
  have nc : ∀ z : Nat, z ∈ yc → c2 ≤ z := fun z hz => (b6 z hz).resolve_left (List.not_mem_nil)
  refine ⟨fun z hz => ?_, fun z hz => ?_, a3, a4, a5, a6, fun z hz => absurd hz (List.not_mem_nil)⟩
  · have w := hl z (a1 z hz)
    exact ⟨⟨⟨b1 z ((hX z).mpr (Or.inl (a1 z hz))), fun y => by have := nc z y; omega⟩, fun y => by have := hex z y; omega⟩, fun y => by have := nb z y; omega⟩
  · obtain ⟨⟨⟨z1, z2⟩, z3⟩, z4⟩ := hz
    rcases b2 z z1 with w | w | w | w
    · rcases (hX z).mp w with y | y
      · rcases a2 z y with v | v | v | v
        · exact Or.inl v
        · exact Or.inr (Or.inl v)
        · exact Or.inr (Or.inr (Or.inl v))
        · exact absurd v (List.not_mem_nil)
      · exact absurd y z3
    · exact absurd w z4
    · exact absurd w z2
    · exact absurd w (List.not_mem_nil)
end ZW
section ZX
variable {fi : Nat → Nat → Prop} {fdn : Nat → Nat} {fty : Nat → Nat → Nat} {X : PXm} {A A1 A2 : Nat → AS} {Q Q1 : RX} {pd pd1 pd2 : Nat → Prop} {m sn lo cs c1 hd hd1 hd2 g0 g1 k nd vr c0 c : Nat} {as0 as1 : Int32} {sl sl1 sl2 : Nat → Nat} {O1 L1 R1 H1 O2 L2 f26 f27 : Nat → Int32} {os : List Nat}
/-- behind one instruction more nothing goes to the end -/
theorem StW.ail (h : StW fi fdn fty X A A1 Q Q1 pd pd1 m sn lo cs c1 as0 as1 hd hd1 sl sl1 g0 g1 O1 L1 R1 H1 os) (hO : O2 c1 = nI k) (hk : k < 31 ∧ ¬ k = 28) (hs : SmS A1 A2 O1 O2 L1 L2 pd1 pd2 c1) : AiL A2 O2 L2 pd2 cs (c1 + 1) := fun pc x y1 y2 y3 y4 y5 y6 y7 => by
  by_cases z : pc = c1
  · rw [z, hO] at y4
    exact absurd ((nI_eq (by omega) (by omega)).mp y4) hk.2
  · obtain ⟨s1, s2, s3, s4⟩ := hs pc (by omega)
    rw [s1] at y3
    rw [s2] at y4
    rw [s3] at y7
    have w := h.2.1.2.2 pc x y1 (by omega) y3 y4 (fun v => y5 (s4.mpr v)) y6 y7
    omega
theorem EnV.up (h : EnV f26 f27 nd vr hd c0 sl) (hh : hd ≤ hd2) (hs : ∀ s : Nat, s < hd → sl2 s = sl s) : EnV f26 f27 nd vr hd2 c0 sl2 := by
  obtain ⟨⟨h1, h2, h3⟩, h4⟩ := h
  refine ⟨⟨by omega, (hs 0 (by omega)).trans h2, h3⟩, fun i hi => ?_⟩
  obtain ⟨s, t, a1, a2, a3, a4, a5, a6⟩ := h4 i hi
  exact ⟨s, t, a1, a2, by omega, a4, a5, (hs s a3).trans a6⟩
theorem WfA.low9 (h : WfA (1, hd, sl, os)) : WfA (1, hd, upM sl hd c, []) := fun s hs h9 => by
  have hs9 : s < hd := hs
  have h8 : 1000 ≤ upM sl hd c s := h9
  rw [upM_ne (by omega)] at h8
  obtain ⟨w1, w2⟩ := h s hs9 h8
  have w3 : s + 1 < hd := w1
  refine ⟨w3, ?_⟩
  show upM sl hd c (s + 1) = 999
  rw [upM_ne (by omega)]; exact w2
end ZX
