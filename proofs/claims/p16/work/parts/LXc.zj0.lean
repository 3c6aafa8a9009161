/-! calls -/
/-- what is called: a name (23) or a method (24), of something of class c -/
def CaF (pb : PNb) (x1 x2 : Int32) (np rt c : Nat) (pt : Nat → Nat) : Prop := c < 60 ∧
  ((x1 = 23 ∧ ∀ d : Nat, (d < 60 → (bX pb).1 d) → pb.1 d c → d < 60 ∧ ∃ j : Nat, (bX pb).2.1 d x2 = some j ∧ (bX pb).2.2.1 j = np ∧ (∀ i : Nat, i < np → (bX pb).2.2.2.1 j i = pt i) ∧ (bX pb).2.2.2.2.1 j = rt ∧ pb.1 d ((bX pb).2.2.2.2.2 j)) ∨
   (x1 = 24 ∧ ∃ j : Nat, x2 = nI j ∧ (bX pb).2.2.1 j = np ∧ (∀ i : Nat, i < np → (bX pb).2.2.2.1 j i = pt i) ∧ (bX pb).2.2.2.2.1 j = rt ∧ TL pb.1 c ((bX pb).2.2.2.2.2 j) ∧ ∃ (d : Nat) (x : Int32), (bX pb).1 d ∧ (bX pb).2.1 d x = some j))
/-- one of q's arguments -/
def MmA (K : PK) (g : Nat → Nat → Nat) (q x : Nat) : Prop := K.1 x = 1 ∧ 1 ≤ g 0 x ∧ g 0 x + 1 ≤ g 0 q ∧ rS (g 2 x) + 1 ≤ rE (g 2 x) ∧ rE (g 2 x) + 1 ≤ rE (g 2 q) ∧ ndE g x + 9 ≤ ndE g q ∧ 1 ≤ ndE g x ∧ g 1 x = q + 1
def ArF (K : PK) (g : Nat → Nat → Nat) (q : Nat) : Prop := (∀ x : Nat, K.2.2.1 1 q = some x → MmA K g q x ∧ rM (g 2 q) ≤ rS (g 2 x)) ∧ ∀ x y : Nat, MmA K g q x → K.2.2.1 4 x = some y → MmA K g q y ∧ rE (g 2 x) ≤ rS (g 2 y)
def ArN (K : PK) (g : Nat → Nat → Nat) (q p : Nat) (o : Option Nat) : Prop := ∀ x : Nat, o = some x → MmA K g q x ∧ p ≤ rS (g 2 x)
section ZJ
variable {pb : PNb} {K K1 : PK} {g : Nat → Nat → Nat} {O L R H : Nat → Int32} {A : Nat → AS} {pd : Nat → Prop} {m sn lo cs hd np rt c q x p t u : Nat} {x1 x2 as : Int32} {sl pt pt1 : Nat → Nat} {os ar : List Nat} {o : Option Nat} {fi : Nat → Nat → Prop}
theorem ArgL.congr : ∀ {ar : List Nat}, (∀ i : Nat, i < ar.length → pt1 i = pt i) → ArgL fi pt ar → ArgL fi pt1 ar
  | [], _, _ => trivial
  | t :: l, h, q => ⟨by rw [h l.length (Nat.lt_succ_self _)]; exact q.1, ArgL.congr (fun i hi => h i (Nat.lt_succ_of_lt hi)) q.2⟩
theorem CaF.emit (h : CaF pb x1 x2 np rt c pt) (e : EmS pb.1 pb.2.1 pb.2.2.1 pb.2.2.2 O L R H A pd m sn lo cs as hd sl (ar ++ c :: os)) (hl : (ar ++ c :: os).length ≤ 248) (ha : ar.length = np) {k : Nat} (hk : k = np) (hA : ArgL pb.1 pt ar) :
    EvQ pb.1 pb.2.1 pb.2.2.1 pb.2.2.2 O L R H (upI O cs x1) (upI L cs x2) (upI R cs (nI k)) (upI H cs (nI hd)) A (upS A (cs + 1) (rcA as, hd, sl, rsO rt os)) pd m sn lo cs (cs + 1) as as hd sl (rsO rt os) := by
  subst hk
  subst ha
  obtain ⟨hc, ⟨e1, h1⟩ | ⟨e1, j, e2, h2, h3, h4, h5, h6⟩⟩ := h
  · subst e1
    refine e.call hl hc (fun d d1 d2 => ?_)
    obtain ⟨a1, j, a2, a3, a4, a5, a6⟩ := h1 d d1 d2
    exact ⟨a1, j, a2, a3, hA.congr a4, a5, a6⟩
  · subst e1
    subst e2
    exact e.callS hl h2 (hA.congr h3) h4 h5 h6
theorem ArN.first (h : ArF K g q) (ho : K.2.2.1 1 q = o) : ArN K g q (rM (g 2 q)) o := fun x hx => h.1 x (ho.trans hx)
theorem ArN.next (h : ArF K g q) (hx : MmA K g q x) (ho : K.2.2.1 4 x = o) : ArN K g q (rE (g 2 x)) o := fun y hy => h.2 x y hx (ho.trans hy)
theorem MmA.be (hb : BdE K K1) (h : MmA K g q x) : MmA K1 g q x := ⟨hb.T h.1 (by decide), h.2⟩
theorem ArF.be (hb : BdE K K1) (hq : K.1 q = 1) (h : ArF K g q) : ArF K1 g q := by
  refine ⟨fun x hx => ?_, fun x y hx hy => ?_⟩
  · rw [hb.C (by rw [hq]; decide) 1] at hx
    exact ⟨(h.1 x hx).1.be hb, (h.1 x hx).2⟩
  · by_cases z : K.1 x = 0
    · rcases hb.2 x z with w | w
      · rw [hx.1] at w; exact absurd w (by decide)
      · rw [hx.1] at w; exact absurd w (by decide)
    · have e := (hb.1 x z).1
      have hx0 : MmA K g q x := ⟨e.symm.trans hx.1, hx.2⟩
      rw [hb.C z 4] at hy
      exact ⟨(h.2 x y hx0 hy).1.be hb, (h.2 x y hx0 hy).2⟩
theorem MeO.caf {G : pT} {ty : Nat → Int32} {sz nd m2 np rt : Nat} {it : Nat → Nat} (hc : c < 60) (h : ∀ d : Nat, (d < 60 → (bX pb).1 d) → pb.1 d c → d < 60 ∧ ∃ j : Nat, (bX pb).2.1 d (K.2.1 6 m2) = some j ∧ (bX pb).2.2.1 j = np ∧ (∀ i : Nat, i < np → (bX pb).2.2.2.1 j i = tyc (tyN ty sz (K.2.1 2 (it i)))) ∧ (bX pb).2.2.2.2.1 j = rt ∧ pb.1 d ((bX pb).2.2.2.2.2 j)) (hn : K.2.1 6 m2 = x2) : CaF pb 23 x2 np rt c (fun i => tyc (tyN ty sz (K.2.1 2 (it i)))) := by
  subst hn
  exact ⟨hc, Or.inl ⟨rfl, h⟩⟩
end ZJ
