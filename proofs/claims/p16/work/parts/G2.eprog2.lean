/-- a new Decl with its four lists -/
def mkD (G : pT) (K : PK) (q : Nat) (x1 x2 x3 x4 : Int32) (f1 f2 f3 f4 : Nat) : PK := addL G (addL G (addL G (addL G (kI (kI (kI (kI (kI (kN K q 4 0) 15 q x1) 16 q x2) 17 q x3) 18 q x4) 19 q (-1)) q 8 f1) q 9 f2) q 11 f3) q 12 f4
def gD (g : Nat → Nat → Nat) (q f1 f2 f3 f4 bt : Nat) : Nat → Nat → Nat := fun i p => if p = q then (if i = 5 then bt else 0) else if p = f1 ∨ p = f2 ∨ p = f3 ∨ p = f4 then (if i = 3 then (if p = f1 then 1 else if p = f2 then 2 else if p = f3 then 4 else 5) else if i = 4 then q else 0) else g i p
def mkM (G : pT) (K : PK) (q o : Nat) (x1 x2 x3 : Int32) (f1 : Nat) : PK := kI (addL G (kI (kI (kI (kC (kN K q 3 0) 5 q (some o)) 6 q x1) 7 q x2) 8 q x3) q 6 f1) 9 q (-1)
def gM (g : Nat → Nat → Nat) (q f1 : Nat) : Nat → Nat → Nat := fun i p => if p = f1 then (if i = 3 then 3 else if i = 4 then q else 0) else g i p
section EQ
variable {G : pT} {K K1 K2 : PK} {g g1 g2 : Nat → Nat → Nat} {p q o x f1 f2 f3 f4 fd es n cap bt : Nat} {it : Nat → Nat} {x1 x2 x3 x4 : Int32}
theorem kN5_sm {s : Nat} (hq : K.1 q = 0) (hp : ¬ K.1 p = 0) : Sm K (kI (kI (kI (kI (kI (kN K q s 0) 15 q x1) 16 q x2) 17 q x3) 18 q x4) 19 q (-1)) p := by
  have hn : ¬ p = q := fun z => hp (by rw [z]; exact hq)
  obtain ⟨a1, a2, a3, a4, a5, a6⟩ := kN_ext (s := s) (n := 0) hq p hp
  exact ⟨a1, fun f => (kI_ne hn).trans ((kI_ne hn).trans ((kI_ne hn).trans ((kI_ne hn).trans ((kI_ne hn).trans (a2 f))))), a3, a4, a5, a6⟩
theorem LsC.addL (hx : K.1 x = 0) (hes : ¬ es = 0) (hq : ¬ K.1 q = 6) (hpq : ¬ p = q) (h : LsC G K p es n it cap) : LsC G (addL G K q fd x) p es n it cap := by
  have hT : ∀ p : Nat, ¬ K.1 p = 0 → (_root_.Jvm.Pilot.@@N@@.addL G K q fd x).1 p = K.1 p := fun p hp => if_neg (fun z => hp (by rw [z]; exact hx))
  have hp5 : ¬ K.1 p = 0 := by rw [h.1]; decide
  exact LsC.wx hT hes (addL_sm hx hp5 hpq) (fun e he _ => addL_sm hx (by rw [he]; decide) (fun z => hq (by rw [← z]; exact he))) h
/-- fresh ones -/
theorem WPr.decl (h : WPr G K g) (hq : K.1 q = 0) (h1 : (kI (kI (kI (kI (kI (kN K q 4 0) 15 q x1) 16 q x2) 17 q x3) 18 q x4) 19 q (-1)).1 f1 = 0) (h2 : (addL G (kI (kI (kI (kI (kI (kN K q 4 0) 15 q x1) 16 q x2) 17 q x3) 18 q x4) 19 q (-1)) q 8 f1).1 f2 = 0) (h3 : (addL G (addL G (kI (kI (kI (kI (kI (kN K q 4 0) 15 q x1) 16 q x2) 17 q x3) 18 q x4) 19 q (-1)) q 8 f1) q 9 f2).1 f3 = 0) (h4 : (addL G (addL G (addL G (kI (kI (kI (kI (kI (kN K q 4 0) 15 q x1) 16 q x2) 17 q x3) 18 q x4) 19 q (-1)) q 8 f1) q 9 f2) q 11 f3).1 f4 = 0) (hbt : 1 ≤ bt → x4 = 0) :
    WPr G (mkD G K q x1 x2 x3 x4 f1 f2 f3 f4) (gD g q f1 f2 f3 f4 bt) ∧ (∀ p : Nat, ¬ K.1 p = 0 → Sm K (mkD G K q x1 x2 x3 x4 f1 f2 f3 f4) p ∧ ∀ i : Nat, gD g q f1 f2 f3 f4 bt i p = g i p) ∧ (mkD G K q x1 x2 x3 x4 f1 f2 f3 f4).1 q = 4 ∧ (mkD G K q x1 x2 x3 x4 f1 f2 f3 f4).2.1 15 q = x1 ∧ (mkD G K q x1 x2 x3 x4 f1 f2 f3 f4).2.1 18 q = x4 ∧ (mkD G K q x1 x2 x3 x4 f1 f2 f3 f4).2.2.1 8 q = some f1 ∧ (mkD G K q x1 x2 x3 x4 f1 f2 f3 f4).2.2.1 9 q = some f2 ∧ (mkD G K q x1 x2 x3 x4 f1 f2 f3 f4).2.1 23 f1 = 0 ∧ (mkD G K q x1 x2 x3 x4 f1 f2 f3 f4).2.1 23 f2 = 0 ∧ (gD g q f1 f2 f3 f4 bt 5 q = bt ∧ (mkD G K q x1 x2 x3 x4 f1 f2 f3 f4).2.2.1 10 q = none ∧ (mkD G K q x1 x2 x3 x4 f1 f2 f3 f4).2.2.1 11 q = some f3 ∧ (mkD G K q x1 x2 x3 x4 f1 f2 f3 f4).2.2.1 12 q = some f4 ∧ (mkD G K q x1 x2 x3 x4 f1 f2 f3 f4).2.1 23 f3 = 0 ∧ (mkD G K q x1 x2 x3 x4 f1 f2 f3 f4).2.1 23 f4 = 0) ∧ ∀ p : Nat, K.1 p = 0 → (mkD G K q x1 x2 x3 x4 f1 f2 f3 f4).1 p = 0 ∨ p = q ∨ (mkD G K q x1 x2 x3 x4 f1 f2 f3 f4).1 p = 5 := by
  unfold mkD
  generalize e0 : kI (kI (kI (kI (kI (kN K q 4 0) 15 q x1) 16 q x2) 17 q x3) 18 q x4) 19 q (-1) = K0 at h1 h2 h3 h4 ⊢
  have t0 : ∀ p : Nat, K0.1 p = if p = q then 4 else K.1 p := fun p => by rw [← e0]; rfl
  have s0 : ∀ p : Nat, ¬ K.1 p = 0 → Sm K K0 p := fun p hp => by rw [← e0]; exact kN5_sm hq hp
  have c0 : ∀ f : Nat, K0.2.2.1 f q = none := fun f => by rw [← e0]; exact if_pos rfl
  have i15 : K0.2.1 15 q = x1 := by rw [← e0]; exact (kI_of (by decide)).trans ((kI_of (by decide)).trans ((kI_of (by decide)).trans ((kI_of (by decide)).trans kI_eq)))
  have i19 : K0.2.1 19 q = -1 := by rw [← e0]; exact kI_eq
  have i21 : K0.2.1 21 q = 0 := by rw [← e0]; exact (kI_of (by decide)).trans ((kI_of (by decide)).trans ((kI_of (by decide)).trans ((kI_of (by decide)).trans ((kI_of (by decide)).trans (if_pos rfl)))))
  have l0 : K0.2.2.2.1 q = 0 := by rw [← e0]; exact if_pos rfl
  have i18 : K0.2.1 18 q = x4 := by rw [← e0]; exact (kI_of (by decide)).trans kI_eq
  clear e0
  have tq : K0.1 q = 4 := by rw [t0]; exact if_pos rfl
  generalize e1 : addL G K0 q 8 f1 = K1 at h2 h3 h4 ⊢
  generalize e2 : addL G K1 q 9 f2 = K2 at h3 h4 ⊢
  generalize e3 : addL G K2 q 11 f3 = K3 at h4 ⊢
  generalize e4 : addL G K3 q 12 f4 = K4
  have t1 : ∀ p : Nat, K1.1 p = if p = f1 then 5 else K0.1 p := fun p => by rw [← e1]; rfl
  have t2 : ∀ p : Nat, K2.1 p = if p = f2 then 5 else K1.1 p := fun p => by rw [← e2]; rfl
  have t3 : ∀ p : Nat, K3.1 p = if p = f3 then 5 else K2.1 p := fun p => by rw [← e3]; rfl
  have t4 : ∀ p : Nat, K4.1 p = if p = f4 then 5 else K3.1 p := fun p => by rw [← e4]; rfl
  have u1 : ∀ p : Nat, ¬ K0.1 p = 0 → K1.1 p = K0.1 p := fun p hp => (t1 p).trans (if_neg (fun z => hp (by rw [z]; exact h1)))
  have u2 : ∀ p : Nat, ¬ K1.1 p = 0 → K2.1 p = K1.1 p := fun p hp => (t2 p).trans (if_neg (fun z => hp (by rw [z]; exact h2)))
  have u3 : ∀ p : Nat, ¬ K2.1 p = 0 → K3.1 p = K2.1 p := fun p hp => (t3 p).trans (if_neg (fun z => hp (by rw [z]; exact h3)))
  have u4 : ∀ p : Nat, ¬ K3.1 p = 0 → K4.1 p = K3.1 p := fun p hp => (t4 p).trans (if_neg (fun z => hp (by rw [z]; exact h4)))
  have q1 : K1.1 q = 4 := (u1 q (by rw [tq]; decide)).trans tq
  have q2 : K2.1 q = 4 := (u2 q (by rw [q1]; decide)).trans q1
  have q3 : K3.1 q = 4 := (u3 q (by rw [q2]; decide)).trans q2
  have q4 : K4.1 q = 4 := (u4 q (by rw [q3]; decide)).trans q3
  have a1 : K1.1 f1 = 5 := (t1 f1).trans (if_pos rfl)
  have a2 : K2.1 f1 = 5 := (u2 f1 (by rw [a1]; decide)).trans a1
  have a3 : K3.1 f1 = 5 := (u3 f1 (by rw [a2]; decide)).trans a2
  have a4 : K4.1 f1 = 5 := (u4 f1 (by rw [a3]; decide)).trans a3
  have b2 : K2.1 f2 = 5 := (t2 f2).trans (if_pos rfl)
  have b3 : K3.1 f2 = 5 := (u3 f2 (by rw [b2]; decide)).trans b2
  have b4 : K4.1 f2 = 5 := (u4 f2 (by rw [b3]; decide)).trans b3
  have d3 : K3.1 f3 = 5 := (t3 f3).trans (if_pos rfl)
  have d4 : K4.1 f3 = 5 := (u4 f3 (by rw [d3]; decide)).trans d3
  have m4 : K4.1 f4 = 5 := (t4 f4).trans (if_pos rfl)
  have ne1 : ¬ f1 = q := fun z => by rw [z, tq] at h1; exact absurd h1 (by decide)
  have ne2 : ¬ f2 = q := fun z => by rw [z, q1] at h2; exact absurd h2 (by decide)
  have ne3 : ¬ f3 = q := fun z => by rw [z, q2] at h3; exact absurd h3 (by decide)
  have ne4 : ¬ f4 = q := fun z => by rw [z, q3] at h4; exact absurd h4 (by decide)
  have n21 : ¬ f2 = f1 := fun z => by rw [z, a1] at h2; exact absurd h2 (by decide)
  have n31 : ¬ f3 = f1 := fun z => by rw [z, a2] at h3; exact absurd h3 (by decide)
  have n32 : ¬ f3 = f2 := fun z => by rw [z, b2] at h3; exact absurd h3 (by decide)
  have n41 : ¬ f4 = f1 := fun z => by rw [z, a3] at h4; exact absurd h4 (by decide)
  have n42 : ¬ f4 = f2 := fun z => by rw [z, b3] at h4; exact absurd h4 (by decide)
  have n43 : ¬ f4 = f3 := fun z => by rw [z, d3] at h4; exact absurd h4 (by decide)
  have oT : ∀ p : Nat, ¬ K.1 p = 0 → K0.1 p = K.1 p := fun p hp => (s0 p hp).1
  have oq : ∀ p : Nat, ¬ K.1 p = 0 → ¬ p = q := fun p hp z => hp (by rw [z]; exact hq)
  have sm4 : ∀ p : Nat, ¬ K.1 p = 0 → Sm K K4 p := fun p hp => by
    have z := oq p hp
    have y0 : ¬ K0.1 p = 0 := by rw [oT p hp]; exact hp
    have y1 : ¬ K1.1 p = 0 := by rw [u1 p y0]; exact y0
    have y2 : ¬ K2.1 p = 0 := by rw [u2 p y1]; exact y1
    have y3 : ¬ K3.1 p = 0 := by rw [u3 p y2]; exact y2
    have w1 : Sm K0 K1 p := by rw [← e1]; exact addL_sm h1 y0 z
    have w2 : Sm K1 K2 p := by rw [← e2]; exact addL_sm h2 y1 z
    have w3 : Sm K2 K3 p := by rw [← e3]; exact addL_sm h3 y2 z
    have w4 : Sm K3 K4 p := by rw [← e4]; exact addL_sm h4 y3 z
    exact (s0 p hp).trans (w1.trans (w2.trans (w3.trans w4)))
  have gne : ∀ p : Nat, ¬ K.1 p = 0 → ∀ i : Nat, gD g q f1 f2 f3 f4 bt i p = g i p := fun p hp i => by
    refine (if_neg (oq p hp)).trans (if_neg (fun z => ?_))
    rcases z with z | z | z | z
    · rw [z] at hp; rw [t0, if_neg ne1] at h1; exact hp h1
    · rw [z] at hp; rw [t1, if_neg n21, t0, if_neg ne2] at h2; exact hp h2
    · rw [z] at hp; rw [t2, if_neg n32, t1, if_neg n31, t0, if_neg ne3] at h3; exact hp h3
    · rw [z] at hp; rw [t3, if_neg n43, t2, if_neg n42, t1, if_neg n41, t0, if_neg ne4] at h4; exact hp h4
  have wx : WX K K4 g (gD g q f1 f2 f3 f4 bt) := fun p hp => ⟨(sm4 p hp).1, gne p hp, fun _ => (sm4 p hp).2.1 0⟩
  have new : ∀ p : Nat, K.1 p = 0 → K4.1 p = 0 ∨ p = q ∨ p = f1 ∨ p = f2 ∨ p = f3 ∨ p = f4 := fun p hp => by
    by_cases z4 : p = f4
    · exact Or.inr (Or.inr (Or.inr (Or.inr (Or.inr z4))))
    by_cases z3 : p = f3
    · exact Or.inr (Or.inr (Or.inr (Or.inr (Or.inl z3))))
    by_cases z2 : p = f2
    · exact Or.inr (Or.inr (Or.inr (Or.inl z2)))
    by_cases z1 : p = f1
    · exact Or.inr (Or.inr (Or.inl z1))
    by_cases z0 : p = q
    · exact Or.inr (Or.inl z0)
    exact Or.inl (by rw [t4, if_neg z4, t3, if_neg z3, t2, if_neg z2, t1, if_neg z1, t0, if_neg z0]; exact hp)
  have c8 : K4.2.2.1 8 q = some f1 := by
    rw [← e4, addL_C h4 (by rw [q3]; decide) (by decide), ← e3, addL_C h3 (by rw [q2]; decide) (by decide), ← e2, addL_C h2 (by rw [q1]; decide) (by decide), ← e1]; exact addL_f
  have c9 : K4.2.2.1 9 q = some f2 := by
    rw [← e4, addL_C h4 (by rw [q3]; decide) (by decide), ← e3, addL_C h3 (by rw [q2]; decide) (by decide), ← e2]; exact addL_f
  have c11 : K4.2.2.1 11 q = some f3 := by
    rw [← e4, addL_C h4 (by rw [q3]; decide) (by decide), ← e3]; exact addL_f
  have c12 : K4.2.2.1 12 q = some f4 := by
    rw [← e4]; exact addL_f
  have c10 : K4.2.2.1 10 q = none := by
    rw [← e4, addL_C h4 (by rw [q3]; decide) (by decide), ← e3, addL_C h3 (by rw [q2]; decide) (by decide), ← e2, addL_C h2 (by rw [q1]; decide) (by decide), ← e1, addL_C h1 (by rw [tq]; decide) (by decide)]; exact c0 10
  have ii : ∀ f : Nat, K4.2.1 f q = K0.2.1 f q := fun f => by
    rw [← e4, addL_I h4 (by rw [q3]; decide), ← e3, addL_I h3 (by rw [q2]; decide), ← e2, addL_I h2 (by rw [q1]; decide), ← e1, addL_I h1 (by rw [tq]; decide)]
  have g1e : ∀ i : Nat, gD g q f1 f2 f3 f4 bt i f1 = if i = 3 then 1 else if i = 4 then q else 0 := fun i => by
    unfold gD; rw [if_neg ne1, if_pos (Or.inl rfl), if_pos rfl]
  have g2e : ∀ i : Nat, gD g q f1 f2 f3 f4 bt i f2 = if i = 3 then 2 else if i = 4 then q else 0 := fun i => by
    unfold gD; rw [if_neg ne2, if_pos (Or.inr (Or.inl rfl)), if_neg n21, if_pos rfl]
  have g3e : ∀ i : Nat, gD g q f1 f2 f3 f4 bt i f3 = if i = 3 then 4 else if i = 4 then q else 0 := fun i => by
    unfold gD; rw [if_neg ne3, if_pos (Or.inr (Or.inr (Or.inl rfl))), if_neg n31, if_neg n32, if_pos rfl]
  have g4e : ∀ i : Nat, gD g q f1 f2 f3 f4 bt i f4 = if i = 3 then 5 else if i = 4 then q else 0 := fun i => by
    unfold gD; rw [if_neg ne4, if_pos (Or.inr (Or.inr (Or.inr rfl))), if_neg n41, if_neg n42, if_neg n43]
  have gqe : gD g q f1 f2 f3 f4 bt 5 q = bt := by unfold gD; rw [if_pos rfl, if_pos rfl]
  have la : ∀ (Ka : PK) (fd x : Nat), ¬ q = x → (addL G Ka q fd x).2.2.2.1 q = Ka.2.2.2.1 q := fun Ka fd x hx => if_neg hx
  have lz : K4.2.2.2.1 q = 0 := by rw [← e4, la _ _ _ (fun z => ne4 z.symm), ← e3, la _ _ _ (fun z => ne3 z.symm), ← e2, la _ _ _ (fun z => ne2 z.symm), ← e1, la _ _ _ (fun z => ne1 z.symm)]; exact l0
  have l1 : ∀ es : Nat, ¬ es = 0 → LsC G K4 f1 es 0 (fun _ => 0) 0 := fun es he => by
    have z1 : LsC G K1 f1 es 0 (fun _ => 0) 0 := by rw [← e1]; exact addL_ls ne1
    have z2 : LsC G K2 f1 es 0 (fun _ => 0) 0 := by rw [← e2]; exact LsC.addL h2 he (by rw [q1]; decide) ne1 z1
    have z3 : LsC G K3 f1 es 0 (fun _ => 0) 0 := by rw [← e3]; exact LsC.addL h3 he (by rw [q2]; decide) ne1 z2
    rw [← e4]; exact LsC.addL h4 he (by rw [q3]; decide) ne1 z3
  have l2 : ∀ es : Nat, ¬ es = 0 → LsC G K4 f2 es 0 (fun _ => 0) 0 := fun es he => by
    have z2 : LsC G K2 f2 es 0 (fun _ => 0) 0 := by rw [← e2]; exact addL_ls ne2
    have z3 : LsC G K3 f2 es 0 (fun _ => 0) 0 := by rw [← e3]; exact LsC.addL h3 he (by rw [q2]; decide) ne2 z2
    rw [← e4]; exact LsC.addL h4 he (by rw [q3]; decide) ne2 z3
  have l3 : ∀ es : Nat, ¬ es = 0 → LsC G K4 f3 es 0 (fun _ => 0) 0 := fun es he => by
    have z3 : LsC G K3 f3 es 0 (fun _ => 0) 0 := by rw [← e3]; exact addL_ls ne3
    rw [← e4]; exact LsC.addL h4 he (by rw [q3]; decide) ne3 z3
  have l4 : ∀ es : Nat, ¬ es = 0 → LsC G K4 f4 es 0 (fun _ => 0) 0 := fun es he => by
    rw [← e4]; exact addL_ls ne4
  obtain ⟨w1, w2, w3, w5⟩ := h
  have oldp : ∀ p s : Nat, K4.1 p = s → ¬ s = 0 → ¬ s = 4 → ¬ s = 5 → ¬ K.1 p = 0 ∧ K.1 p = s := fun p s hs z0 z4 z5 => by
    have hp0 : ¬ K.1 p = 0 := fun z => by
      rcases new p z with y | y | y | y | y | y
      · exact z0 (hs.symm.trans y)
      · rw [y, q4] at hs; exact z4 hs.symm
      · rw [y, a4] at hs; exact z5 hs.symm
      · rw [y, b4] at hs; exact z5 hs.symm
      · rw [y, d4] at hs; exact z5 hs.symm
      · rw [y, m4] at hs; exact z5 hs.symm
    exact ⟨hp0, (sm4 p hp0).1.symm.trans hs⟩
  refine ⟨⟨fun p hp hl => ?_, fun p hp => ?_, fun p hp => ?_, fun p hp => ?_⟩, fun p hp => ⟨sm4 p hp, gne p hp⟩, q4, (ii 15).trans i15, (ii 18).trans i18, c8, c9, (l1 1 (by decide)).2.1, (l2 1 (by decide)).2.1, ⟨gqe, c10, c11, c12, (l3 1 (by decide)).2.1, (l4 1 (by decide)).2.1⟩, fun p hp => ?_⟩
  · obtain ⟨z, zp⟩ := oldp p 1 hp (by decide) (by decide) (by decide)
    rw [gne p z] at hl
    exact NdO.wx wx zp (sm4 p z) (w1 p zp hl)
  · by_cases z : K.1 p = 0
    · rcases new p z with y | y | y | y | y | y
      · rw [hp] at y; exact absurd y (by decide)
      · rw [y, q4] at hp; exact absurd hp (by decide)
      · rw [y]; exact ⟨0, _, 0, l1 _ (esr_ne _), Nat.zero_le _, by omega⟩
      · rw [y]; exact ⟨0, _, 0, l2 _ (esr_ne _), Nat.zero_le _, by omega⟩
      · rw [y]; exact ⟨0, _, 0, l3 _ (esr_ne _), Nat.zero_le _, by omega⟩
      · rw [y]; exact ⟨0, _, 0, l4 _ (esr_ne _), Nat.zero_le _, by omega⟩
    · have zp : K.1 p = 5 := (sm4 p z).1.symm.trans hp
      exact LsO.wx wx zp (sm4 p z) (fun e he _ => sm4 e (by rw [he]; decide)) (w2 p zp)
  · by_cases z : K.1 p = 0
    · rcases new p z with y | y | y | y | y | y
      · rw [hp] at y; exact absurd y (by decide)
      · rw [y]
        refine ⟨⟨f1, c8, a4, by rw [g1e]; rfl, by rw [g1e]; rfl⟩, ⟨f2, c9, b4, by rw [g2e]; rfl, by rw [g2e]; rfl⟩, ⟨f3, c11, d4, by rw [g3e]; rfl, by rw [g3e]; rfl⟩, ⟨f4, c12, m4, by rw [g4e]; rfl, by rw [g4e]; rfl⟩, fun d hd => ?_, fun hb => ⟨(ii 19).trans i19, (ii 21).trans i21, (ii 18).trans (i18.trans (hbt (by rw [gqe] at hb; exact hb)))⟩, fun _ => ⟨lz, c10⟩⟩
        rw [c10] at hd; cases hd
      · rw [y, a4] at hp; exact absurd hp (by decide)
      · rw [y, b4] at hp; exact absurd hp (by decide)
      · rw [y, d4] at hp; exact absurd hp (by decide)
      · rw [y, m4] at hp; exact absurd hp (by decide)
    · have zp : K.1 p = 4 := (sm4 p z).1.symm.trans hp
      exact DcO.wx wx zp (sm4 p z) (w3 p zp)
  · obtain ⟨z, zp⟩ := oldp p 3 hp (by decide) (by decide) (by decide)
    exact MtO.wx wx (sm4 p z) (w5 p zp)
  · rcases new p hp with y | y | y | y | y | y
    · exact Or.inl y
    · exact Or.inr (Or.inl y)
    · rw [y]; exact Or.inr (Or.inr a4)
    · rw [y]; exact Or.inr (Or.inr b4)
    · rw [y]; exact Or.inr (Or.inr d4)
    · rw [y]; exact Or.inr (Or.inr m4)
/-- a new Method with its list -/
theorem WPr.meth (h : WPr G K g) (hq : K.1 q = 0) (ho : K.1 o = 4) (h1 : (kI (kI (kI (kC (kN K q 3 0) 5 q (some o)) 6 q x1) 7 q x2) 8 q x3).1 f1 = 0) :
    WPr G (mkM G K q o x1 x2 x3 f1) (gM g q f1) ∧ (∀ p : Nat, ¬ K.1 p = 0 → Sm K (mkM G K q o x1 x2 x3 f1) p ∧ ∀ i : Nat, gM g q f1 i p = g i p) ∧ (mkM G K q o x1 x2 x3 f1).1 q = 3 ∧ (mkM G K q o x1 x2 x3 f1).2.1 9 q = -1 ∧ (mkM G K q o x1 x2 x3 f1).2.2.1 6 q = some f1 ∧ (mkM G K q o x1 x2 x3 f1).1 f1 = 5 ∧ gM g q f1 3 f1 = 3 ∧ LsC G (mkM G K q o x1 x2 x3 f1) f1 1 0 (fun _ => 0) 0 ∧ ∀ p : Nat, K.1 p = 0 → (mkM G K q o x1 x2 x3 f1).1 p = 0 ∨ p = q ∨ p = f1 := by
  unfold mkM
  have nq : ∀ p : Nat, ¬ K.1 p = 0 → ¬ p = q := fun p hp z => hp (by rw [z]; exact hq)
  generalize e0 : kI (kI (kI (kC (kN K q 3 0) 5 q (some o)) 6 q x1) 7 q x2) 8 q x3 = K0 at h1 ⊢
  have t0 : ∀ p : Nat, K0.1 p = if p = q then 3 else K.1 p := fun p => by rw [← e0]; rfl
  have s0 : ∀ p : Nat, ¬ K.1 p = 0 → Sm K K0 p := fun p hp => by
    have hn := nq p hp
    obtain ⟨a1, a2, a3, a4, a5, a6⟩ := kN_ext (s := 3) (n := 0) hq p hp
    rw [← e0]
    exact ⟨a1, fun f => (kI_ne hn).trans ((kI_ne hn).trans ((kI_ne hn).trans (a2 f))), fun f => (kC_ne hn).trans (a3 f), a4, a5, a6⟩
  have c5 : K0.2.2.1 5 q = some o := by rw [← e0]; exact kC_eq
  have c7 : K0.2.2.1 7 q = none := by rw [← e0]; exact (kC_of (by decide)).trans (if_pos rfl)
  have i12 : K0.2.1 12 q = 0 := by rw [← e0]; exact (kI_of (by decide)).trans ((kI_of (by decide)).trans ((kI_of (by decide)).trans (if_pos rfl)))
  clear e0
  have tq : K0.1 q = 3 := by rw [t0]; exact if_pos rfl
  have ne1 : ¬ f1 = q := fun z => by rw [z, tq] at h1; exact absurd h1 (by decide)
  have u1 : ∀ p : Nat, ¬ K0.1 p = 0 → (addL G K0 q 6 f1).1 p = K0.1 p := fun p hp => if_neg (fun z => hp (by rw [z]; exact h1))
  have oT : ∀ p : Nat, ¬ K.1 p = 0 → K0.1 p = K.1 p := fun p hp => (s0 p hp).1
  have l1 : ∀ es : Nat, LsC G (kI (addL G K0 q 6 f1) 9 q (-1)) f1 es 0 (fun _ => 0) 0 := fun es => by
    obtain ⟨z1, z2, z3, z4⟩ := addL_ls (G := G) (K := K0) (q := q) (fd := 6) (x := f1) (es := es) (it := fun _ => 0) ne1
    exact ⟨z1, (kI_ne ne1).trans z2, z3, z4⟩
  generalize e1 : kI (addL G K0 q 6 f1) 9 q (-1) = K1 at l1 ⊢
  have t1 : ∀ p : Nat, K1.1 p = if p = f1 then 5 else K0.1 p := fun p => by rw [← e1]; rfl
  have v1 : ∀ p : Nat, ¬ K0.1 p = 0 → K1.1 p = K0.1 p := fun p hp => (t1 p).trans (if_neg (fun z => hp (by rw [z]; exact h1)))
  have q1 : K1.1 q = 3 := (v1 q (by rw [tq]; decide)).trans tq
  have a1 : K1.1 f1 = 5 := (t1 f1).trans (if_pos rfl)
  have sm1 : ∀ p : Nat, ¬ K.1 p = 0 → Sm K K1 p := fun p hp => by
    have hn := nq p hp
    obtain ⟨b1, b2, b3, b4, b5, b6⟩ := (s0 p hp).trans (addL_sm (G := G) (q := q) (fd := 6) h1 (by rw [oT p hp]; exact hp) hn)
    rw [← e1]
    exact ⟨b1, fun f => (kI_ne hn).trans (b2 f), b3, b4, b5, b6⟩
  have cc : ∀ f : Nat, ¬ f = 6 → K1.2.2.1 f q = K0.2.2.1 f q := fun f hf => by
    rw [← e1]; exact addL_C h1 (by rw [tq]; decide) hf
  have c6 : K1.2.2.1 6 q = some f1 := by rw [← e1]; exact addL_f
  have i9 : K1.2.1 9 q = -1 := by rw [← e1]; exact kI_eq
  have i12b : K1.2.1 12 q = 0 := by rw [← e1]; exact (kI_of (by decide)).trans ((addL_I h1 (by rw [tq]; decide)).trans i12)
  have gne : ∀ p : Nat, ¬ K.1 p = 0 → ∀ i : Nat, gM g q f1 i p = g i p := fun p hp i => if_neg (fun z => by rw [z] at hp; rw [t0, if_neg ne1] at h1; exact hp h1)
  have ge : ∀ i : Nat, gM g q f1 i f1 = if i = 3 then 3 else if i = 4 then q else 0 := fun i => if_pos rfl
  have wx : WX K K1 g (gM g q f1) := fun p hp => ⟨(sm1 p hp).1, gne p hp, fun _ => (sm1 p hp).2.1 0⟩
  have new : ∀ p : Nat, K.1 p = 0 → K1.1 p = 0 ∨ p = q ∨ p = f1 := fun p hp => by
    by_cases z1 : p = f1
    · exact Or.inr (Or.inr z1)
    by_cases z0 : p = q
    · exact Or.inr (Or.inl z0)
    exact Or.inl (by rw [t1, if_neg z1, t0, if_neg z0]; exact hp)
  obtain ⟨w1, w2, w3, w5⟩ := h
  have oldp : ∀ p s : Nat, K1.1 p = s → ¬ s = 0 → ¬ s = 3 → ¬ s = 5 → ¬ K.1 p = 0 ∧ K.1 p = s := fun p s hs z0 z4 z5 => by
    have hp0 : ¬ K.1 p = 0 := fun z => by
      rcases new p z with y | y | y
      · exact z0 (hs.symm.trans y)
      · rw [y, q1] at hs; exact z4 hs.symm
      · rw [y, a1] at hs; exact z5 hs.symm
    exact ⟨hp0, (sm1 p hp0).1.symm.trans hs⟩
  refine ⟨⟨fun p hp hl => ?_, fun p hp => ?_, fun p hp => ?_, fun p hp => ?_⟩, fun p hp => ⟨sm1 p hp, gne p hp⟩, q1, i9, c6, a1, by rw [ge]; rfl, l1 1, new⟩
  · obtain ⟨z, zp⟩ := oldp p 1 hp (by decide) (by decide) (by decide)
    rw [gne p z] at hl
    exact NdO.wx wx zp (sm1 p z) (w1 p zp hl)
  · by_cases z : K.1 p = 0
    · rcases new p z with y | y | y
      · rw [hp] at y; exact absurd y (by decide)
      · rw [y, q1] at hp; exact absurd hp (by decide)
      · rw [y]; exact ⟨0, _, 0, l1 _, Nat.zero_le _, by omega⟩
    · have zp : K.1 p = 5 := (sm1 p z).1.symm.trans hp
      exact LsO.wx wx zp (sm1 p z) (fun e he _ => sm1 e (by rw [he]; decide)) (w2 p zp)
  · obtain ⟨z, zp⟩ := oldp p 4 hp (by decide) (by decide) (by decide)
    exact DcO.wx wx zp (sm1 p z) (w3 p zp)
  · by_cases z : K.1 p = 0
    · rcases new p z with y | y | y
      · rw [hp] at y; exact absurd y (by decide)
      · rw [y]
        refine ⟨⟨f1, c6, a1, by rw [ge]; rfl, by rw [ge]; rfl⟩, ⟨o, (cc 5 (by decide)).trans c5, (sm1 o (by rw [ho]; decide)).1.trans ho⟩, fun b hb => ?_, 0, by decide, i12b⟩
        rw [cc 7 (by decide), c7] at hb; cases hb
      · rw [y, a1] at hp; exact absurd hp (by decide)
    · have zp : K.1 p = 3 := (sm1 p z).1.symm.trans hp
      exact MtO.wx wx (sm1 p z) (w5 p zp)
end EQ
