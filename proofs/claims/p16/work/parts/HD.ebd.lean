/-- what the judging of bodies leaves: slots of nodes, methods' code, new Loops -/
def bdI (f : Nat) : Prop := f = 5 ∨ (11 ≤ f ∧ f ≤ 14) ∨ 26 ≤ f
def BdX (K K1 : PK) : Prop := (∀ p : Nat, ¬ K.1 p = 0 → K1.1 p = K.1 p ∧ (∀ f : Nat, ¬ bdI f → K1.2.1 f p = K.2.1 f p) ∧ (∀ f : Nat, K1.2.2.1 f p = K.2.2.1 f p) ∧ K1.2.2.2.1 p = K.2.2.2.1 p ∧ K1.2.2.2.2.1 p = K.2.2.2.2.1 p ∧ K1.2.2.2.2.2 p = K.2.2.2.2.2 p) ∧ ∀ p : Nat, K.1 p = 0 → K1.1 p = 0 ∨ K1.1 p = 9
/-- the slots of methods' frames -/
def MtB (K : PK) : Prop := ∀ q : Nat, K.1 q = 3 → ∃ n : Nat, n ≤ 1000 ∧ K.2.1 12 q = nI n
section BX
variable {G : pT} {K K1 K2 : PK} {g : Nat → Nat → Nat} {p q f ax pq dr ml nd nm cp s n es cap : Nat} {it rk it9 : Nat → Nat} {v : Int32}
theorem bdI_no {f : Nat} (h : (decide (f = 5) || decide (11 ≤ f ∧ f ≤ 14) || decide (26 ≤ f)) = false) : ¬ bdI f := fun z => by
  unfold bdI at z
  simp at h
  omega
theorem BdX.rfl : BdX K K := ⟨fun _ _ => ⟨Eq.refl _, fun _ _ => Eq.refl _, fun _ => Eq.refl _, Eq.refl _, Eq.refl _, Eq.refl _⟩, fun _ h => Or.inl h⟩
theorem BdX.trans (h : BdX K K1) (h2 : BdX K1 K2) : BdX K K2 := by
  refine ⟨fun p hp => ?_, fun p hp => ?_⟩
  · obtain ⟨a1, a2, a3, a4, a5, a6⟩ := h.1 p hp
    obtain ⟨b1, b2, b3, b4, b5, b6⟩ := h2.1 p (by rw [a1]; exact hp)
    exact ⟨b1.trans a1, fun f hf => (b2 f hf).trans (a2 f hf), fun f => (b3 f).trans (a3 f), b4.trans a4, b5.trans a5, b6.trans a6⟩
  · rcases h.2 p hp with z | z
    · exact h2.2 p z
    · exact Or.inr ((h2.1 p (by rw [z]; decide)).1.trans z)
theorem BdX.kI (hf : bdI f) : BdX K (kI K f q v) := ⟨fun p _ => ⟨Eq.refl _, fun f9 h9 => kI_of (fun z => h9 (by rw [z]; exact hf)), fun _ => Eq.refl _, Eq.refl _, Eq.refl _, Eq.refl _⟩, fun _ h => Or.inl h⟩
theorem BdX.old (h : BdX K K1) {t : Nat} (ht : K1.1 p = t) (h0 : ¬ t = 0) (h9 : ¬ t = 9) : ¬ K.1 p = 0 ∧ K.1 p = t := by
  have hp : ¬ K.1 p = 0 := fun z => by
    rcases h.2 p z with w | w
    · exact h0 (ht.symm.trans w)
    · exact h9 (ht.symm.trans w)
  exact ⟨hp, (h.1 p hp).1.symm.trans ht⟩
theorem BdX.T (h : BdX K K1) {t : Nat} (ht : K.1 p = t) (h0 : ¬ t = 0) : K1.1 p = t := (h.1 p (by rw [ht]; exact h0)).1.trans ht
theorem BdX.ls (h : BdX K K1) (hes : ¬ es = 0) (hl : LsC G K q es n it9 cap) : LsC G K1 q es n it9 cap := by
  obtain ⟨l1, l2, l3, l4⟩ := hl
  have hq := h.1 q (by rw [l1]; decide)
  refine ⟨hq.1.trans l1, (hq.2.1 23 (bdI_no (by decide))).trans l2, l3, ?_⟩
  rw [hq.2.2.1 13]
  rcases l4 with z | ⟨e9, a1, a2, a3, a4, a5, a6, a7, a8⟩
  · exact Or.inl z
  · have he := h.1 e9 (by rw [a2]; decide)
    refine Or.inr ⟨e9, a1, he.1.trans a2, (he.2.2.1 17).trans a3, he.2.2.2.2.2.trans a4, a5, a6, a7, fun i hi => ?_⟩
    rw [he.2.2.2.2.1]
    exact ⟨(a8 i hi).1, h.T (a8 i hi).2 hes⟩
theorem BdX.wp (h : BdX K K1) (hm : MtB K1) (hw : WPr G K g) : WPr G K1 g := by
  obtain ⟨w1, w2, w3, w4⟩ := hw
  refine ⟨fun p hp hl => ?_, fun p hp => ?_, fun p hp => ?_, fun p hp => ?_⟩
  · obtain ⟨z, zp⟩ := h.old hp (by decide) (by decide)
    obtain ⟨b1, b2, b3, _⟩ := h.1 p z
    obtain ⟨a1, a2, a3, a4, a5⟩ := w1 p zp hl
    have b20 := b2 0 (bdI_no (by decide))
    refine ⟨?_, fun f y hf hy => ?_, fun y hy => ?_, (by rw [b20]; exact a4), fun o ho => ?_⟩
    · rw [b20]; simp only [b3]; exact a1
    · rw [b3] at hy
      obtain ⟨c1, c2, c3, c4⟩ := a2 f y hf hy
      rw [b20, (h.1 y (by rw [c1]; decide)).2.1 0 (bdI_no (by decide))]
      exact ⟨h.T c1 (by decide), c2, c3, c4⟩
    · rw [b3] at hy
      obtain ⟨c1, c2⟩ := a3 y hy
      exact ⟨h.T c1 (by decide), c2⟩
    · obtain ⟨c1, c2, c3⟩ := a5 o ho
      rw [b20, (h.1 o (by rw [c1]; decide)).2.1 0 (bdI_no (by decide))]
      exact ⟨h.T c1 (by decide), c2, c3⟩
  · obtain ⟨z, zp⟩ := h.old hp (by decide) (by decide)
    obtain ⟨n, it, cap, l1, l2⟩ := w2 p zp
    exact ⟨n, it, cap, h.ls (esr_ne _) l1, l2⟩
  · obtain ⟨z, zp⟩ := h.old hp (by decide) (by decide)
    obtain ⟨b1, b2, b3, b4, _⟩ := h.1 p z
    obtain ⟨z1, z2, z3, z4, z5, z6, z7⟩ := w3 p zp
    have ow : ∀ (o : Option Nat) (r : Nat), Own K g o p r → Own K1 g o p r := fun o r ⟨x, e1, e2, e3⟩ => ⟨x, e1, h.T e2 (by decide), e3⟩
    unfold DcO
    rw [b3, b3, b3, b3, b3, b4, b2 18 (bdI_no (by decide)), b2 19 (bdI_no (by decide)), b2 21 (bdI_no (by decide))]
    exact ⟨ow _ _ z1, ow _ _ z2, ow _ _ z3, ow _ _ z4, fun d hd => h.T (z5 d hd) (by decide), z6, z7⟩
  · obtain ⟨z, zp⟩ := h.old hp (by decide) (by decide)
    obtain ⟨b1, b2, b3, _⟩ := h.1 p z
    obtain ⟨⟨x, e1, e2, e3⟩, ⟨d, d1, d2⟩, z3, z4⟩ := w4 p zp
    unfold MtO
    rw [b3, b3, b3]
    refine ⟨⟨x, e1, h.T e2 (by decide), e3⟩, ⟨d, d1, h.T d2 (by decide)⟩, fun b hb => ?_, hm p hp⟩
    obtain ⟨c1, c2, c3, c4⟩ := z3 b hb
    exact ⟨h.T c1 (by decide), c2, c3, ((h.1 b (by rw [c1]; decide)).2.1 0 (bdI_no (by decide))).trans c4⟩
theorem BdX.pt (h : BdX K K1) (hw : WPr G K g) (hp : PgT G K g ax pq dr ml nd nm cp it s) : PgT G K1 g ax pq dr ml nd nm cp it s := by
  obtain ⟨⟨b1, b2, b3, b4, b5, b6, b7, b8, b9⟩, h2, h3, h4, h5, h6, h7, h8, hTb⟩ := hp
  have sp := h.1 pq (by rw [b1]; decide)
  have sr := h.1 dr (by rw [b4]; decide)
  have er := sr.2.2.2.2.1
  have fe : ∀ fd : Nat, (fd = 8 ∨ fd = 9) → ∀ j : Nat, j < nd → fz K1 dr fd j = fz K dr fd j := fun fd hfd j hj => by
    obtain ⟨d, d1, d2, _⟩ := h2 j hj
    have e1 : ∃ r9 : Nat, Own K g (K.2.2.1 fd d) d r9 := by
      rcases hfd with e | e <;> subst e
      · exact ⟨1, (hw.2.2.1 d d2).1⟩
      · exact ⟨2, (hw.2.2.1 d d2).2.1⟩
    obtain ⟨r9, e1⟩ := e1
    unfold fz
    rw [er, d1]
    exact lsz_sm ((h.1 d (by rw [d2]; decide)).2.2.1 fd) e1 (fun x h5 _ => (h.1 x (by rw [h5]; decide)).2.1 23 (bdI_no (by decide)))
  have s8 : sumN (fz K1 dr 8) nd ≤ sumN (fz K dr 8) nd := sumN_le (fun j hj => Nat.le_of_eq (fe 8 (Or.inl (Eq.refl _)) j hj))
  have s9 : sumN (fz K1 dr 9) nd ≤ sumN (fz K dr 9) nd := sumN_le (fun j hj => Nat.le_of_eq (fe 9 (Or.inr (Eq.refl _)) j hj))
  refine ⟨⟨sp.1.trans b1, (sp.2.2.1 18).trans b2, (sp.2.2.1 14).trans b3, sr.1.trans b4, (sp.2.2.1 15).trans b5, h.T b6 (by decide), b7, (sp.2.1 24 (bdI_no (by decide))).trans b8, b9⟩, fun k hk => ?_, h.ls (by decide) h3, fun q hq => ?_, by omega, h6, h7, fun q hq => ?_, ?_⟩
  · obtain ⟨d, d1, d2, d3, d4⟩ := h2 k hk
    exact ⟨d, by rw [er]; exact d1, h.T d2 (by decide), ((h.1 d (by rw [d2]; decide)).2.1 15 (bdI_no (by decide))).trans d3, d4⟩
  · obtain ⟨z, zq⟩ := h.old hq (by decide) (by decide)
    rw [(h.1 q z).2.1 9 (bdI_no (by decide))]
    exact h4 q zq
  · obtain ⟨z, zq⟩ := h.old hq (by decide) (by decide)
    obtain ⟨k, hk, e⟩ := h8 q zq
    exact ⟨k, hk, by rw [er]; exact e⟩
  · unfold TbO
    rw [sumN_eq (f := fw K (bl K g) dr) (fun k hk => fw_eq h2 hw hk (by rw [er]) (fun d hd => (h.1 d (by rw [hd]; decide)).2.2.1 9) (fun d y n cap it _ _ _ _ _ _ l => h.ls (by decide) l) (fun m h3 => bl_eq (hw.2.2.2 m h3) ((h.1 m (by rw [h3]; decide)).2.2.1 7) (fun _ _ => Eq.refl _)))]; exact hTb
theorem BdX.rko (h : BdX K K1) (hr : RkO K rk) : RkO K1 rk := fun q d hq hd => by
  obtain ⟨z, zq⟩ := h.old hq (by decide) (by decide)
  rw [(h.1 q z).2.2.1 10] at hd
  obtain ⟨h1, h2⟩ := hr q d zq hd
  exact ⟨h.T h1 (by decide), h2⟩
theorem MtB.of (h : WPr G K g) : MtB K := fun q hq => (h.2.2.2 q hq).2.2.2
end BX
