/-! what judging leaves: all that the machine asks of a program -/
/-- what is known of the names, beside NaB -/
def NaX (pb : PNb) (K : PK) (dr nd nm : Nat) (it : Nat → Nat) : Prop :=
  (∀ d : Nat, (bX pb).1 d → d < nd) ∧ (∀ d : Nat, 1 ≤ d → d < 7 → (bX pb).1 d) ∧
  (∀ i : Nat, i < nm → K.2.1 9 (it i) = nI i ∧ K.2.1 10 (it i) = nI ((bX pb).2.2.2.2.1 i) ∧ (bX pb).2.2.2.2.1 i < 128 ∧ (bX pb).2.2.2.2.2 i < 60) ∧
  (∀ (d i : Nat) (x : Int32), (bX pb).1 d → (bX pb).2.1 d x = some i → i < nm ∧ ∃ q : Nat, K.2.2.2.2.1 dr d = some q ∧ NeP K x 101 q (it i)) ∧
  (∀ d c k : Nat, pb.1 d c → c < 60 → k < pb.2.1 c → d < 60 ∧ k < pb.2.1 d ∧ pb.2.2.1 d k = pb.2.2.1 c k) ∧ (∀ d k : Nat, k < pb.2.1 d → pb.2.2.1 d k = 60 ∨ pb.2.2.1 d k = 61 ∨ RfT (pb.2.2.1 d k)) ∧ ∀ d : Nat, d < 7 → pb.2.1 d = 0
section ZV0
variable {pb : PNb} {G : pT} {K K1 : PK} {B : Nat → Nat → Int32} {Q : RX} {ty : Nat → Int32} {dr nd nm sz cs rg gr d c : Nat} {it : Nat → Nat} {bt bt1 : Nat → Nat → Prop}
theorem fiK_eq (h : ∀ i k : Nat, i < nd → (bt i k ↔ bt1 i k)) : fiK bt nd = fiK bt1 nd := by
  funext d t
  refine propext ⟨fun q => ⟨q.1, q.2.mono (fun i k hi z => (h i k hi).mp z)⟩, fun q => ⟨q.1, q.2.mono (fun i k hi z => (h i k hi).mpr z)⟩⟩
theorem FiO.fi (h : FiO pb K dr nd) : pb.1 = fiK (btK K dr) nd := by
  obtain ⟨bt, h1, h2, _⟩ := h
  rw [h1]; exact fiK_eq h2
/-- rows of a row: what fits there -/
theorem fiK.row (hn : nd ≤ 37) (h0 : ∀ k : Nat, ¬ bt 0 k) (ht : ∀ i j k : Nat, i < nd → j < nd → k < nd → bt i j → bt j k → bt i k) (h : fiK bt nd d c) (hc : 64 ≤ c) : 64 ≤ d ∧ d < 128 ∧ (d = c ∨ (RfT (d - 64) ∧ RfT (c - 64))) ∧ TL (fiK bt nd) (d - 64) (c - 64) := by
  obtain ⟨h1, h2, h3, h4⟩ := h
  unfold DyT at h1
  rcases h4 with e | ⟨e1, e2, e3⟩ | ⟨e1, e2, e3, e4, e5, e6, e7, e8⟩ | ⟨e1, e2, e3, e4, e5, e6, e7⟩
  · subst e
    exact ⟨hc, by omega, Or.inl rfl, TL.rfl⟩
  · omega
  · have r : RfT (d - 64) ∧ RfT (c - 64) := by unfold RfT; omega
    refine ⟨e4, by omega, Or.inr r, ?_⟩
    refine TL.fit hn h0 ht ⟨by omega, by omega, ?_⟩ (Or.inl r.1) (Or.inl r.2)
    by_cases z : c - 64 = 0
    · exact Or.inr (Or.inl ⟨by omega, Or.inr z, by omega, by omega, by omega, by omega⟩)
    · exact Or.inr (Or.inr (Or.inr ⟨by omega, by omega, z, by omega, e6, e7, e8⟩))
  · omega
theorem PrY.of (hna : NaB pb G K ty dr nd sz) (hnx : NaX pb K dr nd nm it) (hdc : ∀ c : Nat, c < nd → ∃ d : Nat, K.2.2.2.2.1 dr c = some d) (hj : ∀ j : Nat, j < nm → JdM pb K B Q cs rg j (it j)) (hrq : RgQx B Q gr nd) (hg : rg ≤ 625 ∧ rg ≤ gr) : ∃ y : TY, PrY y K B dr nd nm it cs rg ∧ yX y = bX pb ∧ yfi y = pb.1 ∧ yfd y = pb.2.1 ∧ yft y = pb.2.2.1 := by
  obtain ⟨⟨n37, htr, hfi⟩, hcl⟩ := hna
  obtain ⟨x1, x2, x3, x4, x5, x6, x7⟩ := hnx
  have hall : ∀ j : Nat, ∃ t : (Nat → AS) × Nat × Nat × Nat × Nat × Nat, j < nm → MOp pb (B 16) (B 17) (B 18) (B 19) t.1 t.2.1 t.2.2.1 t.2.2.2.1 Q t.2.2.2.2.1 t.2.2.2.2.2 j ∧ t.2.2.2.1 ≤ cs ∧ (t.2.2.2.2.1 ≤ t.2.2.2.2.2 ∧ t.2.2.2.2.2 ≤ rg) ∧ K.2.1 11 (it j) = nI t.2.2.1 ∧ K.2.1 12 (it j) = nI t.2.1 ∧ K.2.1 13 (it j) = nI t.2.2.2.2.1 ∧ K.2.1 14 (it j) = nI t.2.2.2.2.2 := fun j => by
    by_cases z : j < nm
    · obtain ⟨A, sn, lo, hi, r0, r1, a1, a2, a3, _, a5, a6, a7, a8⟩ := hj j z
      exact ⟨(A, sn, lo, hi, r0, r1), fun _ => ⟨a1, a2, a3, a5, a6, a7, a8⟩⟩
    · exact ⟨((fun _ => (0, 0, (fun _ => 0), [])), 0, 0, 0, 0, 0), fun w => absurd w z⟩
  obtain ⟨f, hf⟩ := Classical.axiomOfChoice hall
  let M : MX := (fun j => (f j).1, fun j => (f j).2.1, fun j => (f j).2.2.1, fun j => (f j).2.2.2.1, fun j => (bX pb).2.2.2.2.1 j, fun j h x => x < (f j).2.2.2.1 ∧ WP (f j).1 Q (f j).2.2.2.2.1 (f j).2.2.2.2.2 h x)
  obtain ⟨bt, f1, f2, f3, f4⟩ := hfi
  have hfe : pb.1 = fiK (btK K dr) nd := FiO.fi ⟨bt, f1, f2, f3, f4⟩
  refine ⟨(pb.1, pb.2.1, pb.2.2.1, bX pb, M, Q, fun j => (f j).2.2.2.2.1, fun j => (f j).2.2.2.2.2, nm), ⟨⟨rfl, hfe, x1, x2, n37⟩, fun i hi => ?_, fun k hk => ?_, fun d hd => ?_, x4, x5, x6, x7, fun d c h1 h2 => ?_, fun S d c v h1 h2 h3 h4 => ?_⟩, rfl, rfl, rfl, rfl⟩
  · obtain ⟨a1, a2, a3, a4, a5, a6, a7⟩ := hf i hi
    obtain ⟨b1, b2, b3, b4⟩ := x3 i hi
    have hm : MO pb.1 pb.2.1 pb.2.2.1 pb.2.2.2 (B 16) (B 17) (B 18) (B 19) M Q (fun j => (f j).2.2.2.2.1) (fun j => (f j).2.2.2.2.2) i := MOp.mo (M := M) a1 rfl rfl
    exact ⟨hm, a2, b1, b2, a4, a5, a6, a7, ⟨a3.1, a3.2, b3⟩, rfl, b4⟩
  · exact hrq k (by omega) (by omega)
  · obtain ⟨q, hq⟩ := hdc d (x1 d hd)
    obtain ⟨⟨lq, n, cp, it9, c1, c2, c3, c4, _⟩, _⟩ := hcl d q (x1 d hd) hq
    refine ⟨q, lq, hq, c1, ?_, ?_⟩
    · show K.2.1 23 lq = nI (pb.2.1 d)
      rw [c4]; exact LsC.sz c2
    · show pb.2.1 d ≤ 100000
      omega
  · have h1 : pb.1 d c := h1
    rw [f1] at h1
    obtain ⟨w1, w2, _, w3⟩ := h1.row n37 f3 f4 h2
    refine ⟨w1, w2, ?_⟩
    show TL pb.1 (d - 64) (c - 64)
    rw [f1]; exact w3
  · have h1 : pb.1 d c := h1
    have h3 : VT pb.1 S (c - 64) v := h3
    show VT pb.1 S (d - 64) v
    have h5 := h1
    rw [f1] at h5
    obtain ⟨w1, w2, w3, _⟩ := h5.row n37 f3 f4 h2
    rcases w3 with e | ⟨r1, r2⟩
    · rw [e]; exact h3
    · refine Or.inr (Or.inr (Or.inr (Or.inr ⟨r1, ?_⟩)))
      rcases VT.rf h3 r2 with e | ⟨p, e, q1, q2, q3, q4⟩
      · exact Or.inl e
      · exact Or.inr ⟨p, e, q1, q2, q3, h4 p e q2 q3⟩
end ZV0
