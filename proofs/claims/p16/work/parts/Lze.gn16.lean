/-! tokens of nodes: what judging asks -/
section GNG
variable {pb : PNb} {G : pT} {K K0 : PK} {dr nd sz q a : Nat} {V ro kd ty : Nat → Int32} {k t f : Int32}
theorem TkO.of (hnd : nd ≤ 37) (hsz : sz ≤ 5000) (h1 : Rd1 G K0 dr nd V ro sz) (h2 : TyX K0 dr nd V ro kd sz ty) (ha : a ≤ sz) (hc : ∀ c e : Nat, c < nd → K0.2.2.2.2.1 dr c = some e → K0.2.1 18 e = 0 → (bX pb).1 c) (ht : TkP kd sz ro a (K.2.1 0 q) (K.2.1 1 q) (K.2.1 2 q)) : TkO pb K kd ty sz nd q := by
  obtain ⟨t1, t2, t3, t4, t5⟩ := ht
  have tyv : ∀ {i c : Nat}, i < sz → c < 128 → ty i = nI c → tyN ty sz (nI i) = c := fun {i c} hi hc2 e => by
    rw [tyN_in hi (by omega), e, nI_clamp (by omega)]
  refine ⟨t1, t2, fun e => ?_, fun e => ?_, fun e => ?_⟩
  · obtain ⟨i, i1, i2, i3, i4⟩ := t3 e
    have hi : i < sz := by omega
    obtain ⟨c, e2, c1, c2, c3, c4⟩ := (Ty_at hnd h1 h2 hi).1 (by rw [i3]; decide)
    have c5 : K0.2.1 18 e2 = 0 := c3.elim id (fun z => by rw [i3] at z; exact absurd z (by decide))
    have c6 : ty i = nI c := c4.elim id (fun z => by rw [i4] at z; exact absurd z.2.1 (by decide))
    rw [i2, tyv hi (by omega) c6]
    exact ⟨by omega, hc c e2 c1 c2 c5⟩
  · obtain ⟨i, i1, i2, i3, i4⟩ := t4 e
    have hi : i < sz := by omega
    rw [i2]
    obtain ⟨y1, y2⟩ := Ty_at hnd h1 h2 hi
    by_cases z : ro i = 0
    · have i3 : tkN kd sz 67 (nI i) = 13 ∨ tkN kd sz 67 (nI i) = 1 := i3.elim (fun w => absurd z w) id
      rw [tkN_in hi (by omega)] at i3
      rcases y2 z with ⟨w | ⟨_, _, w⟩, _⟩ | ⟨w | ⟨_, _, w⟩, _⟩ | ⟨_, w1, w2⟩
      · rw [tyv hi (by decide) w]; decide
      · exact absurd w i4
      · rw [tyv hi (by decide) w]; decide
      · exact absurd w i4
      · rcases i3 with w | w
        · exact absurd w w1
        · exact absurd w w2
    · obtain ⟨c, e2, c1, c2, c3, c4⟩ := y1 z
      have c6 : ty i = nI c := c4.elim id (fun w => absurd w.2.2 i4)
      rw [tyv hi (by omega) c6]
      omega
  · obtain ⟨i, i1, i2, i3, i4⟩ := t5 e
    have hi : i < sz := by omega
    rw [i2]
    obtain ⟨c, e2, c1, c2, c3, c4⟩ := (Ty_at hnd h1 h2 hi).1 (by rw [i3]; decide)
    have c6 : ty i = nI c := c4.elim id (fun z => by rw [i4] at z; exact absurd z.2.1 (by decide))
    rw [tyv hi (by omega) c6]
    exact c1
end GNG
