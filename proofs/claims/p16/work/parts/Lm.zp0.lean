/-! statements: what is assigned, variables -/
section ZP
variable {x y as : Int32} {v k t nd vr hd c0 : Nat} {sl : Nat → Nat} {f26 f27 : Nat → Int32}
theorem AsO.andl (h : AsO as) (hn : ¬ as = -1) : AsO (as &&& x) ∧ ¬ as &&& x = -1 := by
  have w : (as &&& x).toBitVec.toNat < 1073741824 := by
    rw [Int32.toBitVec_and, BitVec.toNat_and]
    exact Nat.lt_of_le_of_lt Nat.and_le_left (h.low hn)
  refine ⟨AsO.of w, fun e => ?_⟩
  rw [e] at w
  exact absurd w (by decide)
/-- the bit of a variable -/
theorem bit_aso (h : v < 30) : AsO ((1 : Int32) <<< nI v) ∧ ¬ (1 : Int32) <<< nI v = -1 := by
  have w : ∀ q : Fin 30, ((1 : Int32) <<< nI q.1).toBitVec.toNat < 1073741824 := by decide +kernel
  have z := w ⟨v, h⟩
  refine ⟨AsO.of z, fun e => ?_⟩
  have z9 : ((1 : Int32) <<< nI v).toBitVec.toNat < 1073741824 := z
  rw [e] at z9
  exact absurd z9 (by decide)
theorem AsO.bit (h : AsO as) (hv : v < 30) : AsO (as ||| (1 : Int32) <<< nI v) ∧ (as ||| (1 : Int32) <<< nI v = -1 ↔ as = -1) := by
  obtain ⟨b1, b2⟩ := bit_aso hv
  obtain ⟨c1, c2⟩ := h.or b1
  exact ⟨c1, c2.trans ⟨fun e => e.resolve_right b2, Or.inl⟩⟩
theorem EnV.add (h : EnV f26 f27 nd vr hd c0 sl) (ht : TyV nd t) : EnV (upd f26 vr (nI t)) (upd f27 vr (nI hd)) nd (vr + 1) (hd + 1) c0 (upM sl hd (tyc t)) := by
  obtain ⟨⟨h1, h2, h3⟩, h4⟩ := h
  refine ⟨⟨by omega, by rw [upM_ne (by omega)]; exact h2, h3⟩, fun i hi => ?_⟩
  by_cases z : i = vr
  · subst z
    exact ⟨hd, t, if_pos rfl, h1, by omega, if_pos rfl, ht, upM_eq⟩
  · obtain ⟨s, t9, a1, a2, a3, a4, a5, a6⟩ := h4 i (by omega)
    exact ⟨s, t9, (if_neg z).trans a1, a2, by omega, (if_neg z).trans a4, a5, by rw [upM_ne (by omega)]; exact a6⟩
end ZP
