/-! into a handler -/
section XL
variable {fi : Nat → Nat → Prop} {A : Nat → AS} {Q : RX} {S : Nat → Nat} {wp : Nat → Nat → Prop} {st st1 : Nat → Int64} {pc sn j b top rt c h e x : Nat} {w v : Int64} {a : AS}
/-- operands are left out -/
theorem FrK.drop (q : FrK fi S st a b sn top) : FrK fi S st (wos [] a) b sn (b + sn) := ⟨q.1, q.2.1, rfl, q.2.2.2.1, q.2.2.2.2.1, trivial⟩
theorem Q900 : ∀ {k : Nat}, RfT k → k < 900 := fun h => by unfold RfT at h; omega
theorem FrK.caught (q : FrK fi S st (wos [] (A pc)) b sn (b + sn)) (p : FrP fi S rt wp st (A pc) b) (hd : HdO A Q sn j pc) (hc : c < 60) (e1 : Q.2.2.2.2.1 j = nI c) (wf : WfA (A (Q.2.2.1 j))) (hv : VT fi S c v)
    (s1 : st1 (b + Q.2.2.2.1 j) = v) (s2 : ∀ i : Nat, i < b + sn → ¬ i = b + Q.2.2.2.1 j → st1 i = st i) : FrK fi S st1 (A (Q.2.2.1 j)) b sn (b + sn) ∧ FrP fi S rt wp st1 (A (Q.2.2.1 j)) b := by
  obtain ⟨d1, d2, d3, d4, d5, d6⟩ := hd
  obtain ⟨q1, q2, q3, q4, q5, q6⟩ := q
  have q29 : (A pc).2.1 ≤ sn := q2
  rcases d6 with ⟨c9, x1, x2, x3, x4, x5⟩ | ⟨x2, _⟩
  · have ec : c9 = c := (nI_eq (by omega) (by omega)).mp (x2.symm.trans e1)
    subst ec
    refine ⟨⟨d1, by omega, by rw [d2]; rfl, fun s hs ht => ?_, fun s hs => ?_, by rw [d2]; trivial⟩, ?_⟩
    · by_cases z : s = Q.2.2.2.1 j
      · subst z; rw [x5, s1]; exact hv
      · rw [d4 s (by omega)] at ht ⊢
        rw [s2 (b + s) (by omega) (by omega)]
        exact q4 s (by show s < (A pc).2.1; omega) ht
    · by_cases z : s = Q.2.2.2.1 j
      · subst z; rw [s1]; exact hv.ok
      · rw [s2 (b + s) (by omega) (by omega)]
        exact q5 s (by show s < (A pc).2.1; omega)
    · exact p.caught d3 wf x3 d4 (by omega) (fun i hi => s2 (b + i) (by omega) (by omega))
  · have z : (nI c).toInt = -1 := by rw [← e1, x2]; decide
    rw [nI_toInt (by omega)] at z
    omega
theorem FrK.last (q : FrK fi S st (wos [] (A pc)) b sn (b + sn)) (p : FrP fi S rt wp st (A pc) b) (wa : WfA (A pc)) (hd : HdO A Q sn j pc) (e1 : Q.2.2.2.2.1 j = -1) (wf : WfA (A (Q.2.2.1 j))) (hw : ∃ y : Int32, w = nmV y) (hv : VO S v)
    (hp : ∀ e : Nat, (A (Q.2.2.1 j)).2.2.1 (Q.2.2.2.1 j) = 1000 + 2 * Q.2.2.1 j + e → e ≤ 1 → PrO fi S rt wp (Q.2.2.1 j) e w v)
    (s0 : st1 (b + Q.2.2.2.1 j) = w) (s1 : st1 (b + Q.2.2.2.1 j + 1) = v) (s2 : ∀ i : Nat, i < b + sn → ¬ i = b + Q.2.2.2.1 j → ¬ i = b + Q.2.2.2.1 j + 1 → st1 i = st i) : FrK fi S st1 (A (Q.2.2.1 j)) b sn (b + sn) ∧ FrP fi S rt wp st1 (A (Q.2.2.1 j)) b := by
  obtain ⟨d1, d2, d3, d4, d5, d6⟩ := hd
  obtain ⟨q1, q2, q3, q4, q5, q6⟩ := q
  have q29 : (A pc).2.1 ≤ sn := q2
  rcases d6 with ⟨c9, x1, x2, _⟩ | ⟨_, x3, x4, x5, e, x6, x7⟩
  · have z : (nI c9).toInt = -1 := by rw [← x2, e1]; decide
    rw [nI_toInt (by omega)] at z
    omega
  · refine ⟨⟨d1, by omega, by rw [d2]; rfl, fun s hs ht => ?_, fun s hs => ?_, by rw [d2]; trivial⟩, ?_⟩
    · by_cases z : s = Q.2.2.2.1 j
      · subst z; rw [x7] at ht; omega
      · by_cases y : s = Q.2.2.2.1 j + 1
        · subst y; rw [x5] at ht; omega
        · rw [d4 s (by omega)] at ht ⊢
          rw [s2 (b + s) (by omega) (by omega) (by omega)]
          exact q4 s (by show s < (A pc).2.1; omega) ht
    · by_cases z : s = Q.2.2.2.1 j
      · subst z; rw [s0]; exact Or.inl hw
      · by_cases y : s = Q.2.2.2.1 j + 1
        · subst y
          rw [show b + (Q.2.2.2.1 j + 1) = b + Q.2.2.2.1 j + 1 by omega, s1]; exact hv
        · rw [s2 (b + s) (by omega) (by omega) (by omega)]
          exact q5 s (by show s < (A pc).2.1; omega)
    · refine p.last wa d3 wf x3 d4 x7 x5 x6 (fun i hi => s2 (b + i) (by omega) (by omega) (by omega)) ?_
      rw [s0, s1]
      exact hp e x7 x6
end XL
