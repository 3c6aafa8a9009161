/-! the run -/
def WkI (y : TY) (it : Nat → Nat) (O H f : Nat → Int32) (J : Nat → Nat → Int64) (i fl tp sp op ht : Nat) (en pcv : Int32) (z : Int64) (ba on : Nat) (mo : Option Nat) : Prop :=
  ¬ en = 5 ∨ (en = 5 ∧ z = 0 ∧ LoE J sp op ∧ ∃ (S nn : Nat → Nat) (j x : Nat), mo = some (it j) ∧ pcv = nI x ∧ MIy y H S nn (J sp) ht f (J 29) on j ba x tp ∧ mT O f fl on x + i + 1 ≤ 400000000)
section YL
variable {y : TY} {S nn it : Nat → Nat} {J J1 : Nat → Nat → Int64} {f f1 O L R H : Nat → Int32} {ht on j ba pc tp i fl fl1 sp op tp1 ba1 on1 mr1 sp1 op1 ht1 m0 : Nat} {en1 nx1 : Int32} {z1 : Int64}
theorem spj (hsp : (sp = 34 ∧ op = 35) ∨ (sp = 35 ∧ op = 34)) (h : J1 34 = J 34 ∧ J1 35 = J 35) : J1 sp = J sp ∧ J1 op = J op := by
  rcases hsp with ⟨e1, e2⟩ | ⟨e1, e2⟩ <;> subst e1 <;> subst e2
  · exact h
  · exact ⟨h.2, h.1⟩
theorem LoE.same (h : LoE J sp op) (q : J1 sp = J sp ∧ J1 op = J op) : LoE J1 sp op := fun p hp9 => by
  rw [q.1, q.2]; exact h p hp9
/-- what is behind a step: over, on, or thrown -/
theorem StG.cases (q : StG y it O H m0 pc tp1 en1 nx1 z1 J1 fl1 sp1 op1 ht1 f1 on1 ba1 mr1) : (¬ en1 = 5 ∧ z1 = 0) ∨ (z1 = 0 ∧ en1 = 5 ∧ LoE J1 sp1 op1 ∧ ∃ (S1 nn1 : Nat → Nat) (j1 x : Nat), it j1 = mr1 ∧ nx1 = nI x ∧ MIy y H S1 nn1 (J1 sp1) ht1 f1 (J1 29) on1 j1 ba1 x tp1 ∧ mT O f1 fl1 on1 x + 1 ≤ m0) ∨
    (en1 = 5 ∧ LoE J1 sp1 op1 ∧ ∃ (S1 nn1 : Nat → Nat) (j1 : Nat), it j1 = mr1 ∧ RaO S1 z1 ∧ MWy y H S1 nn1 (J1 sp1) ht1 f1 (J1 29) on1 j1 ba1 pc ∧ mG f1 fl1 on1 pc ≤ m0) := by
  rcases q with q | ⟨q1, q2, S1, n1, j1, q3, ⟨q4, x, q5, q6, q7⟩ | ⟨q4, q5, q6, q7⟩⟩
  · exact Or.inl q
  · exact Or.inr (Or.inl ⟨q4, q1, q2, S1, n1, j1, x, q3, q5, q6, q7⟩)
  · exact Or.inr (Or.inr ⟨q1, q2, S1, n1, j1, q3, q4, q6, by rw [← mG_in q5]; exact q7⟩)
end YL
