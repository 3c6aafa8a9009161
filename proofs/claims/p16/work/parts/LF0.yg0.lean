/-! steps among things and calls, as the whole machine sees them -/
section YI
variable {y : TY} {S nn it : Nat → Nat} {J J1 : Nat → Nat → Int64} {f O L R H fr1 : Nat → Int32} {hp on j kk ba pc tp tp1 x t s o fl fl1 mr ba1 on1 mr1 : Nat} {a a1 : AS} {ar os : List Nat} {v z z1 : Int64} {en1 nx nx1 nu : Int32}
theorem StG.over {m0 pc0 : Nat} (h : ¬ en1 = 5) (hz : z1 = 0) : StG y it O H m0 pc0 tp1 en1 nx1 z1 J1 fl1 s o hp fr1 on1 ba1 mr1 := Or.inl ⟨h, hz⟩
theorem StG.ofQ2 (q : StQ y H S nn (J1 s) hp f O on j ba pc fl tp1 en1 nx1 z1 (J1 29) fl1) (hl : LoE J1 s o) (ho : ¬ O pc = 0) : StG y it O H (mT O f fl on pc) pc tp1 en1 nx1 z1 J1 fl1 s o hp f on ba (it j) := by
  rcases q with q | ⟨q1, q2, x, q3, q4, q5⟩ | ⟨q1, q2, q0, q3, q4⟩
  · exact Or.inl q
  · refine Or.inr ⟨q1, hl, S, nn, j, rfl, Or.inl ⟨q2, x, q3, q4, ?_⟩⟩
    unfold mT
    omega
  · refine Or.inr ⟨q1, hl, S, nn, j, rfl, Or.inr ⟨q2, ho, q4, ?_⟩⟩
    unfold mT
    omega
theorem FFy.recv (h : FFy y S j (J 29) a ba tp) (e : a.2.2.2 = ar ++ t :: os) : VT (yfi y) S t (J 29 (tp - ar.length - 1)) ∧ ba + ysl y j + ar.length + 1 ≤ tp := by
  have hl := FFy.lo h
  have hO : OpS (yfi y) S (J 29) (ar ++ t :: os) tp := by
    have q := h.1.2.2.2.2.2
    rw [e] at q
    exact q
  rw [e, List.length_append] at hl
  have hl3 : tp = ba + ysl y j + (ar.length + (os.length + 1)) := hl.2.2
  refine ⟨?_, by omega⟩
  have g : ∀ (l : List Nat) (top : Nat), OpS (yfi y) S (J 29) (l ++ t :: os) top → VT (yfi y) S t (J 29 (top - l.length - 1)) := fun l => by
    induction l with
    | nil => intro top q; exact q.2.1
    | cons b l ih =>
      intro top q
      have w := ih (top - 1) q.2.2
      rw [show top - (b :: l).length - 1 = top - 1 - l.length - 1 by show top - (l.length + 1) - 1 = _; omega]
      exact w
  exact g ar tp hO
/-- a call, as begin leaves it -/
theorem StG.begin (hb : BgQ on (tp - ar.length - 1) (ysl y kk) (ylo y kk) (it kk) (nI pc) (nI ba) (nI j) f tp tp1 en1 nx nx1 ba1 on1 mr1 fr1) (h : MIy y H S nn (J s) hp f (J 29) on j ba pc tp) (hm : MOy y O L R H j) (hk : MOy y O L R H kk) (hkk : kk < ynm y) (he : (yA y j pc).2.2.2 = ar ++ t :: os) (hq : ArgL (yfi y) ((yX y).2.2.2.1 kk) ar) (hl : (yX y).2.2.1 kk = ar.length) (ho : VT (yfi y) S ((yX y).2.2.2.2.2 kk) (J 29 (tp - ar.length - 1)))
    (hbe : Beh (yfi y) ((yX y).2.2.2.2.1 kk) os (yA y j pc) (yA y j (pc + 1))) (hop : O pc = nI 23 ∨ O pc = nI 24) (hlo : LoE J s o) (hfl : fl = fl1 + 1) (hnm : ynm y ≤ 100000) (hz : z = 0) :
    StG y it O H (mT O f fl on pc) pc tp1 en1 nx1 z J fl1 s o hp fr1 on1 ba1 mr1 := by
  rcases hb with ⟨_, b2⟩ | ⟨b1, b2, b3, b4, b5, b6, b7, b8⟩
  · exact Or.inl ⟨by rw [b2]; decide, hz⟩
  · subst b2; subst b3; subst b4; subst b5; subst b6; subst b7; subst b8
    have hma := h.ma hm
    rw [he] at hma
    exact StG.call hma hm hk hkk b1 he hq hl ho hbe hop hlo hfl rfl hnm hz
/-- a thing was made -/
theorem StG.made {d : Nat} {S1 n1 : Nat → Nat} (q : (en1 = 3 ∧ tp1 = tp) ∨ (en1 = 5 ∧ tp1 = tp + 1 ∧ LoE J1 s o ∧ MIa y H S1 n1 (J1 s) hp f (J1 29) on j ba pc (d :: os) (tp + 1))) (hm : MOy y O L R H j) (g : Go (yfi y) (wos (d :: os) (yA y j pc)) (yA y j (pc + 1))) (hfl : fl = fl1 + 1) (hz : z = 0) : StG y it O H (mT O f fl on pc) pc tp1 en1 (nI (pc + 1)) z J1 fl1 s o hp f on ba (it j) := by
  rcases q with ⟨q1, _⟩ | ⟨q1, q2, q3, q4⟩
  · exact Or.inl ⟨by rw [q1]; decide, hz⟩
  · obtain ⟨a1, a2, a3, a4, a5, a6, a7⟩ := q4.1
    subst q2
    refine Or.inr ⟨q1, q3, S1, n1, j, rfl, Or.inl ⟨hz, pc + 1, rfl, q4.go hm g (by omega) (by omega), ?_⟩⟩
    have w1 := wt_le (O := O) (pc := pc + 1)
    have w2 : 0 ≤ wt O pc := Nat.zero_le _
    unfold mT
    omega
end YI
