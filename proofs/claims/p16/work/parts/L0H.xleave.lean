/-! out of tries: jumps, returns, what goes on behind a LAST -/
section XB
variable {fi : Nat → Nat → Prop} {fdn : Nat → Nat} {fty : Nat → Nat → Nat} {X : PXm} {O L R H : Nat → Int32} {M : MX} {Q : RX} {r0 r1 : Nat → Nat} {j pc x nm hp n base top s h9 e : Nat} {S nn : Nat → Nat} {sp st : Nat → Int64} {f : Nat → Int32} {a b : AS}
theorem FF.at0 {rt sn : Nat} {wp : Nat → Nat → Prop} (q : FF fi S rt wp st a base sn top) (e0 : a.2.2.2 = []) (g : Go fi (wos [] a) b) : FF fi S rt wp st b base sn top := by
  have z : FF fi S rt wp st (wos [] a) base sn top := by
    obtain ⟨⟨h1, h2, h3, h4, h5, h6⟩, hp⟩ := q
    exact ⟨⟨h1, h2, by rw [e0] at h3; exact h3, h4, h5, trivial⟩, hp⟩
  exact z.go g
/-- a jump out of tries: to its aim, or first into a LAST that it leaves -/
theorem MI.leave (h : MI fi fdn fty M nm S nn sp hp f st (n + 1) j base pc top) (hm : MO fi fdn fty X O L R H M Q r0 r1 j) (ho : O pc = nI 28) (e0 : (M.1 j pc).2.2.2 = []) (hl : L pc = nI x) (hx : x ≤ M.2.2.2.1 j) (hpx : pc < x) (g : Go fi (wos [] (M.1 j pc)) (M.1 j x)) :
    MI fi fdn fty M nm S nn sp hp f st (n + 1) j base x top ∧ ∀ k : Nat, lsR Q (r0 j) (r1 j) k → inR Q k pc → ¬ inR Q k x → M.2.2.2.2.2 j (Q.2.2.1 k) x := by
  have hi := hm.2.1.2
  obtain ⟨a1, a2, a3, a4, a5, a6⟩ := h.1
  have r := h.2.1.1.1
  refine ⟨h.next hm (h.2.1.at0 e0 g) (by omega) hx (fun _ _ => rfl), fun k k1 k2 k3 => ?_⟩
  rw [hm.2.2.2.2.2.2.2.1]
  exact ⟨hm.tgt g hx, WP.leave g (hm.2.2.2.2.2.1 pc x a4 a5 r ho (by have := hm.tgt g hx; omega) hl) hm.2.2.2.2.1 ((hm.2.2.2.1 pc a4 a5 r).2.2.2.2 k k1.1 k1.2.1 k2).1 k1 k2 k3⟩
/-- behind a LAST: on the way that led into it -/
theorem MI.goOn (h : MI fi fdn fty M nm S nn sp hp f st (n + 1) j base pc top) (hm : MO fi fdn fty X O L R H M Q r0 r1 j) (ho : O pc = nI 30) (e0 : (M.1 j pc).2.2.2 = []) (hs : s < 10000) (hl : L pc = nI s) (hs1 : s + 1 < (M.1 j pc).2.1) (he : e ≤ 1) (hc : (M.1 j pc).2.2.1 s = 1000 + 2 * h9 + e) (ha : ∀ i : Nat, i < s → (M.1 j pc).2.2.1 i = (M.1 j h9).2.2.1 i)
    (hw : M.2.2.2.2.2 j h9 x) : MI fi fdn fty M nm S nn sp hp f st (n + 1) j base x top ∧ pc < x ∧ x < M.2.2.2.1 j ∧ ∀ k : Nat, lsR Q (r0 j) (r1 j) k → inR Q k pc → ¬ inR Q k x → M.2.2.2.2.2 j (Q.2.2.1 k) x := by
  obtain ⟨a1, a2, a3, a4, a5, a6⟩ := h.1
  have r := h.2.1.1.1
  have wpe := hm.2.2.2.2.2.2.2.1
  rw [wpe] at hw
  obtain ⟨hx, hw⟩ := hw
  have en := hm.2.2.2.2.2.2.1 pc s h9 e a4 a5 r ho hs hl he hc
  obtain ⟨g, gx⟩ := hw.go (fi := fi) en ha (by omega)
  refine ⟨h.next hm (h.2.1.at0 e0 g) (by omega) (by omega) (fun _ _ => rfl), gx, hx, fun k k1 k2 k3 => ?_⟩
  rw [wpe]
  refine ⟨hx, ?_⟩
  exact hw.on en ha hm.2.2.2.2.1 ((hm.2.2.2.1 pc a4 a5 r).2.2.2.2 k k1.1 k1.2.1 k2).1 k1 k2 k3
end XB
