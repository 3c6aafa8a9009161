/-! a call, a return, a throw, as the whole machine sees them -/
section XK
variable {fi : Nat → Nat → Prop} {fdn : Nat → Nat} {fty : Nat → Nat → Nat} {X : PXm} {O L R H : Nat → Int32} {M : MX} {Q : RX} {r0 r1 : Nat → Nat} {j kk pc x nm hp n base top : Nat} {S nn : Nat → Nat} {sp st st1 : Nat → Int64} {f f1 : Nat → Int32} {v : Int64} {ar os : List Nat} {t : Nat}
theorem MI.call (h : MI fi fdn fty M nm S nn sp hp f st (n + 1) j base pc top) (hm : MO fi fdn fty X O L R H M Q r0 r1 j) (hk : MO fi fdn fty X O L R H M Q r0 r1 kk) (hkk : kk < nm) (hn : n + 1 < 100)
    (e : (M.1 j pc).2.2.2 = ar ++ t :: os) (hq : ArgL fi (X.2.2.2.1 kk) ar) (hl : X.2.2.1 kk = ar.length) (ho : VT fi S (X.2.2.2.2.2 kk) (st (top - ar.length - 1))) (hb : Beh fi (X.2.2.2.2.1 kk) os (M.1 j pc) (M.1 j (pc + 1)))
    (g0 : f1 (3 * (n + 1)) = nI pc) (g1 : f1 (3 * (n + 1) + 1) = nI base) (g2 : f1 (3 * (n + 1) + 2) = nI j) (g3 : ∀ i : Nat, i < 3 * (n + 1) → f1 i = f i) :
    MI fi fdn fty M nm S nn sp hp f1 st (n + 2) kk (top - ar.length - 1) (M.2.2.1 kk) (top - ar.length - 1 + M.2.1 kk) := by
  have rm := h.room hm
  obtain ⟨⟨a1, a2, a3, a4, a5, a6⟩, b, c, d⟩ := h
  have a69 : base ≤ 320 * n := a6
  have c9 : CS fi M nm f S st n j base := c
  obtain ⟨k1, k2, k3, k4, k5, k6, k7, k8, k9, k10, k11⟩ := hk
  have hO : OpS fi S st (ar ++ t :: os) top := by
    have z := b.1.2.2.2.2.2
    rw [e] at z
    exact z
  have ho9 : VT fi S (X.2.2.2.2.2 kk) (st (top - X.2.2.1 kk - 1)) := by rw [hl]; exact ho
  obtain ⟨q1, q2, q3⟩ := FF.begin (rt := M.2.2.2.2.1 kk) (wp := M.2.2.2.2.2 kk) hO hq hl.symm k9 k10 ho9
  rw [hl] at q1 q2 q3
  refine ⟨⟨by omega, by omega, hkk, Nat.le_refl _, k2.1, by show top - ar.length - 1 ≤ 320 * (n + 1); omega⟩, q1, ?_, d⟩
  show CS fi M nm f1 S st (n + 1) kk (top - ar.length - 1)
  refine ⟨j, pc, base, os, g0, g1, g2, a3, a4, a5, by omega, a69, b.1.waits e q2, b.2, by rw [k11]; exact hb, c9.same g3 (fun _ _ => rfl)⟩
/-- back to the caller -/
theorem MI.caller (h : MI fi fdn fty M nm S nn sp hp f st (n + 2) j base pc top) : ∃ (i p b : Nat) (os : List Nat), f (3 * (n + 1)) = nI p ∧ f (3 * (n + 1) + 1) = nI b ∧ f (3 * (n + 1) + 2) = nI i ∧ i < nm ∧ M.2.2.1 i ≤ p ∧ p < M.2.2.2.1 i ∧ b ≤ 320 * n ∧ base ≤ 320 * (n + 1) ∧
    FF fi S (M.2.2.2.2.1 i) (M.2.2.2.2.2 i) st (wos os (M.1 i p)) b (M.2.1 i) base ∧ Beh fi (M.2.2.2.2.1 j) os (M.1 i p) (M.1 i (p + 1)) ∧ CS fi M nm f S st n i b := by
  obtain ⟨⟨a1, a2, a3, a4, a5, a6⟩, b, c, d⟩ := h
  obtain ⟨i, p, b9, os, h1, h2, h3, h4, h5, h6, h7, h8, h9, h10, h11, h12⟩ : CS fi M nm f S st (n + 1) j base := c
  exact ⟨i, p, b9, os, h1, h2, h3, h4, h5, h6, h8, h7, ⟨h9, h10⟩, h11, h12⟩
/-- at a place, operands or not: enough for a throw -/
def MW (fi : Nat → Nat → Prop) (fdn : Nat → Nat) (fty : Nat → Nat → Nat) (M : MX) (nm : Nat) (S nn : Nat → Nat) (sp : Nat → Int64) (hp : Nat) (f : Nat → Int32) (st : Nat → Int64) (on j base pc : Nat) : Prop :=
  (1 ≤ on ∧ on ≤ 100 ∧ j < nm ∧ M.2.2.1 j ≤ pc ∧ pc < M.2.2.2.1 j ∧ base ≤ 320 * (on - 1)) ∧ FF fi S (M.2.2.2.2.1 j) (M.2.2.2.2.2 j) st (wos [] (M.1 j pc)) base (M.2.1 j) (base + M.2.1 j) ∧ CS fi M nm f S st (on - 1) j base ∧ HT fi fdn fty S nn sp hp
theorem MI.thr (h : MI fi fdn fty M nm S nn sp hp f st (n + 1) j base pc top) : MW fi fdn fty M nm S nn sp hp f st (n + 1) j base pc := ⟨h.1, ⟨h.2.1.1.drop, h.2.1.2⟩, h.2.2⟩
/-- out of a method -/
theorem MW.out (h : MW fi fdn fty M nm S nn sp hp f st (n + 2) j base pc) : ∃ i p b : Nat, f (3 * (n + 1)) = nI p ∧ f (3 * (n + 1) + 1) = nI b ∧ f (3 * (n + 1) + 2) = nI i ∧ i < nm ∧ p < M.2.2.2.1 i ∧ b ≤ 320 * n ∧ MW fi fdn fty M nm S nn sp hp f st (n + 1) i b p := by
  obtain ⟨⟨a1, a2, a3, a4, a5, a6⟩, b, c, d⟩ := h
  obtain ⟨i, p, b9, os, h1, h2, h3, h4, h5, h6, h7, h8, h9, h10, h11, h12⟩ : CS fi M nm f S st (n + 1) j base := c
  exact ⟨i, p, b9, h1, h2, h3, h4, h6, h8, ⟨by omega, by omega, h4, h5, h6, h8⟩, ⟨h9.drop, h10⟩, h12, d⟩
/-- it is caught -/
theorem MW.caught {c : Nat} (h : MW fi fdn fty M nm S nn sp hp f st (n + 1) j base pc) (hm : MO fi fdn fty X O L R H M Q r0 r1 j) {k : Nat} (hk : r0 j ≤ k ∧ k < r1 j) (hi : inR Q k pc) (hc : c < 60) (e : Q.2.2.2.2.1 k = nI c) (wf : WfA (M.1 j (Q.2.2.1 k))) (hv : VT fi S c v)
    (s1 : st1 (base + Q.2.2.2.1 k) = v) (s2 : ∀ i : Nat, i < base + M.2.1 j → ¬ i = base + Q.2.2.2.1 k → st1 i = st i) : MI fi fdn fty M nm S nn sp hp f st1 (n + 1) j base (Q.2.2.1 k) (base + M.2.1 j) := by
  obtain ⟨⟨a1, a2, a3, a4, a5, a6⟩, b, c9, d⟩ := h
  obtain ⟨w1, w2, w3, w4, w5⟩ := hm.2.2.2.1 pc a4 a5 b.1.1
  obtain ⟨z1, z2⟩ := w5 k hk.1 hk.2 hi
  have q := b.1.caught b.2 z1 hc e wf hv s1 s2
  exact ⟨⟨a1, a2, a3, by have := z1.2.2.2.2.1; omega, z2, a6⟩, q, c9.same (fun _ _ => rfl) (fun i hi9 => s2 i (by omega) (by omega)), d⟩
/-- into a LAST -/
theorem MW.last {w : Int64} (h : MW fi fdn fty M nm S nn sp hp f st (n + 1) j base pc) (hm : MO fi fdn fty X O L R H M Q r0 r1 j) {k : Nat} (hk : r0 j ≤ k ∧ k < r1 j) (hi : inR Q k pc) (e : Q.2.2.2.2.1 k = -1) (wf : WfA (M.1 j (Q.2.2.1 k))) (hw : ∃ y : Int32, w = nmV y) (hv : VO S v)
    (hp9 : ∀ e : Nat, (M.1 j (Q.2.2.1 k)).2.2.1 (Q.2.2.2.1 k) = 1000 + 2 * Q.2.2.1 k + e → e ≤ 1 → PrO fi S (M.2.2.2.2.1 j) (M.2.2.2.2.2 j) (Q.2.2.1 k) e w v)
    (s0 : st1 (base + Q.2.2.2.1 k) = w) (s1 : st1 (base + Q.2.2.2.1 k + 1) = v) (s2 : ∀ i : Nat, i < base + M.2.1 j → ¬ i = base + Q.2.2.2.1 k → ¬ i = base + Q.2.2.2.1 k + 1 → st1 i = st i) : MI fi fdn fty M nm S nn sp hp f st1 (n + 1) j base (Q.2.2.1 k) (base + M.2.1 j) := by
  obtain ⟨⟨a1, a2, a3, a4, a5, a6⟩, b, c9, d⟩ := h
  obtain ⟨w1, w2, w3, w4, w5⟩ := hm.2.2.2.1 pc a4 a5 b.1.1
  obtain ⟨z1, z2⟩ := w5 k hk.1 hk.2 hi
  have q := b.1.last b.2 w1 z1 e wf hw hv hp9 s0 s1 s2
  exact ⟨⟨a1, a2, a3, by have := z1.2.2.2.2.1; omega, z2, a6⟩, q, c9.same (fun _ _ => rfl) (fun i hi9 => s2 i (by omega) (by omega) (by omega)), d⟩
end XK
