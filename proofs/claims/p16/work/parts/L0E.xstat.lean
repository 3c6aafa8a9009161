/-! a method's code, all that is known of it; the machine as it runs -/
def MO (fi : Nat → Nat → Prop) (fdn : Nat → Nat) (fty : Nat → Nat → Nat) (X : PXm) (O L R H : Nat → Int32) (M : MX) (Q : RX) (r0 r1 : Nat → Nat) (j : Nat) : Prop :=
  CT fi fdn fty X SgT PfT O L R (M.1 j) (fun _ => False) j (M.2.1 j) (M.2.2.1 j) (M.2.2.2.1 j) ∧ (M.2.2.1 j < M.2.2.2.1 j ∧ M.2.2.2.1 j ≤ 10000) ∧ (M.1 j (M.2.2.2.1 j)).1 = 0 ∧
  (∀ pc : Nat, M.2.2.1 j ≤ pc → pc < M.2.2.2.1 j → (M.1 j pc).1 = 1 → WfA (M.1 j pc) ∧ (M.1 j pc).2.1 ≤ M.2.1 j ∧ (M.1 j pc).2.2.2.length + M.2.1 j ≤ 319 ∧ (∃ q : Nat, H pc = nI q ∧ (M.1 j pc).2.1 ≤ q ∧ q ≤ M.2.1 j ∧ (O pc = nI 21 ∨ O pc = nI 22 ∨ O pc = nI 23 ∨ O pc = nI 24 → q = (M.1 j pc).2.1)) ∧
    ∀ k : Nat, r0 j ≤ k → k < r1 j → inR Q k pc → HdO (M.1 j) Q (M.2.1 j) k pc ∧ Q.2.2.1 k < M.2.2.2.1 j) ∧
  NsR Q (r0 j) (r1 j) ∧ (∀ pc x : Nat, M.2.2.1 j ≤ pc → pc < M.2.2.2.1 j → (M.1 j pc).1 = 1 → O pc = nI 28 → x < 10000 → L pc = nI x → LvR (M.1 j) Q (r0 j) (r1 j) pc x) ∧
  (∀ pc s h e : Nat, M.2.2.1 j ≤ pc → pc < M.2.2.2.1 j → (M.1 j pc).1 = 1 → O pc = nI 30 → s < 10000 → L pc = nI s → e ≤ 1 → (M.1 j pc).2.2.1 s = 1000 + 2 * h + e → EnR Q (r0 j) (r1 j) pc s h) ∧
  M.2.2.2.2.2 j = (fun h x => x < M.2.2.2.1 j ∧ WP (M.1 j) Q (r0 j) (r1 j) h x) ∧ EnA (X.2.2.2.2.2 j) (X.2.2.1 j) (X.2.2.2.1 j) (M.1 j (M.2.2.1 j)) ∧ X.2.2.1 j + 1 ≤ M.2.1 j ∧ M.2.2.2.2.1 j = X.2.2.2.2.1 j
/-- the machine runs: method j, at pc -/
def MI (fi : Nat → Nat → Prop) (fdn : Nat → Nat) (fty : Nat → Nat → Nat) (M : MX) (nm : Nat) (S nn : Nat → Nat) (sp : Nat → Int64) (hp : Nat) (f : Nat → Int32) (st : Nat → Int64) (on j base pc top : Nat) : Prop :=
  (1 ≤ on ∧ on ≤ 100 ∧ j < nm ∧ M.2.2.1 j ≤ pc ∧ pc < M.2.2.2.1 j ∧ base ≤ 320 * (on - 1)) ∧ FF fi S (M.2.2.2.2.1 j) (M.2.2.2.2.2 j) st (M.1 j pc) base (M.2.1 j) top ∧ CS fi M nm f S st (on - 1) j base ∧ HT fi fdn fty S nn sp hp
section XM
variable {fi : Nat → Nat → Prop} {fdn : Nat → Nat} {fty : Nat → Nat → Nat} {X : PXm} {O L R H : Nat → Int32} {M : MX} {Q : RX} {r0 r1 : Nat → Nat} {j pc x nm hp on base top k : Nat} {S nn : Nat → Nat} {sp st st1 : Nat → Int64} {f : Nat → Int32} {a : AS} {v : Int64}
theorem MO.rule (h : MO fi fdn fty X O L R H M Q r0 r1 j) (h1 : M.2.2.1 j ≤ pc) (h2 : pc < M.2.2.2.1 j) (h3 : (M.1 j pc).1 = 1) : ∃ k : Nat, k < 31 ∧ O pc = nI k ∧ IRk fi fdn fty X SgT PfT (fun y => M.2.2.1 j ≤ y ∧ y < M.2.2.2.1 j ∧ O y = 0) pc j (M.2.1 j) (M.2.2.2.1 j) (L pc) (R pc) (M.1 j pc) (M.1 j (pc + 1)) (M.1 j) k := h.1 pc h1 h2 h3 id
theorem MO.tgt (h : MO fi fdn fty X O L R H M Q r0 r1 j) (g : Go fi a (M.1 j x)) (hx : x ≤ M.2.2.2.1 j) : x < M.2.2.2.1 j := by
  refine Classical.byContradiction fun z => ?_
  have e : x = M.2.2.2.1 j := by omega
  have g1 := g.1
  rw [e, h.2.2.1] at g1
  exact absurd g1 (by decide)
/-- there is room on the stack for one more -/
theorem MI.room (h : MI fi fdn fty M nm S nn sp hp f st on j base pc top) (hm : MO fi fdn fty X O L R H M Q r0 r1 j) : top + 1 ≤ 320 * on ∧ top < 32000 ∧ base + M.2.1 j ≤ top := by
  obtain ⟨⟨a1, a2, a3, a4, a5, a6⟩, b, c, d⟩ := h
  obtain ⟨w1, w2, w3, w4⟩ := hm.2.2.2.1 pc a4 a5 b.1.1
  have z := b.lo
  omega
/-- to the next place, with what has changed on the stack above the slots -/
theorem MI.next (h : MI fi fdn fty M nm S nn sp hp f st on j base pc top) (hm : MO fi fdn fty X O L R H M Q r0 r1 j) {top1 : Nat} (q : FF fi S (M.2.2.2.2.1 j) (M.2.2.2.2.2 j) st1 (M.1 j x) base (M.2.1 j) top1) (h1 : M.2.2.1 j ≤ x) (h2 : x ≤ M.2.2.2.1 j) (e : ∀ i : Nat, i < base → st1 i = st i) : MI fi fdn fty M nm S nn sp hp f st1 on j base x top1 := by
  obtain ⟨⟨a1, a2, a3, a4, a5, a6⟩, b, c, d⟩ := h
  have hx : x < M.2.2.2.1 j := by
    refine Classical.byContradiction fun z => ?_
    have e9 : x = M.2.2.2.1 j := by omega
    have g1 := q.1.1
    rw [e9, hm.2.2.1] at g1
    exact absurd g1 (by decide)
  exact ⟨⟨a1, a2, a3, h1, hx, a6⟩, q, c.same (fun _ _ => rfl) e, d⟩
end XM
