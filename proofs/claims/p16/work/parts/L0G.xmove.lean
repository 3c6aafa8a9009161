/-! the open calls when things have moved -/
def MvF (M : MX) (H : Nat → Int32) (ph : Nat → Nat) (st st1 : Nat → Int64) (f : Nat → Int32) : Nat → Nat → Prop
  | 0, _ => True
  | n + 1, base => ∀ i pc b q : Nat, f (3 * (n + 1)) = nI pc → f (3 * (n + 1) + 1) = nI b → f (3 * (n + 1) + 2) = nI i → pc < 10000 → b ≤ 32000 → i < 100000 → q ≤ 32000 → H pc = nI q → MvS ph st st1 b q (M.2.1 i) base ∧ MvF M H ph st st1 f n b
section XJ
variable {fi : Nat → Nat → Prop} {fdn : Nat → Nat} {fty : Nat → Nat → Nat} {X : PXm} {O L R H : Nat → Int32} {M : MX} {Q : RX} {r0 r1 : Nat → Nat} {nm : Nat} {S S1 ph : Nat → Nat} {st st1 : Nat → Int64} {f : Nat → Int32}
theorem CS.move (hs : SM S S1 ph) (hnm : nm ≤ 100000) (hM : ∀ i : Nat, i < nm → MO fi fdn fty X O L R H M Q r0 r1 i) : ∀ {n j base : Nat}, n < 100 → CS fi M nm f S st n j base → MvF M H ph st st1 f n base → CS fi M nm f S1 st1 n j base
  | 0, _, _, _, _, _ => trivial
  | n + 1, j, base, hn, ⟨i, pc, b, os, h1, h2, h3, h4, h5, h6, h7, h8, h9, h10, h11, h12⟩, hm => by
    obtain ⟨m1, m2, m3, m4, _⟩ := hM i h4
    obtain ⟨w1, w2, w3, ⟨q, w4, w5, w6, _⟩, _⟩ := m4 pc h5 h6 h9.1
    obtain ⟨v1, v2⟩ := hm i pc b q h1 h2 h3 (by omega) (by omega) (by omega) (by omega) w4
    have ht : base = b + M.2.1 i + os.length := h9.2.2.1
    exact ⟨i, pc, b, os, h1, h2, h3, h4, h5, h6, h7, h8, h9.move hs v1 w5, h10.move hs v1 w5 w2 (by omega), h11, CS.move hs hnm hM (by omega) h12 v2⟩
end XJ
