/-! things: what the contracts of the machine ask of the typed heap -/
theorem updJ_ne {J : Nat → Nat → Int64} {i k : Nat} {g : Nat → Int64} (h : ¬ k = i) : updJ J i g k = J k := if_neg h
section YD
variable {y : TY} {K : PK} {B : Nat → Nat → Int32} {dr nd nm cs rg : Nat} {it : Nat → Nat} {S nn : Nat → Nat} {sp sp1 st st1 : Nat → Int64} {f O L R H : Nat → Int32} {hp on j ba pc tp tp1 fl fl1 p d n k t u c : Nat} {a a1 : AS} {v z z1 : Int64} {en1 nx1 : Int32} {l : List Nat}
theorem PrY.fit (h : PrY y K B dr nd nm it cs rg) (hf : yfi y d t) (hr : fitK (btK K dr) nd d u) : yfi y d u := by
  rw [h.1.2.1] at hf ⊢
  exact ⟨hf.1, hr⟩
theorem PrY.fitX (h : PrY y K B dr nd nm it cs rg) (hf : (yX y).1 d) (hr : fitK (btK K dr) nd d u) : yfi y d u := by
  rw [h.1.2.1]
  exact ⟨Or.inl (h.1.2.2.1 d hf), hr⟩
theorem HT.ah (h : HT (yfi y) (yfd y) (yft y) S nn sp hp) (hS : S p = d + 1) (hn : 8 ≤ p → n = nn p) (h1 : 1 ≤ n) (h8 : p < 8 → d < 7) : ∃ a : Nat, ((a = 1 ∧ d < 64) ∨ (a = 2 ∧ 64 ≤ d)) ∧ a ≤ n := by
  by_cases z : d < 64
  · exact ⟨1, Or.inl ⟨rfl, z⟩, h1⟩
  · have h9 : 8 ≤ p := by
      refine Nat.le_of_not_lt (fun w => ?_)
      have := h8 w
      omega
    obtain ⟨b1, b2, b3, b4, b5⟩ := h.2.2.2 p d hS h9
    have e := hn h9
    rcases b4 with ⟨w1, _⟩ | ⟨w1, w2, w3, _⟩
    · omega
    · exact ⟨2, Or.inr ⟨rfl, by omega⟩, by omega⟩
theorem HT.fld (h : HT (yfi y) (yfd y) (yft y) S nn sp hp) (hpy : PrY y K B dr nd nm it cs rg) (hS : S p = d + 1) (hd : d < 60) (hk : k < yfd y d) : 8 ≤ p ∧ nn p = 1 + yfd y d ∧ p + nn p ≤ hp ∧ VT (yfi y) S (yft y d k) (sp (p + 1 + k)) := by
  have h8 : 8 ≤ p := by
    refine Nat.le_of_not_lt (fun w => ?_)
    obtain ⟨w1, w2, w3⟩ := h.2.2.1 p d hS w
    have := hpy.2.2.2.2.2.2.2.1 d (by omega)
    omega
  obtain ⟨b1, b2, b3, b4, b5⟩ := h.2.2.2 p d hS h8
  rcases b4 with ⟨w1, w2, w3⟩ | ⟨w1, _⟩
  · exact ⟨h8, w2, b2, w3 k hk⟩
  · omega
theorem HT.elm (h : HT (yfi y) (yfd y) (yft y) S nn sp hp) (hS : S p = d + 1) (hd : 64 ≤ d) : 8 ≤ p ∧ 2 ≤ nn p ∧ p + nn p ≤ hp ∧ ∀ i : Nat, i + 2 < nn p → VT (yfi y) S (d - 64) (sp (p + 2 + i)) := by
  have h8 : 8 ≤ p := by
    refine Nat.le_of_not_lt (fun w => ?_)
    obtain ⟨w1, w2, w3⟩ := h.2.2.1 p d hS w
    omega
  obtain ⟨b1, b2, b3, b4, b5⟩ := h.2.2.2 p d hS h8
  rcases b4 with ⟨w1, _⟩ | ⟨w1, w2, w3, w4, w5⟩
  · omega
  · exact ⟨h8, w3, b2, w5⟩
theorem MIy.heap (h : MIy y H S nn sp hp f st on j ba pc tp) (h2 : HT (yfi y) (yfd y) (yft y) S nn sp1 hp) : MIy y H S nn sp1 hp f st on j ba pc tp := ⟨⟨h.1.1, h.1.2.1, h.1.2.2.1, h2⟩, h.2⟩
theorem StQ.spq {s1 : Nat → Int64} (h : s1 = sp) (q : StQ y H S nn sp hp f O on j ba pc fl tp1 en1 nx1 z1 st1 fl1) : StQ y H S nn s1 hp f O on j ba pc fl tp1 en1 nx1 z1 st1 fl1 := by
  rw [h]; exact q
theorem RaO.of (hd : d < 128) (h : HT (yfi y) (yfd y) (yft y) S nn sp hp) (hS : S p = d + 1) (hp9 : p < 3008) (h64 : d < 64) : RaO S (rfV p) := by
  refine ⟨p, d, hp9, rfl, hS, ?_⟩
  by_cases z : p < 8
  · have := h.2.2.1 p d hS z
    omega
  · obtain ⟨b1, b2, b3, b4, b5⟩ := h.2.2.2 p d hS (by omega)
    rcases b4 with ⟨w1, _⟩ | ⟨w1, _⟩
    · exact w1
    · omega
theorem LoE.put {J J1 : Nat → Nat → Int64} {s o x : Nat} {w : Int64} (h : LoE J s o) (h1 : J1 s = upV (J s) x w) (h2 : J1 o = J o) (hx : 8 ≤ x) : LoE J1 s o := fun p hp9 => by
  rw [h1, h2, upV_ne (by omega)]
  exact h p hp9
theorem LoE.up {J : Nat → Nat → Int64} {s o : Nat} {g : Nat → Int64} (h : LoE J s o) (h1 : ¬ s = 29) (h2 : ¬ o = 29) : LoE (updJ J 29 g) s o := fun p hp9 => by
  rw [updJ_ne h1, updJ_ne h2]
  exact h p hp9
end YD
