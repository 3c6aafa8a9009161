def NwS (K K1 : PK) (g g1 : Nat → Nat → Nat) : Prop := WN K1 g1 ∧ XtG K K1 g g1 ∧ ∀ x : Nat, K.1 x = 0 → ¬ K1.1 x = 0 → K1.1 x = 1 ∧ ∀ o : Nat, g1 1 x = o + 1 → K.1 o = 0
def NwR (K K1 : PK) (g g1 : Nat → Nat → Nat) (r O k L : Nat) : Prop := WN K1 g1 ∧ XtG K K1 g g1 ∧ (K.1 r = 0 ∧ K1.1 r = 1 ∧ 1 ≤ g1 0 r ∧ g1 0 r ≤ L ∧ g1 1 r = O ∧ g1 2 r = k ∧ K1.2.2.1 4 r = none) ∧ ∀ x : Nat, K.1 x = 0 → ¬ K1.1 x = 0 → K1.1 x = 1 ∧ (¬ x = r → ∀ o : Nat, g1 1 x = o + 1 → K.1 o = 0)
def mkN (K : PK) (q : Nat) (a b c : Int32) : PK := kI (kI (kI (kN K q 1 0) 0 q a) 1 q b) 2 q c
section BT2
variable {K K1 K2 : PK} {g g1 g2 : Nat → Nat → Nat} {q r x O k L f : Nat} {a b c : Int32}
theorem mkN_T : (mkN K q a b c).1 q = 1 := if_pos rfl
theorem mkN_ne {p : Nat} (h : ¬ p = q) : (mkN K q a b c).1 p = K.1 p := if_neg h
theorem mkN_0 : (mkN K q a b c).2.1 0 q = a := (kI_of (by decide)).trans ((kI_of (by decide)).trans kI_eq)
theorem mkN_2 : (mkN K q a b c).2.1 2 q = c := kI_eq
theorem mkN_C : (mkN K q a b c).2.2.1 f q = none := if_pos rfl
theorem mkN_ext (h : K.1 q = 0) : Ext K (mkN K q a b c) := fun p hp => by
  have hn : ¬ p = q := fun z => hp (by rw [z]; exact h)
  obtain ⟨a1, a2, a3, a4, a5, a6⟩ := kN_ext (s := 1) (n := 0) h p hp
  exact ⟨a1, fun f => (kI_ne hn).trans ((kI_ne hn).trans ((kI_ne hn).trans (a2 f))), a3, a4, a5, a6⟩
theorem old_T (h : XtG K K1 g g1) {o : Nat} (ho : K1.1 o = 0) : K.1 o = 0 := by
  refine Classical.byContradiction fun hn => ?_
  rw [(h.1 o hn).1] at ho
  exact hn ho
theorem NwS.nil (h : WN K g) : NwS K K g g := ⟨h, XtG.rfl, fun x h1 h2 => absurd h1 h2⟩
theorem NwS.node (h : NwS K K1 g g1) (hq : K1.1 q = 0) : NwS K (mkN K1 q a b c) g (gset g1 q 0 0 0) := by
  obtain ⟨h1, h2, h3⟩ := h
  have hq0 := old_T h2 hq
  refine ⟨WN.new h1 hq (mkN_ext hq) (fun p hp => mkN_ne hp), XtG.trans h2 ⟨mkN_ext hq, fun p hp i => gset_ne (fun z => hp (by rw [z]; exact hq))⟩, fun x hx hn => ?_⟩
  by_cases e : x = q
  · subst e
    exact ⟨mkN_T, fun o ho => by rw [gset_1] at ho; omega⟩
  · rw [mkN_ne e] at hn ⊢
    rw [gset_ne e]
    exact h3 x hx hn
theorem NwS.call (h : NwS K K1 g g1) (hr : NwR K1 K2 g1 g2 r O k L) (hO : ∀ o : Nat, O = o + 1 → K.1 o = 0) : NwS K K2 g g2 := by
  obtain ⟨h1, h2, h3⟩ := h
  obtain ⟨r1, r2, r3, r4⟩ := hr
  refine ⟨r1, h2.trans r2, fun x hx hn => ?_⟩
  by_cases e : K1.1 x = 0
  · obtain ⟨b1, b2⟩ := r4 x e hn
    refine ⟨b1, fun o ho => ?_⟩
    by_cases z : x = r
    · subst z
      rw [r3.2.2.2.2.1] at ho
      exact hO o ho
    · exact old_T h2 (b2 z o ho)
  · obtain ⟨b1, b2⟩ := h3 x hx e
    refine ⟨(r2.1 x e).1.trans b1, fun o ho => ?_⟩
    rw [r2.2 x e] at ho
    exact b2 o ho
/-- a field of one that is not done -/
theorem NwS.put {v : Option Nat} (h : NwS K K1 g g1) (hq0 : K.1 q = 0) (h0 : g1 0 q = 0) : NwS K (kC K1 f q v) g g1 := by
  obtain ⟨h1, h2, h3⟩ := h
  refine ⟨WN.put h1 h0 rfl (fun _ => rfl) (fun p hp f _ => kC_ne hp), ⟨fun p hp => ?_, h2.2⟩, h3⟩
  have hn : ¬ p = q := fun z => hp (by rw [z]; exact hq0)
  obtain ⟨a1, a2, a3, a4, a5, a6⟩ := h2.1 p hp
  exact ⟨a1, a2, fun f => (kC_ne hn).trans (a3 f), a4, a5, a6⟩
theorem NwS.puti {v : Int32} (h : NwS K K1 g g1) (hq0 : K.1 q = 0) (h0 : g1 0 q = 0) (hf0 : ¬ 0 = f) : NwS K (kI K1 f q v) g g1 := by
  obtain ⟨h1, h2, h3⟩ := h
  refine ⟨WN.put h1 h0 rfl (fun _ => kI_of hf0) (fun p hp f _ => rfl), ⟨fun p hp => ?_, h2.2⟩, h3⟩
  have hn : ¬ p = q := fun z => hp (by rw [z]; exact hq0)
  obtain ⟨a1, a2, a3, a4, a5, a6⟩ := h2.1 p hp
  exact ⟨a1, fun f => (kI_ne hn).trans (a2 f), a3, a4, a5, a6⟩
/-- it is done -/
theorem NwS.done (h : NwS K K1 g g1) (hq0 : K.1 q = 0) (hq : K1.1 q = 1) (h0 : g1 0 q = 0) (hL : 1 ≤ L) (hk : Itv k ∧ IvK (K1.2.1 0 q) k) (hs : Shp (K1.2.1 0 q) (fun f => K1.2.2.1 f q)) (hc : ∀ f x : Nat, f ≤ 3 → K1.2.2.1 f q = some x → K1.1 x = 1 ∧ 1 ≤ g1 0 x ∧ g1 0 x < L ∧ (Lsf (K1.2.1 0 q) f → g1 1 x = q + 1) ∧ Kch (K1.2.1 0 q) f (K1.2.1 0 x) k (g1 2 x)) (hx : K1.2.2.1 4 q = none) (hm : ∀ x : Nat, K1.1 x = 1 → 1 ≤ g1 0 x → g1 1 x = q + 1 → g1 0 x < L ∧ Owi (K1.2.1 0 q) k (g1 2 x)) (hO : ∀ o : Nat, O = o + 1 → K.1 o = 1 ∧ (1 ≤ g 0 o → L < 0) ∧ (K.2.1 0 o = 32 → K1.2.1 0 q = 35)) : NwR K K1 g (gset g1 q L O k) q O k L := by
  obtain ⟨h1, h2, h3⟩ := h
  refine ⟨WN.done h1 hq h0 hL hk hs hc hx hm (fun o ho => ?_), ⟨h2.1, fun p hp i => (gset_ne (fun z => hp (by rw [z]; exact hq0))).trans (h2.2 p hp i)⟩, ⟨hq0, hq, by rw [gset_0]; exact hL, by rw [gset_0]; exact Nat.le_refl _, gset_1, gset_2, hx⟩, fun x hx0 hn => ?_⟩
  · obtain ⟨d1, d2, d3⟩ := hO o ho
    have d0 : ¬ K.1 o = 0 := by rw [d1]; decide
    exact ⟨fun z => d0 (by rw [z]; exact hq0), (h2.1 o d0).1.trans d1, fun z => absurd (d2 (by rw [← h2.2 o d0]; exact z)) (by omega), fun z => d3 (((h2.1 o d0).2.1 0).symm.trans z), fun z => absurd (d2 (by rw [← h2.2 o d0]; exact z)) (by omega)⟩
  · obtain ⟨b1, b2⟩ := h3 x hx0 hn
    exact ⟨b1, fun z o ho => b2 o (by rw [gset_ne z] at ho; exact ho)⟩
theorem NwR.up {L' : Nat} (h : NwR K K1 g g1 r O k L) (hL : L ≤ L') : NwR K K1 g g1 r O k L' := ⟨h.1, h.2.1, ⟨h.2.2.1.1, h.2.2.1.2.1, h.2.2.1.2.2.1, Nat.le_trans h.2.2.1.2.2.2.1 hL, h.2.2.1.2.2.2.2⟩, h.2.2.2⟩
/-- a node without parts -/
theorem leaf_okI (h : WN K g) (hq : K.1 q = 0) (hk : Itv k ∧ IvK a k) (hs : ∀ C : Nat → Option Nat, Shp a C) (hO : ∀ o : Nat, O = o + 1 → K.1 o = 1 ∧ (1 ≤ g 0 o → 1 < 0) ∧ ¬ K.2.1 0 o = 32) : NwR K (mkN K q a b c) g (gset (gset g q 0 0 0) q 1 O k) q O k 1 := by
  have h1 : NwS K (mkN K q a b c) g (gset g q 0 0 0) := (NwS.nil h).node hq
  have hg : ∀ x : Nat, (mkN K q a b c).1 x = 1 → ¬ x = q → K.1 x = 1 := fun x hx hn => (mkN_ne hn).symm.trans hx
  refine NwS.done h1 hq mkN_T gset_0 (Nat.le_refl 1) (by rw [mkN_0]; exact hk) (by rw [mkN_0]; exact hs _) (fun f x hf hx => ?_) mkN_C (fun x hx hl ho => ?_) (fun o ho => ⟨(hO o ho).1, (hO o ho).2.1, fun z => absurd z (hO o ho).2.2⟩)
  · rw [mkN_C] at hx; cases hx
  · by_cases z : x = q
    · subst z; rw [gset_1] at ho; exact absurd ho (by omega)
    · rw [gset_ne z] at hl ho
      have hx1 := hg x hx z
      have hw := ((h x hx1 hl).2.2.2.2 q ho).1
      rw [hq] at hw
      exact absurd hw (by decide)
theorem leaf_ok (h : WN K g) (hq : K.1 q = 0) (hk : Itv k) (hi : IvK a k) (hs : ∀ C : Nat → Option Nat, Shp a C) (hO : ∀ o : Nat, O = o + 1 → K.1 o = 1 ∧ (1 ≤ g 0 o → 1 < 0) ∧ ¬ K.2.1 0 o = 32) : NwR K (mkN K q a b c) g (gset (gset g q 0 0 0) q 1 O k) q O k 1 := leaf_okI h hq ⟨hk, hi⟩ hs hO
end BT2
