/-- a program that is being made: k of the seven -/
def PgI (G : pT) (K : PK) (g : Nat → Nat → Nat) (ax pq dr ml k : Nat) : Prop := (K.1 pq = 7 ∧ K.2.2.1 18 pq = some ax ∧ K.2.2.1 14 pq = some dr ∧ K.1 dr = 8 ∧ K.2.2.1 15 pq = some ml ∧ K.1 ml = 5 ∧ g 3 ml = 6) ∧ k ≤ 7 ∧ DcR K g dr k ∧ LsC G K ml 3 0 (fun _ => 0) 0 ∧ (∀ q : Nat, ¬ K.1 q = 3) ∧ DcA K dr k ∧ PaN K dr k ∧ 2 * sumN (fz K dr 8) k + 5 * sumN (fz K dr 9) k ≤ 0
def gP (g : Nat → Nat → Nat) (x : Nat) : Nat → Nat → Nat := fun i p => if p = x then (if i = 3 then 6 else 0) else g i p
section PI
variable {G : pT} {K K1 K2 : PK} {g g1 : Nat → Nat → Nat} {p q x y o b ax pq dr ml k : Nat} {v : Int32}
theorem PgI.nil (h7 : K.1 pq = 7) (hon : ∀ q : Nat, ¬ q = pq → K.1 q = 0) (hd : (kC K 18 pq (some ax)).1 dr = 0) (hm : (kC (kN (kC K 18 pq (some ax)) dr 8 37) 14 pq (some dr)).1 ml = 0) : PgI G (addL G (kC (kN (kC K 18 pq (some ax)) dr 8 37) 14 pq (some dr)) pq 15 ml) (gP g ml) ax pq dr ml 0 ∧ WPr G (addL G (kC (kN (kC K 18 pq (some ax)) dr 8 37) 14 pq (some dr)) pq 15 ml) (gP g ml) := by
  have hd0 : K.1 dr = 0 := hd
  have ndp : ¬ dr = pq := fun z => by rw [z, h7] at hd0; exact absurd hd0 (by decide)
  have tm : ∀ p : Nat, (kC (kN (kC K 18 pq (some ax)) dr 8 37) 14 pq (some dr)).1 p = if p = dr then 8 else K.1 p := fun p => rfl
  have nmd : ¬ ml = dr := fun z => by rw [z, tm, if_pos rfl] at hm; exact absurd hm (by decide)
  have nmp : ¬ ml = pq := fun z => by rw [z, tm, if_neg (fun w => ndp w.symm), h7] at hm; exact absurd hm (by decide)
  generalize e1 : kC (kN (kC K 18 pq (some ax)) dr 8 37) 14 pq (some dr) = Km at hm tm
  have t1 : ∀ p : Nat, (addL G Km pq 15 ml).1 p = if p = ml then 5 else if p = dr then 8 else K.1 p := fun p => by
    show (if p = ml then 5 else Km.1 p) = _
    rw [tm]
  have tp : (addL G Km pq 15 ml).1 pq = 7 := by rw [t1, if_neg (fun z => nmp z.symm), if_neg (fun z => ndp z.symm)]; exact h7
  have kp : ¬ Km.1 pq = 0 := by rw [tm, if_neg (fun z => ndp z.symm), h7]; decide
  have c18 : Km.2.2.1 18 pq = some ax := by
    rw [← e1]
    have z : (kC (kN (kC K 18 pq (some ax)) dr 8 37) 14 pq (some dr)).2.2.1 18 pq = (kN (kC K 18 pq (some ax)) dr 8 37).2.2.1 18 pq := kC_of (by decide)
    rw [z]
    exact (if_neg (fun w => ndp w.symm)).trans kC_eq
  have c14 : Km.2.2.1 14 pq = some dr := by rw [← e1]; exact kC_eq
  clear e1
  have srt : ∀ (p s : Nat), (addL G Km pq 15 ml).1 p = s → s = 0 ∨ s = 5 ∧ p = ml ∨ s = 8 ∨ s = 7 := fun p s hs => by
    rw [t1] at hs
    by_cases z1 : p = ml
    · rw [if_pos z1] at hs; exact Or.inr (Or.inl ⟨hs.symm, z1⟩)
    · rw [if_neg z1] at hs
      by_cases z2 : p = dr
      · rw [if_pos z2] at hs; exact Or.inr (Or.inr (Or.inl hs.symm))
      · rw [if_neg z2] at hs
        by_cases z3 : p = pq
        · rw [z3, h7] at hs; exact Or.inr (Or.inr (Or.inr hs.symm))
        · rw [hon p z3] at hs; exact Or.inl hs.symm
  have gm : gP g ml 3 ml = 6 := by unfold gP; rw [if_pos rfl, if_pos rfl]
  refine ⟨⟨⟨tp, (addL_C hm kp (by decide)).trans c18, (addL_C hm kp (by decide)).trans c14, by rw [t1, if_neg (fun z => nmd z.symm), if_pos rfl], addL_f, by rw [t1, if_pos rfl], gm⟩, by omega, fun k hk => absurd hk (by omega), addL_ls nmp, fun q hq => ?_, fun q hq => ?_, fun k hk => absurd hk (by omega), Nat.le_refl _⟩, fun p hp hl => ?_, fun p hp => ?_, fun p hp => ?_, fun p hp => ?_⟩
  · rcases srt q 3 hq with z | z | z | z
    · exact absurd z (by decide)
    · exact absurd z.1 (by decide)
    · exact absurd z (by decide)
    · exact absurd z (by decide)
  · rcases srt q 4 hq with z | z | z | z
    · exact absurd z (by decide)
    · exact absurd z.1 (by decide)
    · exact absurd z (by decide)
    · exact absurd z (by decide)
  · rcases srt p 1 hp with z | z | z | z
    · exact absurd z (by decide)
    · exact absurd z.1 (by decide)
    · exact absurd z (by decide)
    · exact absurd z (by decide)
  · rcases srt p 5 hp with z | z | z | z
    · exact absurd z (by decide)
    · rw [z.2]; exact ⟨0, fun _ => 0, 0, addL_ls nmp, Nat.zero_le _, by omega⟩
    · exact absurd z (by decide)
    · exact absurd z (by decide)
  · rcases srt p 4 hp with z | z | z | z
    · exact absurd z (by decide)
    · exact absurd z.1 (by decide)
    · exact absurd z (by decide)
    · exact absurd z (by decide)
  · rcases srt p 3 hp with z | z | z | z
    · exact absurd z (by decide)
    · exact absurd z.1 (by decide)
    · exact absurd z (by decide)
    · exact absurd z (by decide)
theorem PgI.push (h : PgI G K g ax pq dr ml k) (hw0 : ∀ q : Nat, K.1 q = 4 → DcO K g q) (hx : ∀ p : Nat, ¬ K.1 p = 0 → Sm K K2 p ∧ ∀ i : Nat, g1 i p = g i p) (hn : ∀ p : Nat, K.1 p = 0 → K2.1 p = 0 ∨ p = q ∨ K2.1 p = 5) (hw : WPr G K2 g1) (hk7 : k + 1 ≤ 7) (hq : K2.1 q = 4) (h15 : K2.2.1 15 q = nI k ∧ g1 5 q = bti k) (h8 : K2.2.2.1 8 q = some x ∧ K2.2.1 23 x = 0) (h9 : K2.2.2.1 9 q = some y ∧ K2.2.1 23 y = 0) (h10 : K2.2.2.1 10 q = none ∧ K2.2.2.1 11 q = some o ∧ K2.2.2.1 12 q = some b ∧ K2.2.1 23 o = 0 ∧ K2.2.1 23 b = 0) :
    PgI G (kE K2 dr (va_up (K2.2.2.2.2.1 dr) k (some q))) g1 ax pq dr ml (k + 1) ∧ WPr G (kE K2 dr (va_up (K2.2.2.2.2.1 dr) k (some q))) g1 := by
  obtain ⟨⟨b1, b2, b3, b4, b5, b6, b7⟩, h2, hd, hl, h3, hA, hN, hs⟩ := h
  have sp := (hx pq (by rw [b1]; decide)).1
  have sr := (hx dr (by rw [b4]; decide)).1
  have sm := hx ml (by rw [b6]; decide)
  generalize e0 : kE K2 dr (va_up (K2.2.2.2.2.1 dr) k (some q)) = K1
  have T : ∀ p : Nat, K1.1 p = K2.1 p := fun p => by rw [← e0]; rfl
  have C : ∀ f p : Nat, K1.2.2.1 f p = K2.2.2.1 f p := fun f p => by rw [← e0]; rfl
  have I : ∀ f p : Nat, K1.2.1 f p = K2.2.1 f p := fun f p => by rw [← e0]; rfl
  have E : ∀ p : Nat, ¬ p = dr → K1.2.2.2.2.1 p = K2.2.2.2.2.1 p := fun p hp => by rw [← e0]; exact if_neg hp
  have E0 : K1.2.2.2.2.1 dr = va_up (K2.2.2.2.2.1 dr) k (some q) := by rw [← e0]; exact if_pos rfl
  have L : ∀ p : Nat, K1.2.2.2.2.2 p = K2.2.2.2.2.2 p := fun p => by rw [← e0]; rfl
  have Z : ∀ p : Nat, K1.2.2.2.1 p = K2.2.2.2.1 p := fun p => by rw [← e0]; rfl
  clear e0
  have sm2 : ∀ p : Nat, ¬ K2.1 p = 8 → Sm K2 K1 p := fun p h8 => ⟨T p, fun f => I f p, fun f => C f p, Z p, E p (fun z => h8 (by rw [z]; exact sr.1.trans b4)), L p⟩
  have lz : ∀ o9 : Option Nat, lsz K1 o9 = lsz K2 o9 := fun o9 => by
    cases o9 with
    | none => rfl
    | some x => show szL K1 x = szL K2 x; unfold szL; rw [I]
  have el : ∀ j : Nat, ¬ j = k → K1.2.2.2.2.1 dr j = K.2.2.2.2.1 dr j := fun j hj => by rw [E0, va_up_ne _ _ hj, sr.2.2.2.2.1]
  have en : K1.2.2.2.2.1 dr k = some q := by rw [E0]; exact va_up_self _ _ _
  have old : ∀ j : Nat, j < k → ∃ d : Nat, K.2.2.2.2.1 dr j = some d ∧ K.1 d = 4 ∧ K.2.1 15 d = nI j ∧ g 5 d = bti j ∧ Sm K K2 d ∧ (∀ i : Nat, g1 i d = g i d) := fun j hj => by
    obtain ⟨d, d1, d2, d3, d4⟩ := hd j hj
    exact ⟨d, d1, d2, d3, d4, (hx d (by rw [d2]; decide)).1, (hx d (by rw [d2]; decide)).2⟩
  have fe : ∀ fd : Nat, (fd = 8 ∨ fd = 9) → ∀ j : Nat, j < k → fz K1 dr fd j = fz K dr fd j := fun fd hfd j hj => by
    obtain ⟨d, d1, d2, d3, d4, d5, d6⟩ := old j hj
    have e1 : ∃ r9 : Nat, Own K g (K.2.2.1 fd d) d r9 := by
      rcases hfd with e | e <;> subst e
      · exact ⟨1, (hw0 d d2).1⟩
      · exact ⟨2, (hw0 d d2).2.1⟩
    obtain ⟨r9, e1⟩ := e1
    unfold fz
    rw [el j (by omega), d1]
    show lsz K1 (K1.2.2.1 fd d) = lsz K (K.2.2.1 fd d)
    rw [lz, C]
    exact lsz_sm (d5.2.2.1 fd) e1 (fun x h5 _ => (hx x (by rw [h5]; decide)).1.2.1 23)
  have f8 : fz K1 dr 8 k = 0 := by
    unfold fz
    rw [en]
    show lsz K1 (K1.2.2.1 8 q) = 0
    rw [lz, C, h8.1]
    show szL K2 x = 0
    unfold szL
    rw [h8.2]; rfl
  have f9 : fz K1 dr 9 k = 0 := by
    unfold fz
    rw [en]
    show lsz K1 (K1.2.2.1 9 q) = 0
    rw [lz, C, h9.1]
    show szL K2 y = 0
    unfold szL
    rw [h9.2]; rfl
  have s8 : sumN (fz K1 dr 8) (k + 1) ≤ sumN (fz K dr 8) k := by
    show sumN (fz K1 dr 8) k + fz K1 dr 8 k ≤ _
    rw [f8]
    exact sumN_le (fun j hj => Nat.le_of_eq (fe 8 (Or.inl rfl) j hj))
  have s9 : sumN (fz K1 dr 9) (k + 1) ≤ sumN (fz K dr 9) k := by
    show sumN (fz K1 dr 9) k + fz K1 dr 9 k ≤ _
    rw [f9]
    exact sumN_le (fun j hj => Nat.le_of_eq (fe 9 (Or.inr rfl) j hj))
  refine ⟨⟨⟨(T pq).trans (sp.1.trans b1), (C 18 pq).trans ((sp.2.2.1 18).trans b2), (C 14 pq).trans ((sp.2.2.1 14).trans b3), (T dr).trans (sr.1.trans b4), (C 15 pq).trans ((sp.2.2.1 15).trans b5), (T ml).trans (sm.1.1.trans b6), (sm.2 3).trans b7⟩, hk7, fun j hj => ?_, ?_, fun p hp => ?_, fun p hp => ?_, fun j hj d he => ?_, by omega⟩, WPr.sm hw T (fun p _ h8 _ => sm2 p h8) (fun p _ => I 0 p)⟩
  · by_cases e : j = k
    · subst e; exact ⟨q, en, (T q).trans hq, (I 15 q).trans h15.1, h15.2⟩
    · obtain ⟨d, d1, d2, d3, d4, d5, d6⟩ := old j (by omega)
      exact ⟨d, (el j e).trans d1, (T d).trans (d5.1.trans d2), (I 15 d).trans ((d5.2.1 15).trans d3), (d6 5).trans d4⟩
  · have l2 : LsC G K2 ml 3 0 (fun _ => 0) 0 := LsC.wx (fun p hp => (hx p hp).1.1) (by decide) sm.1 (fun e he _ => (hx e (by rw [he]; decide)).1) hl
    exact LsC.wx (fun p _ => T p) (by decide) (sm2 ml (by rw [sm.1.1, b6]; decide)) (fun e he _ => sm2 e (by rw [he]; decide)) l2
  · have hp2 : K2.1 p = 3 := (T p).symm.trans hp
    by_cases z : K.1 p = 0
    · rcases hn p z with w | w | w
      · rw [hp2] at w; exact absurd w (by decide)
      · rw [w, hq] at hp2; exact absurd hp2 (by decide)
      · rw [hp2] at w; exact absurd w (by decide)
    · exact h3 p ((hx p z).1.1.symm.trans hp2)
  · have hp2 : K2.1 p = 4 := (T p).symm.trans hp
    by_cases z : K.1 p = 0
    · rcases hn p z with w | w | w
      · rw [hp2] at w; exact absurd w (by decide)
      · exact ⟨k, by omega, by rw [w]; exact en⟩
      · rw [hp2] at w; exact absurd w (by decide)
    · obtain ⟨j, hj, e⟩ := hA p ((hx p z).1.1.symm.trans hp2)
      exact ⟨j, by omega, (el j (by omega)).trans e⟩
  · rw [C, C, C, lz, lz]
    by_cases e : j = k
    · rw [e, en] at he; cases he
      obtain ⟨y1, y2, y3, y4, y5⟩ := h10
      rw [y2, y3]
      refine ⟨y1, ?_, ?_⟩
      · show szL K2 o = 0
        unfold szL
        rw [y4]; rfl
      · show szL K2 b = 0
        unfold szL
        rw [y5]; rfl
    · rw [el j e] at he
      obtain ⟨d', d1, d2, d3, d4, d5, d6⟩ := old j (by omega)
      rw [he] at d1; cases d1
      rw [d5.2.2.1 10, lsz_sm (d5.2.2.1 11) (hw0 d d2).2.2.1 (fun x h5 _ => (hx x (by rw [h5]; decide)).1.2.1 23), lsz_sm (d5.2.2.1 12) (hw0 d d2).2.2.2.1 (fun x h5 _ => (hx x (by rw [h5]; decide)).1.2.1 23)]
      exact hN j (by omega) d he
theorem PgI.fin (h : PgI G K g ax pq dr ml 7) (hw : WPr G K g) : PgS G (kI (kI K 24 pq 7) 25 pq v) g ax pq dr ml 7 0 0 (fun _ => 0) 0 ∧ WPr G (kI (kI K 24 pq 7) 25 pq v) g := by
  obtain ⟨⟨b1, b2, b3, b4, b5, b6, b7⟩, h2, hd, hl, h3, hA, hN, hs⟩ := h
  refine ⟨?_, WPr.kI (WPr.kI hw (by decide) (Or.inl (by decide))) (by decide) (Or.inl (by decide))⟩
  have h0 : PgS G (kI K 24 pq 7) g ax pq dr ml 7 0 0 (fun _ => 0) 0 := by
    refine ⟨⟨b1, b2, b3, b4, b5, b6, b7, kI_eq.trans (show (7 : Int32) = nI 7 by decide), by omega, by omega⟩, fun k hk => ?_, ⟨hl.1, (kI_of (by decide)).trans hl.2.1, hl.2.2⟩, fun q hq => absurd hq (h3 q), ?_, by omega, by omega, hA, PaN.of hN hd rfl (fun d _ => ⟨rfl, lsz_kI (by decide), lsz_kI (by decide)⟩), TbO.kI (K := K) (Nat.le_of_eq (sumN_0 (fun k hk => fw_z (sumN_0i (f := fz K dr 9) (n := 7) (by omega) k hk)))) (by decide)⟩
    · obtain ⟨d, d1, d2, d3, d4⟩ := hd k hk
      exact ⟨d, d1, d2, (kI_of (by decide)).trans d3, d4⟩
    · have e : ∀ fd : Nat, fz (kI K 24 pq 7) dr fd = fz K dr fd := fun fd => funext (fun k => fz_kI (by decide))
      rw [e, e]; exact hs
  exact PgS.kI h0 (by decide)
end PI
