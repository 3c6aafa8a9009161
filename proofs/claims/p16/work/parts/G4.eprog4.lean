section ES
variable {G : pT} {K K1 K2 : PK} {g g1 g2 : Nat → Nat → Nat} {p q d f o x y b ax pq dr ml nd nm cp s es n cap k r fd f1 f2 f3 f4 d9 : Nat} {it : Nat → Nat} {v x1 x2 x3 x4 : Int32}
/-- nothing of what it speaks of has changed -/
theorem WPr.sm (h : WPr G K g) (hT : ∀ p : Nat, K1.1 p = K.1 p) (hs : ∀ p : Nat, ¬ K.1 p = 7 → ¬ K.1 p = 8 → ¬ K.1 p = 0 → Sm K K1 p) (h7 : ∀ p : Nat, K.1 p = 1 → K1.2.1 0 p = K.2.1 0 p) : WPr G K1 g := by
  obtain ⟨w1, w2, w3, w4⟩ := h
  have wx : WX K K1 g g := fun p hp => ⟨hT p, fun _ => rfl, h7 p⟩
  have sm : ∀ p s : Nat, K.1 p = s → ¬ s = 7 → ¬ s = 8 → ¬ s = 0 → Sm K K1 p := fun p s hp a b c => hs p (by rw [hp]; exact a) (by rw [hp]; exact b) (by rw [hp]; exact c)
  refine ⟨fun p hp hl => ?_, fun p hp => ?_, fun p hp => ?_, fun p hp => ?_⟩
  · have z := (hT p).symm.trans hp
    exact NdO.wx wx z (sm p 1 z (by decide) (by decide) (by decide)) (w1 p z hl)
  · have z := (hT p).symm.trans hp
    exact LsO.wx wx z (sm p 5 z (by decide) (by decide) (by decide)) (fun e he _ => sm e 6 he (by decide) (by decide) (by decide)) (w2 p z)
  · have z := (hT p).symm.trans hp
    exact DcO.wx wx z (sm p 4 z (by decide) (by decide) (by decide)) (w3 p z)
  · have z := (hT p).symm.trans hp
    exact MtO.wx wx (sm p 3 z (by decide) (by decide) (by decide)) (w4 p z)
/-- a number that it doesn't speak of -/
theorem WPr.kI (h : WPr G K g) (hf : ¬ 0 = f ∧ ¬ 23 = f ∧ ¬ 12 = f) (hb : (¬ 18 = f ∧ ¬ 19 = f ∧ ¬ 21 = f) ∨ g 5 q = 0) : WPr G (kI K f q v) g := by
  obtain ⟨w1, w2, w3, w4⟩ := h
  refine ⟨fun p hp hl => ?_, fun p hp => ?_, fun p hp => ?_, fun p hp => ?_⟩
  · obtain ⟨a1, a2, a3, a4, a5⟩ := w1 p hp hl
    have e : ∀ y : Nat, (_root_.Jvm.Pilot.@@N@@.kI K f q v).2.1 0 y = K.2.1 0 y := fun y => kI_of hf.1
    unfold NdO
    simp only [e]
    exact ⟨a1, a2, a3, a4, a5⟩
  · obtain ⟨n, it, cap, ⟨b1, b2, b3, b4⟩, h2⟩ := w2 p hp
    exact ⟨n, it, cap, ⟨b1, (kI_of hf.2.1).trans b2, b3, b4⟩, h2⟩
  · obtain ⟨z1, z2, z3, z4, z5, z6, z7⟩ := w3 p hp
    refine ⟨z1, z2, z3, z4, z5, fun hg => ?_, z7⟩
    rcases hb with ⟨y1, y2, y3⟩ | y
    · rw [kI_of y1, kI_of y2, kI_of y3]; exact z6 hg
    · have hn : ¬ p = q := fun z => by rw [z, y] at hg; exact absurd hg (by decide)
      rw [kI_ne hn, kI_ne hn, kI_ne hn]; exact z6 hg
  · obtain ⟨b1, b2, b3, b5⟩ := w4 p hp
    refine ⟨b1, b2, fun b hb => ?_, by rw [kI_of hf.2.2]; exact b5⟩
    obtain ⟨c1, c2, c3, c4⟩ := b3 b hb
    exact ⟨c1, c2, c3, (kI_of hf.1).trans c4⟩
theorem fz_kI (hf : ¬ 23 = f) : fz (kI K f q v) dr fd k = fz K dr fd k := by
  unfold fz
  show (match K.2.2.2.2.1 dr k with | none => 0 | some d => lsz (kI K f q v) (K.2.2.1 fd d)) = _
  cases K.2.2.2.2.1 dr k with
  | none => rfl
  | some d =>
    show lsz (kI K f q v) (K.2.2.1 fd d) = lsz K (K.2.2.1 fd d)
    cases K.2.2.1 fd d with
    | none => rfl
    | some x =>
      show szL (kI K f q v) x = szL K x
      unfold szL
      rw [kI_of hf]
theorem PgU.kI (h : PgU G K g ax pq dr ml nd nm cp it s) (hf : ¬ 9 = f ∧ ¬ 15 = f ∧ ¬ 23 = f ∧ ¬ 24 = f) : PgU G (kI K f q v) g ax pq dr ml nd nm cp it s := by
  obtain ⟨⟨b1, b2, b3, b4, b5, b6, b7, b8, b9⟩, h2, ⟨l1, l2, l3, l4⟩, h4, h5, h6, h7⟩ := h
  refine ⟨⟨b1, b2, b3, b4, b5, b6, b7, (kI_of hf.2.2.2).trans b8, b9⟩, fun k hk => ?_, ⟨l1, (kI_of hf.2.2.1).trans l2, l3, l4⟩, fun q hq => ?_, ?_, h6, h7⟩
  · obtain ⟨d, d1, d2, d3⟩ := h2 k hk
    exact ⟨d, d1, d2, (kI_of hf.2.1).trans d3.1, d3.2⟩
  · rw [kI_of hf.1]; exact h4 q hq
  · have e : ∀ fd : Nat, fz (_root_.Jvm.Pilot.@@N@@.kI K f q v) dr fd = fz K dr fd := fun fd => funext (fun k => fz_kI hf.2.2.1)
    rw [e, e]; exact h5
/-- a method gets its body -/
theorem WPr.body (h : WPr G K g) (hb : K.1 b = 1 ∧ 1 ≤ g 0 b ∧ g 0 b ≤ 231 ∧ K.2.1 0 b = 21) (hq : K.1 q = 3) : WPr G (kC K 7 q (some b)) g := by
  obtain ⟨w1, w2, w3, w4⟩ := h
  have c : ∀ f p : Nat, ¬ f = 7 → (kC K 7 q (some b)).2.2.1 f p = K.2.2.1 f p := fun f p hf => kC_of hf
  refine ⟨fun p hp hl => ?_, fun p hp => ?_, fun p hp => ?_, fun p hp => ?_⟩
  · obtain ⟨a1, a2, a3, a4, a5⟩ := w1 p hp hl
    refine ⟨Shp.of (fun f hf => c f p (by omega)) a1, fun f y hf hy => ?_, fun y hy => ?_, a4, a5⟩
    · rw [c f p (by omega)] at hy; exact a2 f y hf hy
    · rw [c 4 p (by omega)] at hy; exact a3 y hy
  · obtain ⟨n, it, cap, ⟨b1, b2, b3, b4⟩, h2⟩ := w2 p hp
    refine ⟨n, it, cap, ⟨b1, b2, b3, ?_⟩, h2⟩
    rw [c 13 p (by decide)]
    rcases b4 with z | ⟨e9, a1, a2, a3, z⟩
    · exact Or.inl z
    · exact Or.inr ⟨e9, a1, a2, (c 17 e9 (by decide)).trans a3, z⟩
  · obtain ⟨z1, z2, z3, z4, z5⟩ := w3 p hp
    unfold DcO
    rw [c 8 p (by decide), c 9 p (by decide), c 11 p (by decide), c 12 p (by decide), c 10 p (by decide)]
    exact ⟨z1, z2, z3, z4, z5⟩
  · obtain ⟨z1, z2, z3, z4⟩ := w4 p hp
    unfold MtO
    rw [c 6 p (by decide), c 5 p (by decide)]
    refine ⟨z1, z2, fun b9 hb9 => ?_, z4⟩
    by_cases e : p = q
    · rw [e, kC_eq] at hb9; cases hb9; exact hb
    · rw [kC_ne e] at hb9; exact z3 b9 hb9
theorem PgU.kC {w : Option Nat} (h : PgU G K g ax pq dr ml nd nm cp it s) (hf : f = 7 ∨ f = 10) : PgU G (kC K f q w) g ax pq dr ml nd nm cp it s := by
  have c : ∀ f9 p : Nat, ¬ f9 = 7 → ¬ f9 = 10 → (_root_.Jvm.Pilot.@@N@@.kC K f q w).2.2.1 f9 p = K.2.2.1 f9 p := fun f9 p h1 h2 => kC_of (by omega)
  obtain ⟨⟨b1, b2, b3, b4, b5, b6, b7, b8, b9⟩, h2, ⟨l1, l2, l3, l4⟩, h4, h5, h6, h7⟩ := h
  refine ⟨⟨b1, (c 18 pq (by decide) (by decide)).trans b2, (c 14 pq (by decide) (by decide)).trans b3, b4, (c 15 pq (by decide) (by decide)).trans b5, b6, b7, b8, b9⟩, h2, ⟨l1, l2, l3, ?_⟩, h4, ?_, h6, h7⟩
  · rw [c 13 ml (by decide) (by decide)]
    rcases l4 with z | ⟨e9, a1, a2, a3, z⟩
    · exact Or.inl z
    · exact Or.inr ⟨e9, a1, a2, (c 17 e9 (by decide) (by decide)).trans a3, z⟩
  · have e : ∀ fd : Nat, fd = 8 ∨ fd = 9 → fz (_root_.Jvm.Pilot.@@N@@.kC K f q w) dr fd = fz K dr fd := fun fd hfd => funext (fun k => by
      unfold fz
      show (match K.2.2.2.2.1 dr k with | none => 0 | some d => lsz K ((_root_.Jvm.Pilot.@@N@@.kC K f q w).2.2.1 fd d)) = _
      cases K.2.2.2.2.1 dr k with
      | none => rfl
      | some d =>
        show lsz K ((_root_.Jvm.Pilot.@@N@@.kC K f q w).2.2.1 fd d) = lsz K (K.2.2.1 fd d)
        rw [c fd d (fun z => by rw [z] at hfd; exact absurd hfd (by decide)) (fun z => by rw [z] at hfd; exact absurd hfd (by decide))])
    rw [e 8 (Or.inl rfl), e 9 (Or.inr rfl)]; exact h5
/-- a Decl more -/
theorem PgU.push (h : PgU G K g ax pq dr ml nd nm cp it s) (hw : WPr G K g) (hnd : nd + 1 ≤ 37) (hq : K.1 q = 4) (h15 : K.2.1 15 q = nI nd ∧ g 5 q = bti nd) (h8 : K.2.2.1 8 q = some x ∧ K.2.1 23 x = 0) (h9 : K.2.2.1 9 q = some y ∧ K.2.1 23 y = 0) :
    PgU G (_root_.Jvm.Pilot.@@N@@.kI (kE K dr (va_up (K.2.2.2.2.1 dr) nd (some q))) 24 pq (nI (nd + 1))) g ax pq dr ml (nd + 1) nm cp it s ∧ WPr G (_root_.Jvm.Pilot.@@N@@.kI (kE K dr (va_up (K.2.2.2.2.1 dr) nd (some q))) 24 pq (nI (nd + 1))) g := by
  have hw0 := hw
  obtain ⟨⟨b1, b2, b3, b4, b5, b6, b7, b8, b9⟩, h2, ⟨l1, l2, l3, l4⟩, h4, h5, h6, h7⟩ := h
  generalize e0 : _root_.Jvm.Pilot.@@N@@.kI (kE K dr (va_up (K.2.2.2.2.1 dr) nd (some q))) 24 pq (nI (nd + 1)) = K1
  have T : ∀ p : Nat, K1.1 p = K.1 p := fun p => by rw [← e0]; rfl
  have C : ∀ f p : Nat, K1.2.2.1 f p = K.2.2.1 f p := fun f p => by rw [← e0]; rfl
  have I : ∀ f p : Nat, ¬ f = 24 → K1.2.1 f p = K.2.1 f p := fun f p hf => by rw [← e0]; exact kI_of hf
  have E : ∀ p : Nat, ¬ p = dr → K1.2.2.2.2.1 p = K.2.2.2.2.1 p := fun p hp => by rw [← e0]; exact if_neg hp
  have E0 : K1.2.2.2.2.1 dr = va_up (K.2.2.2.2.1 dr) nd (some q) := by rw [← e0]; exact if_pos rfl
  have L : ∀ p : Nat, K1.2.2.2.2.2 p = K.2.2.2.2.2 p := fun p => by rw [← e0]; rfl
  have Z : ∀ p : Nat, K1.2.2.2.1 p = K.2.2.2.1 p := fun p => by rw [← e0]; rfl
  have I24 : K1.2.1 24 pq = nI (nd + 1) := by rw [← e0]; exact kI_eq
  have I2 : ∀ f p : Nat, ¬ p = pq → K1.2.1 f p = K.2.1 f p := fun f p hp => by rw [← e0]; exact kI_ne hp
  clear e0
  have sm : ∀ p : Nat, ¬ K.1 p = 7 → ¬ K.1 p = 8 → ¬ K.1 p = 0 → Sm K K1 p := fun p h7 h8 _ => ⟨T p, fun f => I2 f p (fun z => h7 (by rw [z]; exact b1)), fun f => C f p, Z p, E p (fun z => h8 (by rw [z]; exact b4)), L p⟩
  have el : ∀ k : Nat, ¬ k = nd → K1.2.2.2.2.1 dr k = K.2.2.2.2.1 dr k := fun k hk => by rw [E0]; exact va_up_ne _ _ hk
  have en : K1.2.2.2.2.1 dr nd = some q := by rw [E0]; exact va_up_self _ _ _
  have fe : ∀ fd k : Nat, k < nd → fz K1 dr fd k = fz K dr fd k := fun fd k hk => by
    unfold fz
    rw [el k (by omega)]
    cases K.2.2.2.2.1 dr k with
    | none => rfl
    | some d =>
      show lsz K1 (K1.2.2.1 fd d) = lsz K (K.2.2.1 fd d)
      rw [C]
      cases K.2.2.1 fd d with
      | none => rfl
      | some x =>
        show szL K1 x = szL K x
        unfold szL
        rw [I 23 x (by decide)]
  have f8 : fz K1 dr 8 nd = 0 := by
    unfold fz
    rw [en]
    show lsz K1 (K1.2.2.1 8 q) = 0
    rw [C, h8.1]
    show szL K1 x = 0
    unfold szL
    rw [I 23 x (by decide), h8.2]; rfl
  have f9 : fz K1 dr 9 nd = 0 := by
    unfold fz
    rw [en]
    show lsz K1 (K1.2.2.1 9 q) = 0
    rw [C, h9.1]
    show szL K1 y = 0
    unfold szL
    rw [I 23 y (by decide), h9.2]; rfl
  have s8 : sumN (fz K1 dr 8) (nd + 1) ≤ sumN (fz K dr 8) nd := by
    show sumN (fz K1 dr 8) nd + fz K1 dr 8 nd ≤ _
    rw [f8]
    exact sumN_le (fun k hk => Nat.le_of_eq (fe 8 k hk))
  have s9 : sumN (fz K1 dr 9) (nd + 1) ≤ sumN (fz K dr 9) nd := by
    show sumN (fz K1 dr 9) nd + fz K1 dr 9 nd ≤ _
    rw [f9]
    exact sumN_le (fun k hk => Nat.le_of_eq (fe 9 k hk))
  refine ⟨⟨⟨(T pq).trans b1, (C 18 pq).trans b2, (C 14 pq).trans b3, (T dr).trans b4, (C 15 pq).trans b5, (T ml).trans b6, b7, I24, by omega, by omega⟩, fun k hk => ?_, ?_, fun p hp => ?_, by omega, h6, h7⟩, WPr.sm hw0 T sm (fun p hp => I 0 p (by decide))⟩
  · by_cases e : k = nd
    · subst e; exact ⟨q, en, (T q).trans hq, (I 15 q (by decide)).trans h15.1, h15.2⟩
    · obtain ⟨d, d1, d2, d3⟩ := h2 k (by omega)
      exact ⟨d, (el k e).trans d1, (T d).trans d2, (I 15 d (by decide)).trans d3.1, d3.2⟩
  · exact LsC.wx (fun p _ => T p) (by decide) (sm ml (by rw [b6]; decide) (by rw [b6]; decide) (by rw [b6]; decide)) (fun e he _ => sm e (by rw [he]; decide) (by rw [he]; decide) (by rw [he]; decide)) ⟨l1, l2, l3, l4⟩
  · rw [I 9 p (by decide)]
    exact h4 p ((T p).symm.trans hp)
/-- a method with a block is numbered -/
theorem PgU.addm (h : PgU G K g ax pq dr ml nd nm cp it s) (hw : ∀ q : Nat, K.1 q = 4 → DcO K g q) (hq : K.1 q = 3) (ha : AdQ (_root_.Jvm.Pilot.@@N@@.kI K 9 q (nI nm)) K1 ml) (hn6 : N6 (_root_.Jvm.Pilot.@@N@@.kI K 9 q (nI nm)) K1) (hl : LsC G K1 ml 3 (nm + 1) (upQ it nm q) (cp + d9)) (hc : cp + d9 ≤ 10 + 2 * (nm + 1)) (hs : 6 * (nm + 1) ≤ s) : PgU G K1 g ax pq dr ml nd (nm + 1) (cp + d9) (upQ it nm q) s := by
  obtain ⟨⟨b1, b2, b3, b4, b5, b6, b7, b8, b9⟩, h2, h3, h4, h5, h6, h7⟩ := h
  generalize e0 : _root_.Jvm.Pilot.@@N@@.kI K 9 q (nI nm) = Kn at ha hn6
  have T : ∀ p : Nat, Kn.1 p = K.1 p := fun p => by rw [← e0]; rfl
  have I : ∀ f p : Nat, ¬ f = 9 → Kn.2.1 f p = K.2.1 f p := fun f p hf => by rw [← e0]; exact kI_of hf
  have I9 : Kn.2.1 9 q = nI nm := by rw [← e0]; exact kI_eq
  have I9n : ∀ p : Nat, ¬ p = q → Kn.2.1 9 p = K.2.1 9 p := fun p hp => by rw [← e0]; exact kI_ne hp
  have C : ∀ f p : Nat, Kn.2.2.1 f p = K.2.2.1 f p := fun f p => by rw [← e0]; rfl
  have E : ∀ p : Nat, Kn.2.2.2.2.1 p = K.2.2.2.2.1 p := fun p => by rw [← e0]; rfl
  clear e0
  have sm : ∀ p s : Nat, K.1 p = s → ¬ s = 0 → ¬ s = 6 → ¬ p = ml → Sm Kn K1 p := fun p s hp h0 h6 hn => ha.sm (by rw [T, hp]; exact h0) hn (by rw [T, hp]; exact h6)
  have ne : ∀ p s : Nat, K.1 p = s → ¬ s = 5 → ¬ p = ml := fun p s hp hs z => hs (by rw [← hp, z]; exact b6)
  have sq := sm pq 7 b1 (by decide) (by decide) (ne pq 7 b1 (by decide))
  have sr := sm dr 8 b4 (by decide) (by decide) (ne dr 8 b4 (by decide))
  have fe : ∀ fd : Nat, (fd = 8 ∨ fd = 9) → ∀ k : Nat, k < nd → fz K1 dr fd k = fz K dr fd k := fun fd hfd k hk => by
    obtain ⟨d, d1, d2, d3⟩ := h2 k hk
    have sd := sm d 4 d2 (by decide) (by decide) (ne d 4 d2 (by decide))
    have e1 : ∃ x : Nat, K.2.2.1 fd d = some x ∧ K.1 x = 5 ∧ ¬ g 3 x = 6 := by
      obtain ⟨⟨x, y1, y2, y3, _⟩, ⟨x', z1, z2, z3, _⟩, _⟩ := hw d d2
      rcases hfd with e | e <;> subst e
      · exact ⟨x, y1, y2, by rw [y3]; decide⟩
      · exact ⟨x', z1, z2, by rw [z3]; decide⟩
    obtain ⟨x, e2, e3, e4⟩ := e1
    have sx := sm x 5 e3 (by decide) (by decide) (fun z => e4 (by rw [z]; exact b7))
    unfold fz
    rw [sr.2.2.2.2.1, E, d1]
    show lsz K1 (K1.2.2.1 fd d) = lsz K (K.2.2.1 fd d)
    rw [sd.2.2.1, C, e2]
    show szL K1 x = szL K x
    unfold szL
    rw [sx.2.1, I 23 x (by decide)]
  have se : ∀ fd : Nat, (fd = 8 ∨ fd = 9) → sumN (fz K1 dr fd) nd ≤ sumN (fz K dr fd) nd := fun fd hfd => sumN_le (fun k hk => Nat.le_of_eq (fe fd hfd k hk))
  refine ⟨⟨sq.1.trans ((T pq).trans b1), (sq.2.2.1 18).trans ((C 18 pq).trans b2), (sq.2.2.1 14).trans ((C 14 pq).trans b3), sr.1.trans ((T dr).trans b4), (sq.2.2.1 15).trans ((C 15 pq).trans b5), hl.1, b7, (sq.2.1 24).trans ((I 24 pq (by decide)).trans b8), b9⟩, fun k hk => ?_, hl, fun p hp => ?_, ?_, hs, hc⟩
  · obtain ⟨d, d1, d2, d3⟩ := h2 k hk
    have sd := sm d 4 d2 (by decide) (by decide) (ne d 4 d2 (by decide))
    exact ⟨d, by rw [sr.2.2.2.2.1, E]; exact d1, sd.1.trans ((T d).trans d2), (sd.2.1 15).trans ((I 15 d (by decide)).trans d3.1), d3.2⟩
  · obtain ⟨z, zp⟩ := hn6.old ha hp (by decide) (by decide)
    have zp2 : K.1 p = 3 := (T p).symm.trans zp
    rw [(sm p 3 zp2 (by decide) (by decide) (ne p 3 zp2 (by decide))).2.1 9]
    by_cases e : p = q
    · subst e
      refine Or.inr ⟨nm, by omega, I9, ?_⟩
      show (if nm = nm then p else it nm) = p
      exact if_pos rfl
    · rw [I9n p e]
      rcases h4 p zp2 with w | ⟨j, w1, w2, w3⟩
      · exact Or.inl w
      · refine Or.inr ⟨j, by omega, w2, ?_⟩
        show (if j = nm then q else it j) = p
        rw [if_neg (by omega)]; exact w3
  · have y1 := se 8 (Or.inl rfl)
    have y2 := se 9 (Or.inr rfl)
    omega
/-- every Decl is in the row -/
def DcA (K : PK) (dr nd : Nat) : Prop := ∀ q : Nat, K.1 q = 4 → ∃ k : Nat, k < nd ∧ K.2.2.2.2.1 dr k = some q
/-- nobody has a parent yet -/
def PaN (K : PK) (dr nd : Nat) : Prop := ∀ k : Nat, k < nd → ∀ d : Nat, K.2.2.2.2.1 dr k = some d → K.2.2.1 10 d = none ∧ lsz K (K.2.2.1 11 d) = 0 ∧ lsz K (K.2.2.1 12 d) = 0
def PgT (G : pT) (K : PK) (g : Nat → Nat → Nat) (ax pq dr ml nd nm cp : Nat) (it : Nat → Nat) (s : Nat) : Prop := PgB K g ax pq dr ml nd ∧ DcR K g dr nd ∧ LsC G K ml 3 nm it cp ∧ NmO K nm it ∧ 2 * sumN (fz K dr 8) nd + 5 * sumN (fz K dr 9) nd ≤ s ∧ 6 * nm ≤ s ∧ cp ≤ 10 + 2 * nm ∧ DcA K dr nd ∧ TbO K g dr nd s
def PgS (G : pT) (K : PK) (g : Nat → Nat → Nat) (ax pq dr ml nd nm cp : Nat) (it : Nat → Nat) (s : Nat) : Prop := PgB K g ax pq dr ml nd ∧ DcR K g dr nd ∧ LsC G K ml 3 nm it cp ∧ NmO K nm it ∧ 2 * sumN (fz K dr 8) nd + 5 * sumN (fz K dr 9) nd ≤ s ∧ 6 * nm ≤ s ∧ cp ≤ 10 + 2 * nm ∧ DcA K dr nd ∧ PaN K dr nd ∧ TbO K g dr nd s
theorem PgT.u (h : PgT G K g ax pq dr ml nd nm cp it s) : PgU G K g ax pq dr ml nd nm cp it s := ⟨h.1, h.2.1, h.2.2.1, h.2.2.2.1, h.2.2.2.2.1, h.2.2.2.2.2.1, h.2.2.2.2.2.2.1⟩
theorem PgT.a (h : PgT G K g ax pq dr ml nd nm cp it s) : DcA K dr nd := h.2.2.2.2.2.2.2.1
theorem PgT.tb (h : PgT G K g ax pq dr ml nd nm cp it s) : TbO K g dr nd s := h.2.2.2.2.2.2.2.2
theorem PgT.mk (h : PgU G K g ax pq dr ml nd nm cp it s) (n : DcA K dr nd) (tb : TbO K g dr nd s) : PgT G K g ax pq dr ml nd nm cp it s := ⟨h.1, h.2.1, h.2.2.1, h.2.2.2.1, h.2.2.2.2.1, h.2.2.2.2.2.1, h.2.2.2.2.2.2, n, tb⟩
theorem PgS.t (h : PgS G K g ax pq dr ml nd nm cp it s) : PgT G K g ax pq dr ml nd nm cp it s := ⟨h.1, h.2.1, h.2.2.1, h.2.2.2.1, h.2.2.2.2.1, h.2.2.2.2.2.1, h.2.2.2.2.2.2.1, h.2.2.2.2.2.2.2.1, h.2.2.2.2.2.2.2.2.2⟩
theorem PgS.pn (h : PgS G K g ax pq dr ml nd nm cp it s) : PaN K dr nd := h.2.2.2.2.2.2.2.2.1
theorem PgS.mk (h : PgT G K g ax pq dr ml nd nm cp it s) (n : PaN K dr nd) : PgS G K g ax pq dr ml nd nm cp it s := ⟨h.1, h.2.1, h.2.2.1, h.2.2.2.1, h.2.2.2.2.1, h.2.2.2.2.2.1, h.2.2.2.2.2.2.1, h.2.2.2.2.2.2.2.1, n, h.2.2.2.2.2.2.2.2⟩
theorem PgT.up {s1 : Nat} (h : PgT G K g ax pq dr ml nd nm cp it s) (hs : s ≤ s1) : PgT G K g ax pq dr ml nd nm cp it s1 := PgT.mk (PgU.up h.u hs) h.a (Nat.le_trans h.tb hs)
theorem PgS.up {s1 : Nat} (h : PgS G K g ax pq dr ml nd nm cp it s) (hs : s ≤ s1) : PgS G K g ax pq dr ml nd nm cp it s1 := PgS.mk (PgT.up h.t hs) h.pn
theorem PaN.of (h : PaN K dr nd) (hd : DcR K g dr nd) (hr : K1.2.2.2.2.1 dr = K.2.2.2.2.1 dr) (hs : ∀ d : Nat, K.1 d = 4 → K1.2.2.1 10 d = K.2.2.1 10 d ∧ lsz K1 (K1.2.2.1 11 d) = lsz K (K.2.2.1 11 d) ∧ lsz K1 (K1.2.2.1 12 d) = lsz K (K.2.2.1 12 d)) : PaN K1 dr nd := fun k hk d he => by
  rw [hr] at he
  obtain ⟨d', e1, e2, _⟩ := hd k hk
  rw [he] at e1; cases e1
  obtain ⟨s1, s2, s3⟩ := hs d e2
  rw [s1, s2, s3]; exact h k hk d he
theorem lsz_sm {r9 f9 : Nat} (hc : K1.2.2.1 f9 d = K.2.2.1 f9 d) (ho : Own K g (K.2.2.1 f9 d) d r9) (hx : ∀ x : Nat, K.1 x = 5 → g 3 x = r9 → K1.2.1 23 x = K.2.1 23 x) : lsz K1 (K1.2.2.1 f9 d) = lsz K (K.2.2.1 f9 d) := by
  obtain ⟨x, e1, e2, e3, _⟩ := ho
  rw [hc, e1]
  show szL K1 x = szL K x
  unfold szL
  rw [hx x e2 e3]
theorem DcA.of (h : DcA K dr nd) (hr : K1.2.2.2.2.1 dr = K.2.2.2.2.1 dr) (hs : ∀ d : Nat, K1.1 d = 4 → K.1 d = 4) : DcA K1 dr nd := fun q hq => by
  obtain ⟨k, hk, e⟩ := h q (hs q hq)
  exact ⟨k, hk, by rw [hr]; exact e⟩
theorem PgT.ext (h : PgT G K g ax pq dr ml nd nm cp it s) (hw : WPr G K g) (hx : ∀ p : Nat, ¬ K.1 p = 0 → Sm K K1 p ∧ ∀ i : Nat, g1 i p = g i p) (hn : ∀ q : Nat, K1.1 q = 3 → K.1 q = 0 → K1.2.1 9 q = -1) (h4 : ∀ q : Nat, K1.1 q = 4 → ¬ K.1 q = 0) : PgT G K1 g1 ax pq dr ml nd nm cp it s := PgT.mk (PgU.ext h.u hw.2.2.1 hx hn) (DcA.of h.a (hx dr (by rw [h.1.2.2.2.1]; decide)).1.2.2.2.2.1 (fun d hd => (hx d (h4 d hd)).1.1.symm.trans hd)) (TbO.ext h.tb h.2.1 hw h.1.2.2.2.1 hx)
theorem PgS.ext (h : PgS G K g ax pq dr ml nd nm cp it s) (hw : WPr G K g) (hx : ∀ p : Nat, ¬ K.1 p = 0 → Sm K K1 p ∧ ∀ i : Nat, g1 i p = g i p) (hn : ∀ q : Nat, K1.1 q = 3 → K.1 q = 0 → K1.2.1 9 q = -1) (h4 : ∀ q : Nat, K1.1 q = 4 → ¬ K.1 q = 0) : PgS G K1 g1 ax pq dr ml nd nm cp it s := PgS.mk (PgT.ext h.t hw hx hn h4) (PaN.of h.pn h.2.1 (hx dr (by rw [h.1.2.2.2.1]; decide)).1.2.2.2.2.1 (fun d hd => ⟨(hx d (by rw [hd]; decide)).1.2.2.1 10, lsz_sm ((hx d (by rw [hd]; decide)).1.2.2.1 11) (hw.2.2.1 d hd).2.2.1 (fun x h5 _ => (hx x (by rw [h5]; decide)).1.2.1 23), lsz_sm ((hx d (by rw [hd]; decide)).1.2.2.1 12) (hw.2.2.1 d hd).2.2.2.1 (fun x h5 _ => (hx x (by rw [h5]; decide)).1.2.1 23)⟩))
theorem PgT.add (h : PgT G K g ax pq dr ml nd nm cp it s) (hw : WPr G K g) (ha : AdQ K K1 f) (hn6 : N6 K K1) (hf : K.1 f = 5) (hml : ¬ f = ml) (hsz : szL K1 f = szL K f + 1) (hr : ¬ g 3 f = 6) (hx9 : g 3 f = 2 → ∃ (n : Nat) (it : Nat → Nat) (cap cap1 x : Nat), LsC G K f 3 n it cap ∧ LsC G K1 f 3 (n + 1) (upQ it n x) cap1 ∧ K1.2.2.1 7 x = none) : PgT G K1 g ax pq dr ml nd nm cp it (s + wr (g 3 f)) := by
  have ne : ∀ p s : Nat, K.1 p = s → ¬ s = 5 → ¬ p = f := fun p s hp hs z => hs (by rw [← hp, z]; exact hf)
  have hdr := h.1.2.2.2.1
  exact PgT.mk (PgU.add h.u hw.2.2.1 ha hn6 hf hml hsz hr) (DcA.of h.a (ha.sm (by rw [hdr]; decide) (ne dr 8 hdr (by decide)) (by rw [hdr]; decide)).2.2.2.2.1 (fun d hd => (hn6.old ha hd (by decide) (by decide)).2)) (TbO.add h.tb h.2.1 h.1.2.2.2.2.2.2.2.2.2 hw hdr ha hf hx9)
theorem PgS.add (h : PgS G K g ax pq dr ml nd nm cp it s) (hw : WPr G K g) (ha : AdQ K K1 f) (hn6 : N6 K K1) (hf : K.1 f = 5) (hml : ¬ f = ml) (hsz : szL K1 f = szL K f + 1) (hr : ¬ g 3 f = 6) (hr45 : ¬ g 3 f = 4 ∧ ¬ g 3 f = 5) (hx9 : g 3 f = 2 → ∃ (n : Nat) (it : Nat → Nat) (cap cap1 x : Nat), LsC G K f 3 n it cap ∧ LsC G K1 f 3 (n + 1) (upQ it n x) cap1 ∧ K1.2.2.1 7 x = none) : PgS G K1 g ax pq dr ml nd nm cp it (s + wr (g 3 f)) := by
  have ne : ∀ p s : Nat, K.1 p = s → ¬ s = 5 → ¬ p = f := fun p s hp hs z => hs (by rw [← hp, z]; exact hf)
  have hdr := h.1.2.2.2.1
  have sd : ∀ d : Nat, K.1 d = 4 → Sm K K1 d := fun d hd => ha.sm (by rw [hd]; decide) (ne d 4 hd (by decide)) (by rw [hd]; decide)
  have sl : ∀ x r9 : Nat, K.1 x = 5 → g 3 x = r9 → ¬ g 3 f = r9 → K1.2.1 23 x = K.2.1 23 x := fun x r9 h5 h9 hn => (ha.sm (by rw [h5]; decide) (fun z => hn (by rw [← z]; exact h9)) (by rw [h5]; decide)).2.1 23
  exact PgS.mk (PgT.add h.t hw ha hn6 hf hml hsz hr hx9) (PaN.of h.pn h.2.1 (ha.sm (by rw [hdr]; decide) (ne dr 8 hdr (by decide)) (by rw [hdr]; decide)).2.2.2.2.1 (fun d hd => ⟨(sd d hd).2.2.1 10, lsz_sm ((sd d hd).2.2.1 11) (hw.2.2.1 d hd).2.2.1 (fun x h5 h9 => sl x 4 h5 h9 hr45.1), lsz_sm ((sd d hd).2.2.1 12) (hw.2.2.1 d hd).2.2.2.1 (fun x h5 h9 => sl x 5 h5 h9 hr45.2)⟩))
theorem lsz_kI {o9 : Option Nat} (hf : ¬ 23 = f) : lsz (_root_.Jvm.Pilot.@@N@@.kI K f q v) o9 = lsz K o9 := by
  cases o9 with
  | none => rfl
  | some x =>
    show szL (_root_.Jvm.Pilot.@@N@@.kI K f q v) x = szL K x
    unfold szL
    rw [kI_of hf]
theorem PgT.kI (h : PgT G K g ax pq dr ml nd nm cp it s) (hf : ¬ 9 = f ∧ ¬ 15 = f ∧ ¬ 23 = f ∧ ¬ 24 = f) : PgT G (kI K f q v) g ax pq dr ml nd nm cp it s := PgT.mk (PgU.kI h.u hf) h.a (TbO.kI h.tb hf.2.2.1)
theorem PgS.kI (h : PgS G K g ax pq dr ml nd nm cp it s) (hf : ¬ 9 = f ∧ ¬ 15 = f ∧ ¬ 23 = f ∧ ¬ 24 = f) : PgS G (kI K f q v) g ax pq dr ml nd nm cp it s := PgS.mk (PgT.kI h.t hf) (PaN.of h.pn h.2.1 rfl (fun d hd => ⟨rfl, lsz_kI hf.2.2.1, lsz_kI hf.2.2.1⟩))
theorem PgT.kC {w : Option Nat} (h : PgT G K g ax pq dr ml nd nm cp it s) : PgT G (kC K 10 q w) g ax pq dr ml nd nm cp it s := PgT.mk (PgU.kC h.u (Or.inr rfl)) h.a (TbO.par h.tb)
theorem lsz_kC {o9 w : Option Nat} : lsz (_root_.Jvm.Pilot.@@N@@.kC K f q w) o9 = lsz K o9 := by
  cases o9 with
  | none => rfl
  | some x => rfl
theorem PgS.body {s1 : Nat} (h : PgS G K g ax pq dr ml nd nm cp it s) (ho : Onc K dr nd q) (hs : s ≤ s1 ∧ s + (rE (g 2 b) - rS (g 2 b) - 2) ≤ s1) : PgS G (kC K 7 q (some b)) g ax pq dr ml nd nm cp it s1 := PgS.mk (PgT.mk (PgU.kC (PgU.up h.t.u hs.1) (Or.inl rfl)) h.t.a (TbO.body h.t.tb ho hs.2)) (PaN.of h.pn h.2.1 rfl (fun d hd => ⟨kC_of (by decide), by rw [kC_of (by decide)]; exact lsz_kC, by rw [kC_of (by decide)]; exact lsz_kC⟩))
/-- a Decl more: behind the row's store -/
theorem PgS.push (h : PgS G K g ax pq dr ml nd nm cp it s) (hwp0 : WPr G K g) (hx : ∀ p : Nat, ¬ K.1 p = 0 → Sm K K2 p ∧ ∀ i : Nat, g1 i p = g i p) (hn : ∀ p : Nat, K.1 p = 0 → K2.1 p = 0 ∨ p = q ∨ K2.1 p = 5) (hw : WPr G K2 g1) (hnd : nd + 1 ≤ 37) (hq : K2.1 q = 4) (h15 : K2.2.1 15 q = nI nd ∧ g1 5 q = bti nd) (h8 : K2.2.2.1 8 q = some x ∧ K2.2.1 23 x = 0) (h9 : K2.2.2.1 9 q = some y ∧ K2.2.1 23 y = 0) (h10 : K2.2.2.1 10 q = none ∧ K2.2.2.1 11 q = some o ∧ K2.2.2.1 12 q = some b ∧ K2.2.1 23 o = 0 ∧ K2.2.1 23 b = 0) :
    PgS G (_root_.Jvm.Pilot.@@N@@.kI (kE K2 dr (va_up (K2.2.2.2.2.1 dr) nd (some q))) 24 pq (nI (nd + 1))) g1 ax pq dr ml (nd + 1) nm cp it s ∧ WPr G (_root_.Jvm.Pilot.@@N@@.kI (kE K2 dr (va_up (K2.2.2.2.2.1 dr) nd (some q))) 24 pq (nI (nd + 1))) g1 := by
  have hw0 := hwp0.2.2.1
  have hu := PgU.ext h.t.u hw0 hx (fun p h1 h2 => by
    rcases hn p h2 with z | z | z
    · rw [h1] at z; exact absurd z (by decide)
    · rw [z, hq] at h1; exact absurd h1 (by decide)
    · rw [h1] at z; exact absurd z (by decide))
  obtain ⟨a1, a2⟩ := PgU.push hu hw hnd hq h15 h8 h9
  have er : K2.2.2.2.2.1 dr = K.2.2.2.2.1 dr := (hx dr (by rw [h.1.2.2.2.1]; decide)).1.2.2.2.2.1
  have E0 : (_root_.Jvm.Pilot.@@N@@.kI (kE K2 dr (va_up (K2.2.2.2.2.1 dr) nd (some q))) 24 pq (nI (nd + 1))).2.2.2.2.1 dr = va_up (K2.2.2.2.2.1 dr) nd (some q) := if_pos rfl
  refine ⟨PgS.mk (PgT.mk a1 (fun p hp => ?_) ?_) (fun k hk d he => ?_), a2⟩
  · have hp2 : K2.1 p = 4 := hp
    rw [E0]
    by_cases z : K.1 p = 0
    · rcases hn p z with y | y | y
      · rw [hp2] at y; exact absurd y (by decide)
      · exact ⟨nd, by omega, by rw [va_up_self, y]⟩
      · rw [hp2] at y; exact absurd y (by decide)
    · obtain ⟨k, hk, e⟩ := h.t.a p ((hx p z).1.1.symm.trans hp2)
      exact ⟨k, by omega, by rw [va_up_ne _ _ (by omega), er]; exact e⟩
  · have tb := TbO.ext h.t.tb h.2.1 hwp0 h.1.2.2.2.1 hx
    have hd8 : K2.1 dr = 8 := hu.1.2.2.2.1
    refine TbO.kI (K := kE K2 dr (va_up (K2.2.2.2.2.1 dr) nd (some q))) ?_ (by decide)
    have sm : ∀ p : Nat, ¬ K2.1 p = 8 → Sm K2 (kE K2 dr (va_up (K2.2.2.2.2.1 dr) nd (some q))) p := fun p hp => ⟨rfl, fun _ => rfl, fun _ => rfl, rfl, if_neg (fun z => hp (by rw [z]; exact hd8)), rfl⟩
    have er2 : (kE K2 dr (va_up (K2.2.2.2.2.1 dr) nd (some q))).2.2.2.2.1 dr = va_up (K2.2.2.2.2.1 dr) nd (some q) := if_pos rfl
    have ek : ∀ k : Nat, k < nd → fw (kE K2 dr (va_up (K2.2.2.2.2.1 dr) nd (some q))) (bl K2 g1) dr k = fw K2 (bl K2 g1) dr k := fun k hk => fw_eq hu.2.1 hw hk (by rw [er2, va_up_ne _ _ (by omega)]) (fun _ _ => rfl) (fun d y n cap it _ _ _ h5 _ _ l => LsC.wx (K := K2) (fun _ _ => rfl) (by decide) (sm y (by rw [h5]; decide)) (fun e he _ => sm e (by rw [he]; decide)) l) (fun _ _ => rfl)
    have en : fw (kE K2 dr (va_up (K2.2.2.2.2.1 dr) nd (some q))) (bl K2 g1) dr nd = 0 := by
      rw [fw_of (K := (kE K2 dr (va_up (K2.2.2.2.2.1 dr) nd (some q)))) (d := q) (y := y) (by rw [er2]; exact va_up_self _ _ _) h9.1]
      have e0 : szL (kE K2 dr (va_up (K2.2.2.2.2.1 dr) nd (some q))) y = 0 := by
        unfold szL
        rw [show (kE K2 dr (va_up (K2.2.2.2.2.1 dr) nd (some q))).2.1 23 y = K2.2.1 23 y from rfl, h9.2]; rfl
      unfold lw
      rw [e0]; rfl
    unfold TbO at tb ⊢
    show sumN (fw (kE K2 dr (va_up (K2.2.2.2.2.1 dr) nd (some q))) (bl K2 g1) dr) nd + fw (kE K2 dr (va_up (K2.2.2.2.2.1 dr) nd (some q))) (bl K2 g1) dr nd ≤ s
    rw [en, sumN_eq (f := fw K2 (bl K2 g1) dr) ek]; exact tb
  · rw [E0] at he
    have lz : ∀ o9 : Option Nat, lsz (_root_.Jvm.Pilot.@@N@@.kI (kE K2 dr (va_up (K2.2.2.2.2.1 dr) nd (some q))) 24 pq (nI (nd + 1))) o9 = lsz K2 o9 := fun o9 => lsz_kI (K := kE K2 dr (va_up (K2.2.2.2.2.1 dr) nd (some q))) (by decide) |>.trans (by cases o9 <;> rfl)
    show K2.2.2.1 10 d = none ∧ lsz _ (K2.2.2.1 11 d) = 0 ∧ lsz _ (K2.2.2.1 12 d) = 0
    rw [lz, lz]
    by_cases e : k = nd
    · rw [e, va_up_self] at he; cases he
      obtain ⟨y1, y2, y3, y4, y5⟩ := h10
      rw [y2, y3]
      refine ⟨y1, ?_, ?_⟩
      · show szL K2 o = 0
        unfold szL
        rw [y4]; rfl
      · show szL K2 b = 0
        unfold szL
        rw [y5]; rfl
    · rw [va_up_ne _ _ e, er] at he
      obtain ⟨d', e1, e2, _⟩ := h.2.1 k (by omega)
      rw [he] at e1; cases e1
      have sd := (hx d (by rw [e2]; decide)).1
      rw [sd.2.2.1 10, lsz_sm (sd.2.2.1 11) (hw0 d e2).2.2.1 (fun x h5 _ => (hx x (by rw [h5]; decide)).1.2.1 23), lsz_sm (sd.2.2.1 12) (hw0 d e2).2.2.2.1 (fun x h5 _ => (hx x (by rw [h5]; decide)).1.2.1 23)]
      exact h.pn k (by omega) d he
theorem PgS.addm (h : PgS G K g ax pq dr ml nd nm cp it s) (hw : WPr G K g) (hq : K.1 q = 3) (ha : AdQ (_root_.Jvm.Pilot.@@N@@.kI K 9 q (nI nm)) K1 ml) (hn6 : N6 (_root_.Jvm.Pilot.@@N@@.kI K 9 q (nI nm)) K1) (hl : LsC G K1 ml 3 (nm + 1) (upQ it nm q) (cp + d9)) (hc : cp + d9 ≤ 10 + 2 * (nm + 1)) (hs : 6 * (nm + 1) ≤ s) : PgS G K1 g ax pq dr ml nd (nm + 1) (cp + d9) (upQ it nm q) s := by
  have hdr := h.1.2.2.2.1
  have hml := h.1.2.2.2.2.2.1
  have ne : ∀ p s : Nat, K.1 p = s → ¬ s = 5 → ¬ p = ml := fun p s hp hs z => hs (by rw [← hp, z]; exact hml)
  have er := (ha.sm (p := dr) (by show ¬ K.1 dr = 0; rw [hdr]; decide) (ne dr 8 hdr (by decide)) (by show ¬ K.1 dr = 6; rw [hdr]; decide)).2.2.2.2.1
  refine PgS.mk (PgT.mk (PgU.addm h.t.u hw.2.2.1 hq ha hn6 hl hc hs) (DcA.of h.t.a er (fun d hd => (hn6.old ha hd (by decide) (by decide)).2)) (TbO.addo (K := _root_.Jvm.Pilot.@@N@@.kI K 9 q (nI nm)) (TbO.kI h.t.tb (by decide)) (fun k hk => (by obtain ⟨d, d1, d2, d3, d4⟩ := h.2.1 k hk; exact ⟨d, d1, d2, (kI_of (by decide)).trans d3, d4⟩)) (WPr.kI hw (by decide) (Or.inl (by decide))) hdr ha hml (fun z => by rw [h.1.2.2.2.2.2.2.1] at z; exact absurd z (by decide)))) (PaN.of h.pn h.2.1 er (fun d hd => ?_))
  have sd := ha.sm (p := d) (by show ¬ K.1 d = 0; rw [hd]; decide) (ne d 4 hd (by decide)) (by show ¬ K.1 d = 6; rw [hd]; decide)
  have sl : ∀ x r9 : Nat, K.1 x = 5 → g 3 x = r9 → ¬ 6 = r9 → K1.2.1 23 x = K.2.1 23 x := fun x r9 h5 h9 hn => ((ha.sm (p := x) (by show ¬ K.1 x = 0; rw [h5]; decide) (fun z => hn (by rw [← h9, z]; exact h.1.2.2.2.2.2.2.1.symm)) (by show ¬ K.1 x = 6; rw [h5]; decide)).2.1 23).trans (kI_of (by decide))
  exact ⟨sd.2.2.1 10, lsz_sm (sd.2.2.1 11) (hw.2.2.1 d hd).2.2.1 (fun x h5 h9 => sl x 4 h5 h9 (by decide)), lsz_sm (sd.2.2.1 12) (hw.2.2.1 d hd).2.2.2.1 (fun x h5 h9 => sl x 5 h5 h9 (by decide))⟩
theorem PgS.once (h : PgS G K g ax pq dr ml nd nm cp it s) (hw : WPr G K g) (ho : Onc K dr nd x) (ha : AdQ (_root_.Jvm.Pilot.@@N@@.kI K 9 q (nI nm)) K1 ml) : Onc K1 dr nd x :=
  Onc.add (K := _root_.Jvm.Pilot.@@N@@.kI K 9 q (nI nm)) (Onc.kI ho (by decide)) (fun k hk => (by obtain ⟨d, d1, d2, d3, d4⟩ := h.2.1 k hk; exact ⟨d, d1, d2, (kI_of (by decide)).trans d3, d4⟩)) (WPr.kI hw (by decide) (Or.inl (by decide))) h.1.2.2.2.1 ha h.1.2.2.2.2.2.1 (fun z => by rw [h.1.2.2.2.2.2.2.1] at z; exact absurd z (by decide))
end ES
