/-- what stands in a child's place, or in its list -/
def chs (cd : Nat) (v : Int32) (ln : Nat → Int32) (j : Nat) : Prop := (cd ≠ 0 ∧ cd ≠ 50 ∧ cd ≠ 51 ∧ cd ≠ 60) ∧ ((cd < 200 ∧ v = nI j) ∨ (200 ≤ cd ∧ ∃ i : Nat, itr ln v i = nI j))
/-- j is a child of n -/
def pch (X : Nat → Nat → Int32) (n j : Nat) : Prop := ∃ k s : Nat, X 9 n = nI k ∧ k ≤ 44 ∧ 1 ≤ s ∧ s ≤ 4 ∧ chs (cdOf k s) (X (11 + s) n) (X 16) j
theorem ch4 {p : Nat → Prop} (h1 : p 1) (h2 : p 2) (h3 : p 3) (h4 : p 4) : ∀ s : Nat, 1 ≤ s → s ≤ 4 → p s := fun s a b => by
  rcases (show s = 1 ∨ s = 2 ∨ s = 3 ∨ s = 4 by omega) with e | e | e | e <;> subst e <;> assumption
/-- the forest as the later rounds need it (a catch's third place gets another use there) -/
def Fs2 (K : Nat → Int32) (T wr : Nat) (X : Nat → Nat → Int32) (gh : Nat → Nat → Nat) (nd : Nat) : Prop := ∀ i : Nat, i < nd → (∃ t : Nat, X 10 i = nI t ∧ t ≤ T) ∧ (∃ t : Nat, X 11 i = nI t ∧ t ≤ T ∧ (X 9 i = 18 → twoTok (K t) = true)) ∧ nxt X gh nd i ∧ (gh 0 i = 160000 ∨ ∃ p s : Nat, p < nd ∧ gh 0 i = 8 * p + s ∧ 1 ≤ s ∧ s ≤ 5 ∧ hst (gh 1 i) (gh 1 p) s (X 9 i) (X 9 p)) ∧ ∃ k : Nat, X 9 i = nI k ∧ kOK k ∧ k ≤ 44 ∧ ∀ s : Nat, 1 ≤ s → s ≤ 4 → sok X gh T wr 0 nd 20000 i s (cdOf k s) (X (11 + s) i)
theorem Fst.two {K : Nat → Int32} {T wr nd : Nat} {X : Nat → Nat → Int32} {gh : Nat → Nat → Nat} (h : Fst K T wr X gh 0 nd 20000) : Fs2 K T wr X gh nd := fun i hi => by
  obtain ⟨a, b, c, v, d⟩ := h i (Nat.zero_le _) hi
  refine ⟨a, b, c, v.imp id (fun ⟨p, s, _, z2, z3, z4, z5⟩ => ⟨p, s, z2, z3, ?_, ?_, z4⟩), d⟩
  · rcases z5 with ⟨e1, _, _⟩ | ⟨e1, _⟩ <;> omega
  · rcases z5 with ⟨_, e2, _⟩ | ⟨e1, _⟩ <;> omega
/-- rows 9 to 16 but the third place of a catch are as they were -/
theorem Fs2.same {K : Nat → Int32} {T wr nd : Nat} {X Y : Nat → Nat → Int32} {gh : Nat → Nat → Nat} (h : Fs2 K T wr X gh nd) (hX : ∀ j i : Nat, 9 ≤ j → j ≤ 16 → i < nd → Y j i = X j i ∨ (j = 14 ∧ X 9 i = 44)) : Fs2 K T wr Y gh nd := fun i hi => by
  obtain ⟨⟨t, a1, a2⟩, ⟨u, b1, b2, b3⟩, c, cv, k, d1, d2, d3, d4⟩ := h i hi
  have r : ∀ j i, 9 ≤ j → j ≤ 16 → j ≠ 14 → i < nd → Y j i = X j i := fun j i p q w z => (hX j i p q z).elim id (fun v => absurd v.1 w)
  refine ⟨⟨t, by rw [r 10 i (by omega) (by omega) (by omega) hi]; exact a1, a2⟩, ⟨u, by rw [r 11 i (by omega) (by omega) (by omega) hi]; exact b1, b2, by rw [r 9 i (by omega) (by omega) (by omega) hi]; exact b3⟩, ?_, cv.imp id (fun ⟨p, s, p1, p2, p3, p4, p5⟩ => ⟨p, s, p1, p2, p3, p4, by rw [r 9 i (by omega) (by omega) (by omega) hi, r 9 p (by omega) (by omega) (by omega) p1]; exact p5⟩), k, by rw [r 9 i (by omega) (by omega) (by omega) hi]; exact d1, d2, d3, fun s s1 s4 => ?_⟩
  · rcases c with z | ⟨j, z1, z2, z3, z4, z5, z6, z7⟩
    · exact Or.inl (by rw [r 16 i (by omega) (by omega) (by omega) hi]; exact z)
    · exact Or.inr ⟨j, by rw [r 16 i (by omega) (by omega) (by omega) hi]; exact z1, z2, z3, z4, z5, z6, by rw [r 9 j (by omega) (by omega) (by omega) z3, r 9 i (by omega) (by omega) (by omega) hi]; exact z7⟩
  · obtain ⟨e1, e2, e3, e4⟩ := d4 s s1 s4
    rcases hX (11 + s) i (by omega) (by omega) hi with q | ⟨q1, q2⟩
    · rw [q]
      exact ⟨e1, e2, e3, fun y1 y2 y3 y4 => (e4 y1 y2 y3 y4).imp id (fun ⟨j, f1, f2, f3, f4, f5, f6, f7⟩ => ⟨j, f1, f2, f3, f4, f5, by rw [r 9 j (by omega) (by omega) (by omega) f3]; exact f6, f7⟩)⟩
    · have k4 : k = 44 := (nI_eq (by omega) (by omega)).mp (d1.symm.trans q2)
      have s3 : s = 3 := by omega
      subst k4; subst s3
      exact ⟨fun z => absurd z (by decide), fun z => absurd z (by decide), fun z => absurd z (by decide), fun z => absurd rfl z⟩
section PQS
variable {K : Nat → Int32} {T wr nd n k s : Nat} {X : Nat → Nat → Int32} {gh : Nat → Nat → Nat} {up0 up1 up2 : Nat → Int32} {D : Nat → Prop} {v : Int32}
theorem Fs2.knd (h : Fs2 K T wr X gh nd) (hn : n < nd) : ∃ k : Nat, X 9 n = nI k ∧ 1 ≤ k ∧ k ≤ 44 ∧ ∀ s : Nat, 1 ≤ s → s ≤ 4 → sok X gh T wr 0 nd 20000 n s (cdOf k s) (X (11 + s) n) := by
  obtain ⟨_, _, _, _, k, z1, z2, z3, z4⟩ := h n hn
  exact ⟨k, z1, z2.1, z3, z4⟩
theorem Fs2.kok (h : Fs2 K T wr X gh nd) (hn : n < nd) (e : X 9 n = nI k) (k4 : k ≤ 44) : kOK k := by
  obtain ⟨_, _, _, _, k2, z1, z2, z3, _⟩ := h n hn
  have : k2 = k := (nI_eq (by omega) (by omega)).mp (z1.symm.trans e)
  rw [← this]; exact z2
theorem sok.or (h : sok X gh T wr 0 nd 20000 n s k v) (h0 : k ≠ 0 ∧ k ≠ 50 ∧ k ≠ 51 ∧ k ≠ 60) : OrY v nd := (h.2.2.2 h0.1 h0.2.1 h0.2.2.1 h0.2.2.2).imp (fun z => z.1) (fun ⟨j, a, _, b, _⟩ => ⟨j, a, b⟩)
theorem sok.no (h : sok X gh T wr 0 nd 20000 n s k v) (h0 : k = 60) : OrY v nd := Or.inl (h.2.2.1 h0)
theorem Fs2.lnr (h : Fs2 K T wr X gh nd) : lnRow (X 16) nd := fun i hi => (h i hi).2.2.1.imp id (fun ⟨j, b, c, d, _⟩ => ⟨j, b, c, d⟩)
/-- so far: D has its parent n, what is nobody's of n is as it was -/
def PQ (gh : Nat → Nat → Nat) (nd n : Nat) (up0 up1 : Nat → Int32) (D : Nat → Prop) : Prop := (∀ j : Nat, j < 20000 → D j → up1 j = nI n) ∧ ∀ j : Nat, j < nd → ¬ gh 0 j / 8 = n → up1 j = up0 j
theorem PQ.start : PQ gh nd n up0 up0 (fun _ => False) := ⟨fun _ _ h => h.elim, fun _ _ _ => rfl⟩
theorem PQ.lies (h : PQ gh nd n up0 up1 D) (hs : sok X gh T wr 0 nd 20000 n s k v) (h0 : (k ≠ 0 ∧ k ≠ 50 ∧ k ≠ 51 ∧ k ≠ 60) ∧ k < 200) (s5 : s < 8) (hn : nd ≤ 12000) (e : up2 = lieF up1 v (nI n)) : PQ gh nd n up0 up2 (fun j => D j ∨ v = nI j) := by
  rcases hs.2.2.2 h0.1.1 h0.1.2.1 h0.1.2.2.1 h0.1.2.2.2 with ⟨z, _⟩ | ⟨c, z1, _, z2, z3, _⟩
  · rw [e, lieF_1 z]
    exact ⟨fun j hj q => q.elim (h.1 j hj) (fun q => absurd (z.symm.trans q).symm (nI_m1 (by omega))), h.2⟩
  · rw [e, lieF_2 z1 (by omega)]
    refine ⟨fun j hj q => ?_, fun j hj q => ?_⟩
    · unfold upd
      by_cases w : j = c
      · rw [if_pos w]
      · rw [if_neg w]
        exact q.elim (h.1 j hj) (fun q => absurd ((nI_eq (by omega) (by omega)).mp (q.symm.trans z1)) w)
    · unfold upd
      have w : j ≠ c := fun w => q (by rw [w, z3, if_neg (by omega)]; omega)
      rw [if_neg w]; exact h.2 j hj q
theorem PQ.none (h : PQ gh nd n up0 up1 D) (hv : v = -1) (e : up2 = lieF up1 v (nI n)) : PQ gh nd n up0 up2 D := by
  rw [e, lieF_1 hv]; exact h
theorem itr_par (hF : Fs2 K T wr X gh nd) (hn : nd ≤ 12000) {c : Nat} (hc : v = nI c) (hc2 : c < nd) : ∀ i p : Nat, p < 20000 → itr (X 16) v i = nI p → p < nd ∧ gh 0 p = gh 0 c := by
  intro i
  induction i with
  | zero => intro p hp e; have : c = p := (nI_eq (by omega) (by omega)).mp (hc.symm.trans e); subst this; exact ⟨hc2, rfl⟩
  | succ i ih =>
    intro p hp e
    rcases itr_ln hF.lnr (Or.inr ⟨c, hc, hc2⟩) (by omega) i with z | ⟨q, z1, _, z2⟩
    · rw [itr_m1 z (i + 1) (by omega)] at e; exact absurd e.symm (nI_m1 (by omega))
    · rw [itr_s z1 (by omega)] at e
      obtain ⟨y1, y2⟩ := ih q (by omega) z1
      rcases (hF q y1).2.2.1 with w | ⟨j, w1, w2, w3, w4, _⟩
      · rw [w] at e; exact absurd e.symm (nI_m1 (by omega))
      · have : j = p := (nI_eq (by omega) (by omega)).mp (w1.symm.trans e)
        subst this
        exact ⟨w3, w4.trans y2⟩
theorem PQ.list (h : PQ gh nd n up0 up1 D) (hF : Fs2 K T wr X gh nd) (hs : sok X gh T wr 0 nd 20000 n s k v) (h0 : (k ≠ 0 ∧ k ≠ 50 ∧ k ≠ 51 ∧ k ≠ 60) ∧ 200 ≤ k) (hn : nd ≤ 12000) (e : LieA (X 16) up1 up2 v (nI n)) : PQ gh nd n up0 up2 (fun j => D j ∨ ∃ i : Nat, itr (X 16) v i = nI j) := by
  refine ⟨fun j hj q => ?_, fun j hj q => ?_⟩
  · by_cases w : ∃ i : Nat, itr (X 16) v i = nI j
    · obtain ⟨i, w⟩ := w; exact e.1 i j hj w
    · rw [e.2 j (fun i z => w ⟨i, z⟩)]
      exact q.elim (h.1 j hj) (fun q => absurd q w)
  · rw [e.2 j (fun i z => ?_)]
    · exact h.2 j hj q
    · rcases hs.2.2.2 h0.1.1 h0.1.2.1 h0.1.2.2.1 h0.1.2.2.2 with ⟨w, _⟩ | ⟨c, z1, _, z2, z3, _⟩
      · rw [itr_m1 (k := 0) w i (Nat.zero_le _)] at z; exact absurd z.symm (nI_m1 (by omega))
      · have y := (itr_par hF hn z1 z2 i j (by omega) z).2
        exact q (by rw [y, z3, if_pos h0.2]; omega)
/-- a child's parent, and how high it is -/
theorem pch_par (hF : Fs2 K T wr X gh nd) (hnd : nd ≤ 12000) (hn : n < nd) {c : Nat} (hc : c < 20000) (h : pch X n c) : c < nd ∧ gh 0 c / 8 = n ∧ gh 1 c < gh 1 n := by
  obtain ⟨k, s, e, k4, s1, s4, h0, h1⟩ := h
  obtain ⟨k2, e2, _, k44, hs⟩ := hF.knd hn
  have ek : k2 = k := (nI_eq (by omega) (by omega)).mp (e2.symm.trans e)
  subst ek
  have key : ∀ j : Nat, j < nd → gh 0 j = 8 * n + (if 200 ≤ cdOf k2 s then 5 else s) → j < nd ∧ gh 0 j / 8 = n ∧ gh 1 j < gh 1 n := fun j hj q => by
    have w : gh 0 j / 8 = n := by rw [q]; split <;> omega
    refine ⟨hj, w, ?_⟩
    rcases (hF j hj).2.2.2.1 with z | ⟨p, s', _, z2, z3, z4, z5⟩
    · rw [z] at w; omega
    · have : p = n := by omega
      rw [← this]; exact z5.1
  rcases (hs s s1 s4).2.2.2 h0.1 h0.2.1 h0.2.2.1 h0.2.2.2 with ⟨z, _⟩ | ⟨j, z1, _, z2, z3, _⟩
  · rcases h1 with ⟨_, h1⟩ | ⟨_, i, h1⟩
    · exact absurd (z.symm.trans h1).symm (nI_m1 (by omega))
    · rw [itr_m1 (k := 0) z i (Nat.zero_le _)] at h1; exact absurd h1.symm (nI_m1 (by omega))
  · rcases h1 with ⟨_, h1⟩ | ⟨_, i, h1⟩
    · have : j = c := (nI_eq (by omega) (by omega)).mp (z1.symm.trans h1)
      subst this
      exact key j z2 z3
    · obtain ⟨y1, y2⟩ := itr_par hF hnd z1 z2 i c hc h1
      exact key c y1 (y2.trans z3)
/-- below n -/
def subP (X : Nat → Nat → Int32) : Nat → Nat → Nat → Prop
  | 0, n, j => n = j
  | h + 1, n, j => n = j ∨ ∃ c : Nat, c < 20000 ∧ pch X n c ∧ subP X h c j
def sub (X : Nat → Nat → Int32) (n j : Nat) : Prop := ∃ h : Nat, subP X h n j
theorem sub.rfl : sub X n n := ⟨0, Eq.refl n⟩
theorem sub.of {c j : Nat} (hc : c < 20000) (h : pch X n c) (g : sub X c j) : sub X n j := by
  obtain ⟨m, g⟩ := g
  exact ⟨m + 1, Or.inr ⟨c, hc, h, g⟩⟩
theorem sub.cases {j : Nat} (h : sub X n j) : n = j ∨ ∃ c : Nat, c < 20000 ∧ pch X n c ∧ sub X c j := by
  obtain ⟨m, g⟩ := h
  cases m with
  | zero => exact Or.inl g
  | succ m => exact g.imp id (fun ⟨c, a, b, d⟩ => ⟨c, a, b, m, d⟩)
theorem sub.lt (hF : Fs2 K T wr X gh nd) (hnd : nd ≤ 12000) : ∀ m n j : Nat, n < nd → subP X m n j → j < nd ∧ gh 1 j ≤ gh 1 n ∧ (n ≠ j → gh 1 j < gh 1 n) := by
  intro m
  induction m with
  | zero => intro n j hn h; have : n = j := h; subst this; exact ⟨hn, Nat.le_refl _, fun z => absurd (Eq.refl _) z⟩
  | succ m ih =>
    intro n j hn h
    rcases h with h | ⟨c, c1, c2, c3⟩
    · subst h; exact ⟨hn, Nat.le_refl _, fun z => absurd (Eq.refl _) z⟩
    · obtain ⟨p1, p2, p3⟩ := pch_par hF hnd hn c1 c2
      obtain ⟨q1, q2, q3⟩ := ih c j p1 c3
      exact ⟨q1, by omega, fun _ => by omega⟩
/-- the step ahead of the last: j's own parent lies below n too -/
theorem sub.up (hF : Fs2 K T wr X gh nd) (hnd : nd ≤ 12000) : ∀ m n j : Nat, n < nd → subP X m n j → n ≠ j → ∃ p : Nat, p < nd ∧ sub X n p ∧ gh 0 j / 8 = p ∧ gh 1 j < gh 1 p := by
  intro m
  induction m with
  | zero => intro n j hn h hne; exact absurd h hne
  | succ m ih =>
    intro n j hn h hne
    rcases h with h | ⟨c, c1, c2, c3⟩
    · exact absurd h hne
    · obtain ⟨p1, p2, p3⟩ := pch_par hF hnd hn c1 c2
      by_cases e : c = j
      · subst e; exact ⟨n, hn, sub.rfl, p2, p3⟩
      · obtain ⟨p, q1, q2, q3, q4⟩ := ih c j p1 c3 e
        exact ⟨p, q1, sub.of c1 c2 q2, q3, q4⟩
/-- two nodes above one: one of them is above the other -/
theorem sub.two (hF : Fs2 K T wr X gh nd) (hnd : nd ≤ 12000) : ∀ t a b j : Nat, gh 1 a + gh 1 b ≤ t + 2 * gh 1 j → a < nd → b < nd → sub X a j → sub X b j → sub X a b ∨ sub X b a := by
  intro t
  induction t with
  | zero =>
    intro a b j ht ha hb ⟨m1, h1⟩ ⟨m2, h2⟩
    obtain ⟨_, x2, x3⟩ := sub.lt hF hnd m1 a j ha h1
    obtain ⟨_, y2, y3⟩ := sub.lt hF hnd m2 b j hb h2
    by_cases e : a = j
    · rw [e]; exact Or.inr ⟨m2, h2⟩
    · have := x3 e; omega
  | succ t ih =>
    intro a b j ht ha hb ⟨m1, h1⟩ ⟨m2, h2⟩
    by_cases e : a = j
    · rw [e]; exact Or.inr ⟨m2, h2⟩
    · by_cases e2 : b = j
      · rw [e2]; exact Or.inl ⟨m1, h1⟩
      · obtain ⟨p, q1, q2, q3, q4⟩ := sub.up hF hnd m1 a j ha h1 e
        obtain ⟨p', r1, r2, r3, r4⟩ := sub.up hF hnd m2 b j hb h2 e2
        have : p' = p := by omega
        subst this
        exact ih a b p' (by omega) ha hb q2 r2
/-- siblings' subtrees are apart -/
theorem sub.apart (hF : Fs2 K T wr X gh nd) (hnd : nd ≤ 12000) (hn : n < nd) {a b j : Nat} (ha : a < 20000) (hb : b < 20000) (h1 : pch X n a) (h2 : pch X n b) (g1 : sub X a j) (g2 : sub X b j) : a = b := by
  obtain ⟨a1, a2, a3⟩ := pch_par hF hnd hn ha h1
  obtain ⟨b1, b2, b3⟩ := pch_par hF hnd hn hb h2
  have side : ∀ x y : Nat, x < nd → gh 0 y / 8 = n → gh 1 x < gh 1 n → sub X x y → x = y := fun x y hx hy hlt ⟨m, s⟩ => by
    by_cases e : x = y
    · exact e
    · obtain ⟨p, q1, ⟨m', q2⟩, q3, _⟩ := sub.up hF hnd m x y hx s e
      have : p = n := by omega
      rw [this] at q2
      have := (sub.lt hF hnd m' x n hx q2).2.1
      omega
  rcases sub.two hF hnd (gh 1 a + gh 1 b) a b j (by omega) a1 b1 g1 g2 with z | z
  · exact side a b a1 b2 a3 z
  · exact (side b a b1 a2 b3 z).symm
end PQS
theorem dX12_parents_0 : decode cX12_parents 0 = .ok (.aload_n 0, 1) := by decide +kernel
theorem dX12_parents_1 : decode cX12_parents 1 = .ok (.getfield 38, 3) := by decide +kernel
theorem dX12_parents_4 : decode cX12_parents 4 = .ok (.iload_n 1, 1) := by decide +kernel
theorem dX12_parents_5 : decode cX12_parents 5 = .ok (.iaload, 1) := by decide +kernel
theorem dX12_parents_6 : decode cX12_parents 6 = .ok (.tableswitch 355 7 44 #[166, 166, 355, 205, 355, 205, 205, 180, 219, 205, 205, 219, 219, 219, 205, 205, 244, 355, 355, 355, 355, 355, 355, 291, 305, 219, 205, 244, 219, 244, 205, 355, 355, 205, 319, 205, 355, 291], 166) := by decide +kernel
theorem dX12_parents_361 : decode cX12_parents 361 = .ok (.return_, 1) := by decide +kernel
theorem dX12_parents_172 : decode cX12_parents 172 = .ok (.aload_n 0, 1) := by decide +kernel
theorem dX12_parents_173 : decode cX12_parents 173 = .ok (.aload_n 0, 1) := by decide +kernel
theorem dX12_parents_174 : decode cX12_parents 174 = .ok (.getfield 50, 3) := by decide +kernel
theorem dX12_parents_177 : decode cX12_parents 177 = .ok (.iload_n 1, 1) := by decide +kernel
theorem dX12_parents_178 : decode cX12_parents 178 = .ok (.iaload, 1) := by decide +kernel
theorem dX12_parents_179 : decode cX12_parents 179 = .ok (.iload_n 1, 1) := by decide +kernel
theorem dX12_parents_180 : decode cX12_parents 180 = .ok (.invokevirtual 692, 3) := by decide +kernel
theorem dX12_parents_183 : decode cX12_parents 183 = .ok (.goto 178, 3) := by decide +kernel
theorem dX12_parents_211 : decode cX12_parents 211 = .ok (.aload_n 0, 1) := by decide +kernel
theorem dX12_parents_212 : decode cX12_parents 212 = .ok (.aload_n 0, 1) := by decide +kernel
theorem dX12_parents_213 : decode cX12_parents 213 = .ok (.getfield 47, 3) := by decide +kernel
theorem dX12_parents_216 : decode cX12_parents 216 = .ok (.iload_n 1, 1) := by decide +kernel
theorem dX12_parents_217 : decode cX12_parents 217 = .ok (.iaload, 1) := by decide +kernel
theorem dX12_parents_218 : decode cX12_parents 218 = .ok (.iload_n 1, 1) := by decide +kernel
theorem dX12_parents_219 : decode cX12_parents 219 = .ok (.invokevirtual 695, 3) := by decide +kernel
theorem dX12_parents_222 : decode cX12_parents 222 = .ok (.goto 139, 3) := by decide +kernel
theorem dX12_parents_186 : decode cX12_parents 186 = .ok (.aload_n 0, 1) := by decide +kernel
theorem dX12_parents_187 : decode cX12_parents 187 = .ok (.aload_n 0, 1) := by decide +kernel
theorem dX12_parents_188 : decode cX12_parents 188 = .ok (.getfield 47, 3) := by decide +kernel
theorem dX12_parents_191 : decode cX12_parents 191 = .ok (.iload_n 1, 1) := by decide +kernel
theorem dX12_parents_192 : decode cX12_parents 192 = .ok (.iaload, 1) := by decide +kernel
theorem dX12_parents_193 : decode cX12_parents 193 = .ok (.iload_n 1, 1) := by decide +kernel
theorem dX12_parents_194 : decode cX12_parents 194 = .ok (.invokevirtual 695, 3) := by decide +kernel
theorem dX12_parents_197 : decode cX12_parents 197 = .ok (.aload_n 0, 1) := by decide +kernel
theorem dX12_parents_198 : decode cX12_parents 198 = .ok (.aload_n 0, 1) := by decide +kernel
theorem dX12_parents_199 : decode cX12_parents 199 = .ok (.getfield 50, 3) := by decide +kernel
theorem dX12_parents_202 : decode cX12_parents 202 = .ok (.iload_n 1, 1) := by decide +kernel
theorem dX12_parents_203 : decode cX12_parents 203 = .ok (.iaload, 1) := by decide +kernel
theorem dX12_parents_204 : decode cX12_parents 204 = .ok (.iload_n 1, 1) := by decide +kernel
theorem dX12_parents_205 : decode cX12_parents 205 = .ok (.invokevirtual 692, 3) := by decide +kernel
theorem dX12_parents_208 : decode cX12_parents 208 = .ok (.goto 153, 3) := by decide +kernel
theorem dX12_parents_225 : decode cX12_parents 225 = .ok (.aload_n 0, 1) := by decide +kernel
theorem dX12_parents_226 : decode cX12_parents 226 = .ok (.aload_n 0, 1) := by decide +kernel
theorem dX12_parents_227 : decode cX12_parents 227 = .ok (.getfield 47, 3) := by decide +kernel
theorem dX12_parents_230 : decode cX12_parents 230 = .ok (.iload_n 1, 1) := by decide +kernel
theorem dX12_parents_231 : decode cX12_parents 231 = .ok (.iaload, 1) := by decide +kernel
theorem dX12_parents_232 : decode cX12_parents 232 = .ok (.iload_n 1, 1) := by decide +kernel
theorem dX12_parents_233 : decode cX12_parents 233 = .ok (.invokevirtual 695, 3) := by decide +kernel
theorem dX12_parents_236 : decode cX12_parents 236 = .ok (.aload_n 0, 1) := by decide +kernel
theorem dX12_parents_237 : decode cX12_parents 237 = .ok (.aload_n 0, 1) := by decide +kernel
theorem dX12_parents_238 : decode cX12_parents 238 = .ok (.getfield 50, 3) := by decide +kernel
theorem dX12_parents_241 : decode cX12_parents 241 = .ok (.iload_n 1, 1) := by decide +kernel
theorem dX12_parents_242 : decode cX12_parents 242 = .ok (.iaload, 1) := by decide +kernel
theorem dX12_parents_243 : decode cX12_parents 243 = .ok (.iload_n 1, 1) := by decide +kernel
theorem dX12_parents_244 : decode cX12_parents 244 = .ok (.invokevirtual 695, 3) := by decide +kernel
theorem dX12_parents_247 : decode cX12_parents 247 = .ok (.goto 114, 3) := by decide +kernel
theorem dX12_parents_250 : decode cX12_parents 250 = .ok (.aload_n 0, 1) := by decide +kernel
theorem dX12_parents_251 : decode cX12_parents 251 = .ok (.aload_n 0, 1) := by decide +kernel
theorem dX12_parents_252 : decode cX12_parents 252 = .ok (.getfield 47, 3) := by decide +kernel
theorem dX12_parents_255 : decode cX12_parents 255 = .ok (.iload_n 1, 1) := by decide +kernel
theorem dX12_parents_256 : decode cX12_parents 256 = .ok (.iaload, 1) := by decide +kernel
theorem dX12_parents_257 : decode cX12_parents 257 = .ok (.iload_n 1, 1) := by decide +kernel
theorem dX12_parents_258 : decode cX12_parents 258 = .ok (.invokevirtual 695, 3) := by decide +kernel
theorem dX12_parents_261 : decode cX12_parents 261 = .ok (.aload_n 0, 1) := by decide +kernel
theorem dX12_parents_262 : decode cX12_parents 262 = .ok (.aload_n 0, 1) := by decide +kernel
theorem dX12_parents_263 : decode cX12_parents 263 = .ok (.getfield 50, 3) := by decide +kernel
theorem dX12_parents_266 : decode cX12_parents 266 = .ok (.iload_n 1, 1) := by decide +kernel
theorem dX12_parents_267 : decode cX12_parents 267 = .ok (.iaload, 1) := by decide +kernel
theorem dX12_parents_268 : decode cX12_parents 268 = .ok (.iload_n 1, 1) := by decide +kernel
theorem dX12_parents_269 : decode cX12_parents 269 = .ok (.invokevirtual 695, 3) := by decide +kernel
theorem dX12_parents_272 : decode cX12_parents 272 = .ok (.aload_n 0, 1) := by decide +kernel
theorem dX12_parents_273 : decode cX12_parents 273 = .ok (.aload_n 0, 1) := by decide +kernel
theorem dX12_parents_274 : decode cX12_parents 274 = .ok (.getfield 53, 3) := by decide +kernel
theorem dX12_parents_277 : decode cX12_parents 277 = .ok (.iload_n 1, 1) := by decide +kernel
theorem dX12_parents_278 : decode cX12_parents 278 = .ok (.iaload, 1) := by decide +kernel
theorem dX12_parents_279 : decode cX12_parents 279 = .ok (.iload_n 1, 1) := by decide +kernel
theorem dX12_parents_280 : decode cX12_parents 280 = .ok (.invokevirtual 695, 3) := by decide +kernel
theorem dX12_parents_283 : decode cX12_parents 283 = .ok (.aload_n 0, 1) := by decide +kernel
theorem dX12_parents_284 : decode cX12_parents 284 = .ok (.aload_n 0, 1) := by decide +kernel
theorem dX12_parents_285 : decode cX12_parents 285 = .ok (.getfield 56, 3) := by decide +kernel
theorem dX12_parents_288 : decode cX12_parents 288 = .ok (.iload_n 1, 1) := by decide +kernel
theorem dX12_parents_289 : decode cX12_parents 289 = .ok (.iaload, 1) := by decide +kernel
theorem dX12_parents_290 : decode cX12_parents 290 = .ok (.iload_n 1, 1) := by decide +kernel
theorem dX12_parents_291 : decode cX12_parents 291 = .ok (.invokevirtual 695, 3) := by decide +kernel
theorem dX12_parents_294 : decode cX12_parents 294 = .ok (.goto 67, 3) := by decide +kernel
theorem dX12_parents_297 : decode cX12_parents 297 = .ok (.aload_n 0, 1) := by decide +kernel
theorem dX12_parents_298 : decode cX12_parents 298 = .ok (.aload_n 0, 1) := by decide +kernel
theorem dX12_parents_299 : decode cX12_parents 299 = .ok (.getfield 50, 3) := by decide +kernel
theorem dX12_parents_302 : decode cX12_parents 302 = .ok (.iload_n 1, 1) := by decide +kernel
theorem dX12_parents_303 : decode cX12_parents 303 = .ok (.iaload, 1) := by decide +kernel
theorem dX12_parents_304 : decode cX12_parents 304 = .ok (.iload_n 1, 1) := by decide +kernel
theorem dX12_parents_305 : decode cX12_parents 305 = .ok (.invokevirtual 695, 3) := by decide +kernel
theorem dX12_parents_308 : decode cX12_parents 308 = .ok (.goto 53, 3) := by decide +kernel
theorem dX12_parents_311 : decode cX12_parents 311 = .ok (.aload_n 0, 1) := by decide +kernel
theorem dX12_parents_312 : decode cX12_parents 312 = .ok (.aload_n 0, 1) := by decide +kernel
theorem dX12_parents_313 : decode cX12_parents 313 = .ok (.getfield 47, 3) := by decide +kernel
theorem dX12_parents_316 : decode cX12_parents 316 = .ok (.iload_n 1, 1) := by decide +kernel
theorem dX12_parents_317 : decode cX12_parents 317 = .ok (.iaload, 1) := by decide +kernel
theorem dX12_parents_318 : decode cX12_parents 318 = .ok (.iload_n 1, 1) := by decide +kernel
theorem dX12_parents_319 : decode cX12_parents 319 = .ok (.invokevirtual 692, 3) := by decide +kernel
theorem dX12_parents_322 : decode cX12_parents 322 = .ok (.goto 39, 3) := by decide +kernel
theorem dX12_parents_325 : decode cX12_parents 325 = .ok (.aload_n 0, 1) := by decide +kernel
theorem dX12_parents_326 : decode cX12_parents 326 = .ok (.aload_n 0, 1) := by decide +kernel
theorem dX12_parents_327 : decode cX12_parents 327 = .ok (.getfield 47, 3) := by decide +kernel
theorem dX12_parents_330 : decode cX12_parents 330 = .ok (.iload_n 1, 1) := by decide +kernel
theorem dX12_parents_331 : decode cX12_parents 331 = .ok (.iaload, 1) := by decide +kernel
theorem dX12_parents_332 : decode cX12_parents 332 = .ok (.iload_n 1, 1) := by decide +kernel
theorem dX12_parents_333 : decode cX12_parents 333 = .ok (.invokevirtual 695, 3) := by decide +kernel
theorem dX12_parents_336 : decode cX12_parents 336 = .ok (.aload_n 0, 1) := by decide +kernel
theorem dX12_parents_337 : decode cX12_parents 337 = .ok (.aload_n 0, 1) := by decide +kernel
theorem dX12_parents_338 : decode cX12_parents 338 = .ok (.getfield 50, 3) := by decide +kernel
theorem dX12_parents_341 : decode cX12_parents 341 = .ok (.iload_n 1, 1) := by decide +kernel
theorem dX12_parents_342 : decode cX12_parents 342 = .ok (.iaload, 1) := by decide +kernel
theorem dX12_parents_343 : decode cX12_parents 343 = .ok (.iload_n 1, 1) := by decide +kernel
theorem dX12_parents_344 : decode cX12_parents 344 = .ok (.invokevirtual 692, 3) := by decide +kernel
theorem dX12_parents_347 : decode cX12_parents 347 = .ok (.aload_n 0, 1) := by decide +kernel
theorem dX12_parents_348 : decode cX12_parents 348 = .ok (.aload_n 0, 1) := by decide +kernel
theorem dX12_parents_349 : decode cX12_parents 349 = .ok (.getfield 53, 3) := by decide +kernel
theorem dX12_parents_352 : decode cX12_parents 352 = .ok (.iload_n 1, 1) := by decide +kernel
theorem dX12_parents_353 : decode cX12_parents 353 = .ok (.iaload, 1) := by decide +kernel
theorem dX12_parents_354 : decode cX12_parents 354 = .ok (.iload_n 1, 1) := by decide +kernel
theorem dX12_parents_355 : decode cX12_parents 355 = .ok (.invokevirtual 695, 3) := by decide +kernel
theorem dX12_parents_358 : decode cX12_parents 358 = .ok (.goto 3, 3) := by decide +kernel
theorem hV_X12_lieAll : yX12_lieAll.cls = RX12 ∧ yX12_lieAll.cls ≠ "java/lang/invoke/MethodHandle" ∧ yX12_lieAll.cls ≠ "java/lang/invoke/VarHandle" ∧ (parseMethodDescriptor yX12_lieAll.desc).map (fun d => d.parameters.length) = some 2 := by decide +kernel
theorem hV_X12_lies : yX12_lies.cls = RX12 ∧ yX12_lies.cls ≠ "java/lang/invoke/MethodHandle" ∧ yX12_lies.cls ≠ "java/lang/invoke/VarHandle" ∧ (parseMethodDescriptor yX12_lies.desc).map (fun d => d.parameters.length) = some 2 := by decide +kernel
set_option maxHeartbeats 8000000 in
set_option maxRecDepth 100000 in
/-- parents(n) -/
theorem R_parents (l : Launch) (G : pT) (h0 : Nat) (a : Nat → Nat) (F : Nat → Int32) (B : Nat → Nat → Int32) (n9 : Nat) (nd : Nat) (T : Nat) (wr : Nat) (gh : Nat → Nat → Nat) (up : Nat → Int32) (hn9 : n9 < nd) (hnd : nd ≤ 12000) (hF : Fs2 (B 2) T wr B gh nd) : PM l G pX0 yX12_parents cX12_parents 2 none ({ frames := 3, cells := 0, slots := 0, locals := 83 }) [.ref h0, .int (nI n9)] (mW G h0 a F (updA B 52 up)) (fun (v : Option Value) (u : (Nat → Int32)) => v = none ∧ (∀ j : Nat, j < 20000 → pch B n9 j → u j = nI n9) ∧ (∀ j : Nat, j < nd → ¬ gh 0 j / 8 = n9 → u j = up j)) (fun u => (mW G h0 a F (updA B 52 u))) := by
  intro sz
  refine Met.ofW (cc := cX12_parents) (maxL := 2) (ret := none) (by decide) rfl ?_
  intro p e s m args below meth c s₁ B9 hml hv
  obtain ⟨rfl, hsz, hP, hD0, hE, hX⟩ := hv
  have hx := B9.exec
  have hb := B9.bytes
  have hr := B9.returns
  have hts := atoms_spec (ws := Cond.code yX12_parents cX12_parents 2 none :: pw) B9.pre
  have hq : ∀ w ∈ pw, w.before _ s = true := fun w h => hts w (List.mem_cons_of_mem _ h)
  have hown : s.vm.findClass RX12 = some m.cls := findClass_of_methodNamed B9.named
  have hlocks := B9.notSynchronized
  subst hsz
  have hD := hD0.self (sz := s.heap.size)
  have hA : ∀ q : Nat, s.heap.size ≤ q → va_A (mW G h0 a F (updA B 52 up)) s.heap.size q := fun q h => Or.inr h
  have hP : va_P G.1 pCl (mW G h0 a F (updA B 52 up)) s.heap := hP
  generalize va_A (mW G h0 a F (updA B 52 up)) s.heap.size = A at hD hE hA ⊢
  have hS : va_S A s.heap s.heap [] := va_S.rf
  have hl := lv_entry ([.ref h0, .int (nI n9)]) (n := 2) (Nat.le_of_ble_eq_true rfl)
  rw [lg_entry_eq]
  generalize (lg_sl ([.ref h0, .int (nI n9)]) ++ List.replicate (2 - (lg_sl ([.ref h0, .int (nI n9)])).length) Slot.unset).toArray = ls at hl ⊢
  have hl : lv_has ls 2 [(0, .ref h0), (1, .int (nI n9))] := hl
  refine lv_aload_n hx hb dX12_parents_0 rfl (lv_at hl 0 rfl) ?_
  refine r_get (v := .ref (a 9)) hx hb hown hq hE hP 17 38 tFX12_17 (by decide) pw_1439 rfl dX12_parents_1 ?_
  refine lv_iload_n hx hb dX12_parents_4 rfl (lv_at hl 1 rfl) ?_
  refine r_ldi (f := (B 9)) (j := n9) hx hb hE hP 9 (ma_9 G a _) rfl (by omega) (by decide) dX12_parents_5 ?_
  obtain ⟨kk, ek, k1, k44, hsl⟩ := Fs2.knd hF hn9
  rcases (show kk = 1 ∨ kk = 2 ∨ kk = 3 ∨ kk = 4 ∨ kk = 5 ∨ kk = 6 ∨ kk = 7 ∨ kk = 8 ∨ kk = 9 ∨ kk = 10 ∨ kk = 11 ∨ kk = 12 ∨ kk = 13 ∨ kk = 14 ∨ kk = 15 ∨ kk = 16 ∨ kk = 17 ∨ kk = 18 ∨ kk = 19 ∨ kk = 20 ∨ kk = 21 ∨ kk = 22 ∨ kk = 23 ∨ kk = 24 ∨ kk = 25 ∨ kk = 26 ∨ kk = 27 ∨ kk = 28 ∨ kk = 29 ∨ kk = 30 ∨ kk = 31 ∨ kk = 32 ∨ kk = 33 ∨ kk = 34 ∨ kk = 35 ∨ kk = 36 ∨ kk = 37 ∨ kk = 38 ∨ kk = 39 ∨ kk = 40 ∨ kk = 41 ∨ kk = 42 ∨ kk = 43 ∨ kk = 44 by omega) with rfl | rfl | rfl | rfl | rfl | rfl | rfl | rfl | rfl | rfl | rfl | rfl | rfl | rfl | rfl | rfl | rfl | rfl | rfl | rfl | rfl | rfl | rfl | rfl | rfl | rfl | rfl | rfl | rfl | rfl | rfl | rfl | rfl | rfl | rfl | rfl | rfl | rfl | rfl | rfl | rfl | rfl | rfl | rfl
  · refine lv_topi (fun x1 e2 => ?_)
    obtain rfl : x1 = 1 := e2.trans ek
    have hpq3 : PQ gh nd n9 up up (fun j => False) := PQ.start
    refine lv_tableOut (tgt := 361) hx hb dX12_parents_6 (by decide) (by decide) ?_
    have hDD4 : ∀ j : Nat, pch B n9 j → False := (fun j ⟨k2, s, e, k4, s1, s4, hc⟩ => by have e2 : 1 = k2 := (nI_eq (by omega) (by omega)).mp (ek.symm.trans e); subst e2; exact ch4 (p := fun s => chs (cdOf 1 s) (B (11 + s) n9) (B 16) j → False) (fun hc => absurd hc.1 (by decide)) (fun hc => absurd hc.1 (by decide)) (fun hc => absurd hc.1 (by decide)) (fun hc => absurd hc.1 (by decide)) s s1 s4 hc)
    have hz5 : ∀ j : Nat, j < 20000 → pch B n9 j → up j = nI n9 := (fun j hj q => hpq3.1 j hj (hDD4 j q))
    have hz6 : ∀ j : Nat, j < nd → ¬ gh 0 j / 8 = n9 → up j = up j := hpq3.2
    have hP : va_P G.1 pCl (mW G h0 a F (updA B 52 up)) _ := hP
    have hD : va_D A (mW G h0 a F (updA B 52 up)) := mW_D hD
    exact W.vret hx hb hr (fun t9 ht9 hW9 => ⟨⟨_, up, rfl, ⟨rfl, hz5, hz6⟩, by rw [ht9]; exact hP, hD⟩, hS.F ht9⟩) hS.2.2 dX12_parents_361
  · refine lv_topi (fun x7 e8 => ?_)
    obtain rfl : x7 = 2 := e8.trans ek
    have hpq9 : PQ gh nd n9 up up (fun j => False) := PQ.start
    refine lv_tableOut (tgt := 361) hx hb dX12_parents_6 (by decide) (by decide) ?_
    have hDD10 : ∀ j : Nat, pch B n9 j → False := (fun j ⟨k2, s, e, k4, s1, s4, hc⟩ => by have e2 : 2 = k2 := (nI_eq (by omega) (by omega)).mp (ek.symm.trans e); subst e2; exact ch4 (p := fun s => chs (cdOf 2 s) (B (11 + s) n9) (B 16) j → False) (fun hc => absurd hc.1 (by decide)) (fun hc => absurd hc.1 (by decide)) (fun hc => absurd hc.1 (by decide)) (fun hc => absurd hc.1 (by decide)) s s1 s4 hc)
    have hz11 : ∀ j : Nat, j < 20000 → pch B n9 j → up j = nI n9 := (fun j hj q => hpq9.1 j hj (hDD10 j q))
    have hz12 : ∀ j : Nat, j < nd → ¬ gh 0 j / 8 = n9 → up j = up j := hpq9.2
    have hP : va_P G.1 pCl (mW G h0 a F (updA B 52 up)) _ := hP
    have hD : va_D A (mW G h0 a F (updA B 52 up)) := mW_D hD
    exact W.vret hx hb hr (fun t9 ht9 hW9 => ⟨⟨_, up, rfl, ⟨rfl, hz11, hz12⟩, by rw [ht9]; exact hP, hD⟩, hS.F ht9⟩) hS.2.2 dX12_parents_361
  · refine lv_topi (fun x13 e14 => ?_)
    obtain rfl : x13 = 3 := e14.trans ek
    have hpq15 : PQ gh nd n9 up up (fun j => False) := PQ.start
    refine lv_tableOut (tgt := 361) hx hb dX12_parents_6 (by decide) (by decide) ?_
    have hDD16 : ∀ j : Nat, pch B n9 j → False := (fun j ⟨k2, s, e, k4, s1, s4, hc⟩ => by have e2 : 3 = k2 := (nI_eq (by omega) (by omega)).mp (ek.symm.trans e); subst e2; exact ch4 (p := fun s => chs (cdOf 3 s) (B (11 + s) n9) (B 16) j → False) (fun hc => absurd hc.1 (by decide)) (fun hc => absurd hc.1 (by decide)) (fun hc => absurd hc.1 (by decide)) (fun hc => absurd hc.1 (by decide)) s s1 s4 hc)
    have hz17 : ∀ j : Nat, j < 20000 → pch B n9 j → up j = nI n9 := (fun j hj q => hpq15.1 j hj (hDD16 j q))
    have hz18 : ∀ j : Nat, j < nd → ¬ gh 0 j / 8 = n9 → up j = up j := hpq15.2
    have hP : va_P G.1 pCl (mW G h0 a F (updA B 52 up)) _ := hP
    have hD : va_D A (mW G h0 a F (updA B 52 up)) := mW_D hD
    exact W.vret hx hb hr (fun t9 ht9 hW9 => ⟨⟨_, up, rfl, ⟨rfl, hz17, hz18⟩, by rw [ht9]; exact hP, hD⟩, hS.F ht9⟩) hS.2.2 dX12_parents_361
  · refine lv_topi (fun x19 e20 => ?_)
    obtain rfl : x19 = 4 := e20.trans ek
    have hpq21 : PQ gh nd n9 up up (fun j => False) := PQ.start
    refine lv_tableOut (tgt := 361) hx hb dX12_parents_6 (by decide) (by decide) ?_
    have hDD22 : ∀ j : Nat, pch B n9 j → False := (fun j ⟨k2, s, e, k4, s1, s4, hc⟩ => by have e2 : 4 = k2 := (nI_eq (by omega) (by omega)).mp (ek.symm.trans e); subst e2; exact ch4 (p := fun s => chs (cdOf 4 s) (B (11 + s) n9) (B 16) j → False) (fun hc => absurd hc.1 (by decide)) (fun hc => absurd hc.1 (by decide)) (fun hc => absurd hc.1 (by decide)) (fun hc => absurd hc.1 (by decide)) s s1 s4 hc)
    have hz23 : ∀ j : Nat, j < 20000 → pch B n9 j → up j = nI n9 := (fun j hj q => hpq21.1 j hj (hDD22 j q))
    have hz24 : ∀ j : Nat, j < nd → ¬ gh 0 j / 8 = n9 → up j = up j := hpq21.2
    have hP : va_P G.1 pCl (mW G h0 a F (updA B 52 up)) _ := hP
    have hD : va_D A (mW G h0 a F (updA B 52 up)) := mW_D hD
    exact W.vret hx hb hr (fun t9 ht9 hW9 => ⟨⟨_, up, rfl, ⟨rfl, hz23, hz24⟩, by rw [ht9]; exact hP, hD⟩, hS.F ht9⟩) hS.2.2 dX12_parents_361
  · refine lv_topi (fun x25 e26 => ?_)
    obtain rfl : x25 = 5 := e26.trans ek
    have hpq27 : PQ gh nd n9 up up (fun j => False) := PQ.start
    refine lv_tableOut (tgt := 361) hx hb dX12_parents_6 (by decide) (by decide) ?_
    have hDD28 : ∀ j : Nat, pch B n9 j → False := (fun j ⟨k2, s, e, k4, s1, s4, hc⟩ => by have e2 : 5 = k2 := (nI_eq (by omega) (by omega)).mp (ek.symm.trans e); subst e2; exact ch4 (p := fun s => chs (cdOf 5 s) (B (11 + s) n9) (B 16) j → False) (fun hc => absurd hc.1 (by decide)) (fun hc => absurd hc.1 (by decide)) (fun hc => absurd hc.1 (by decide)) (fun hc => absurd hc.1 (by decide)) s s1 s4 hc)
    have hz29 : ∀ j : Nat, j < 20000 → pch B n9 j → up j = nI n9 := (fun j hj q => hpq27.1 j hj (hDD28 j q))
    have hz30 : ∀ j : Nat, j < nd → ¬ gh 0 j / 8 = n9 → up j = up j := hpq27.2
    have hP : va_P G.1 pCl (mW G h0 a F (updA B 52 up)) _ := hP
    have hD : va_D A (mW G h0 a F (updA B 52 up)) := mW_D hD
    exact W.vret hx hb hr (fun t9 ht9 hW9 => ⟨⟨_, up, rfl, ⟨rfl, hz29, hz30⟩, by rw [ht9]; exact hP, hD⟩, hS.F ht9⟩) hS.2.2 dX12_parents_361
  · refine lv_topi (fun x31 e32 => ?_)
    obtain rfl : x31 = 6 := e32.trans ek
    have hpq33 : PQ gh nd n9 up up (fun j => False) := PQ.start
    refine lv_tableOut (tgt := 361) hx hb dX12_parents_6 (by decide) (by decide) ?_
    have hDD34 : ∀ j : Nat, pch B n9 j → False := (fun j ⟨k2, s, e, k4, s1, s4, hc⟩ => by have e2 : 6 = k2 := (nI_eq (by omega) (by omega)).mp (ek.symm.trans e); subst e2; exact ch4 (p := fun s => chs (cdOf 6 s) (B (11 + s) n9) (B 16) j → False) (fun hc => absurd hc.1 (by decide)) (fun hc => absurd hc.1 (by decide)) (fun hc => absurd hc.1 (by decide)) (fun hc => absurd hc.1 (by decide)) s s1 s4 hc)
    have hz35 : ∀ j : Nat, j < 20000 → pch B n9 j → up j = nI n9 := (fun j hj q => hpq33.1 j hj (hDD34 j q))
    have hz36 : ∀ j : Nat, j < nd → ¬ gh 0 j / 8 = n9 → up j = up j := hpq33.2
    have hP : va_P G.1 pCl (mW G h0 a F (updA B 52 up)) _ := hP
    have hD : va_D A (mW G h0 a F (updA B 52 up)) := mW_D hD
    exact W.vret hx hb hr (fun t9 ht9 hW9 => ⟨⟨_, up, rfl, ⟨rfl, hz35, hz36⟩, by rw [ht9]; exact hP, hD⟩, hS.F ht9⟩) hS.2.2 dX12_parents_361
  · refine lv_topi (fun x37 e38 => ?_)
    obtain rfl : x37 = 7 := e38.trans ek
    have hpq39 : PQ gh nd n9 up up (fun j => False) := PQ.start
    refine lv_tableIn (tgt := 172) (off := 166) hx hb dX12_parents_6 (by decide) (by decide) (by decide) (by decide) ?_
    refine lv_aload_n hx hb dX12_parents_172 rfl (lv_at hl 0 rfl) ?_
    refine lv_aload_n hx hb dX12_parents_173 rfl (lv_at hl 0 rfl) ?_
    refine r_get (v := .ref (a 13)) hx hb hown hq hE hP 21 50 tFX12_21 (by decide) pw_1443 rfl dX12_parents_174 ?_
    refine lv_iload_n hx hb dX12_parents_177 rfl (lv_at hl 1 rfl) ?_
    refine r_ldi (f := (B 13)) (j := n9) hx hb hE hP 13 (ma_13 G a _) rfl (by omega) (by decide) dX12_parents_178 ?_
    refine lv_iload_n hx hb dX12_parents_179 rfl (lv_at hl 1 rfl) ?_
    have hP : va_P G.1 pCl (mW G h0 a F (updA (updA (updA B 52 up) 16 (B 16)) 52 up)) _ := hP
    have hD : va_D A (mW G h0 a F (updA (updA (updA B 52 up) 16 (B 16)) 52 up)) := mW_D hD
    refine pc_V0 (G := G) (As := [.int ((B 13) n9), .int (nI n9)]) (rest := []) hx hb hml hown hq hE hX pX0_al hP hD hS hA hl.1 (R_lieAll l G h0 a F (updA B 52 up) ((B 13) n9) (nI n9) nd up (B 16) (sok.or (hsl 2 (by omega) (by omega)) (by decide)) (by omega) (Fs2.lnr hF)) (gV pw_1915 pw_1916 pw_1917 pw_1523 pw_1912) hV_X12_lieAll 0 9 rfl rfl rfl rfl (Nat.le_of_ble_eq_true rfl) dX12_parents_180 ⟨Nat.le_of_ble_eq_true rfl, Nat.le_of_ble_eq_true rfl⟩ ⟨Nat.le_of_ble_eq_true rfl, Nat.le_of_ble_eq_true rfl⟩ (fun v42 u40 H locs hw41 hP hD hS => ?_)
    obtain ⟨up43, rfl⟩ : ∃ z, z = u40 := ⟨_, rfl⟩
    obtain ⟨hw41, h44⟩ := hw41
    replace h44 : LieA (B 16) up up43 ((B 13) n9) (nI n9) := h44
    obtain rfl : v42 = none := hw41
    have hP : va_P G.1 pCl (mW G h0 a F (updA B 52 up43)) _ := hP
    have hD : va_D A (mW G h0 a F (updA B 52 up43)) := mW_D hD
    refine W.widen (k := 0) (n := 0) (Nat.le_of_ble_eq_true rfl) (Nat.le_of_ble_eq_true rfl) ?_
    refine W.eq (g2 := F0 m 183 ls []) rfl ?_
    have hpq45 : PQ gh nd n9 up up43 (fun j => (False ∨ ∃ i : Nat, itr (B 16) (B 13 n9) i = nI j)) := (PQ.list hpq39 hF (hsl 2 (by omega) (by omega)) ⟨by decide, by decide⟩ hnd h44)
    refine lv_goto (tgt := 361) hx hb dX12_parents_183 (by decide) ?_
    have hDD46 : ∀ j : Nat, pch B n9 j → (False ∨ ∃ i : Nat, itr (B 16) (B 13 n9) i = nI j) := (fun j ⟨k2, s, e, k4, s1, s4, hc⟩ => by have e2 : 7 = k2 := (nI_eq (by omega) (by omega)).mp (ek.symm.trans e); subst e2; exact ch4 (p := fun s => chs (cdOf 7 s) (B (11 + s) n9) (B 16) j → (False ∨ ∃ i : Nat, itr (B 16) (B 13 n9) i = nI j)) (fun hc => absurd hc.1 (by decide)) (fun hc => hc.2.elim (fun z => absurd z.1 (by decide)) (fun z => Or.inr z.2)) (fun hc => absurd hc.1 (by decide)) (fun hc => absurd hc.1 (by decide)) s s1 s4 hc)
    have hz47 : ∀ j : Nat, j < 20000 → pch B n9 j → up43 j = nI n9 := (fun j hj q => hpq45.1 j hj (hDD46 j q))
    have hz48 : ∀ j : Nat, j < nd → ¬ gh 0 j / 8 = n9 → up43 j = up j := hpq45.2
    have hP : va_P G.1 pCl (mW G h0 a F (updA B 52 up43)) _ := hP
    have hD : va_D A (mW G h0 a F (updA B 52 up43)) := mW_D hD
    exact W.vret hx hb hr (fun t9 ht9 hW9 => ⟨⟨_, up43, rfl, ⟨rfl, hz47, hz48⟩, by rw [ht9]; exact hP, hD⟩, hS.F ht9⟩) hS.2.2 dX12_parents_361
  · refine lv_topi (fun x49 e50 => ?_)
    obtain rfl : x49 = 8 := e50.trans ek
    have hpq51 : PQ gh nd n9 up up (fun j => False) := PQ.start
    refine lv_tableIn (tgt := 172) (off := 166) hx hb dX12_parents_6 (by decide) (by decide) (by decide) (by decide) ?_
    refine lv_aload_n hx hb dX12_parents_172 rfl (lv_at hl 0 rfl) ?_
    refine lv_aload_n hx hb dX12_parents_173 rfl (lv_at hl 0 rfl) ?_
    refine r_get (v := .ref (a 13)) hx hb hown hq hE hP 21 50 tFX12_21 (by decide) pw_1443 rfl dX12_parents_174 ?_
    refine lv_iload_n hx hb dX12_parents_177 rfl (lv_at hl 1 rfl) ?_
    refine r_ldi (f := (B 13)) (j := n9) hx hb hE hP 13 (ma_13 G a _) rfl (by omega) (by decide) dX12_parents_178 ?_
    refine lv_iload_n hx hb dX12_parents_179 rfl (lv_at hl 1 rfl) ?_
    have hP : va_P G.1 pCl (mW G h0 a F (updA (updA (updA B 52 up) 16 (B 16)) 52 up)) _ := hP
    have hD : va_D A (mW G h0 a F (updA (updA (updA B 52 up) 16 (B 16)) 52 up)) := mW_D hD
    refine pc_V0 (G := G) (As := [.int ((B 13) n9), .int (nI n9)]) (rest := []) hx hb hml hown hq hE hX pX0_al hP hD hS hA hl.1 (R_lieAll l G h0 a F (updA B 52 up) ((B 13) n9) (nI n9) nd up (B 16) (sok.or (hsl 2 (by omega) (by omega)) (by decide)) (by omega) (Fs2.lnr hF)) (gV pw_1915 pw_1916 pw_1917 pw_1523 pw_1912) hV_X12_lieAll 0 9 rfl rfl rfl rfl (Nat.le_of_ble_eq_true rfl) dX12_parents_180 ⟨Nat.le_of_ble_eq_true rfl, Nat.le_of_ble_eq_true rfl⟩ ⟨Nat.le_of_ble_eq_true rfl, Nat.le_of_ble_eq_true rfl⟩ (fun v54 u52 H locs hw53 hP hD hS => ?_)
    obtain ⟨up55, rfl⟩ : ∃ z, z = u52 := ⟨_, rfl⟩
    obtain ⟨hw53, h56⟩ := hw53
    replace h56 : LieA (B 16) up up55 ((B 13) n9) (nI n9) := h56
    obtain rfl : v54 = none := hw53
    have hP : va_P G.1 pCl (mW G h0 a F (updA B 52 up55)) _ := hP
    have hD : va_D A (mW G h0 a F (updA B 52 up55)) := mW_D hD
    refine W.widen (k := 0) (n := 0) (Nat.le_of_ble_eq_true rfl) (Nat.le_of_ble_eq_true rfl) ?_
    refine W.eq (g2 := F0 m 183 ls []) rfl ?_
    have hpq57 : PQ gh nd n9 up up55 (fun j => (False ∨ ∃ i : Nat, itr (B 16) (B 13 n9) i = nI j)) := (PQ.list hpq51 hF (hsl 2 (by omega) (by omega)) ⟨by decide, by decide⟩ hnd h56)
    refine lv_goto (tgt := 361) hx hb dX12_parents_183 (by decide) ?_
    have hDD58 : ∀ j : Nat, pch B n9 j → (False ∨ ∃ i : Nat, itr (B 16) (B 13 n9) i = nI j) := (fun j ⟨k2, s, e, k4, s1, s4, hc⟩ => by have e2 : 8 = k2 := (nI_eq (by omega) (by omega)).mp (ek.symm.trans e); subst e2; exact ch4 (p := fun s => chs (cdOf 8 s) (B (11 + s) n9) (B 16) j → (False ∨ ∃ i : Nat, itr (B 16) (B 13 n9) i = nI j)) (fun hc => absurd hc.1 (by decide)) (fun hc => hc.2.elim (fun z => absurd z.1 (by decide)) (fun z => Or.inr z.2)) (fun hc => absurd hc.1 (by decide)) (fun hc => absurd hc.1 (by decide)) s s1 s4 hc)
    have hz59 : ∀ j : Nat, j < 20000 → pch B n9 j → up55 j = nI n9 := (fun j hj q => hpq57.1 j hj (hDD58 j q))
    have hz60 : ∀ j : Nat, j < nd → ¬ gh 0 j / 8 = n9 → up55 j = up j := hpq57.2
    have hP : va_P G.1 pCl (mW G h0 a F (updA B 52 up55)) _ := hP
    have hD : va_D A (mW G h0 a F (updA B 52 up55)) := mW_D hD
    exact W.vret hx hb hr (fun t9 ht9 hW9 => ⟨⟨_, up55, rfl, ⟨rfl, hz59, hz60⟩, by rw [ht9]; exact hP, hD⟩, hS.F ht9⟩) hS.2.2 dX12_parents_361
  · refine lv_topi (fun x61 e62 => ?_)
    obtain rfl : x61 = 9 := e62.trans ek
    have hpq63 : PQ gh nd n9 up up (fun j => False) := PQ.start
    refine lv_tableIn (tgt := 361) (off := 355) hx hb dX12_parents_6 (by decide) (by decide) (by decide) (by decide) ?_
    have hDD64 : ∀ j : Nat, pch B n9 j → False := (fun j ⟨k2, s, e, k4, s1, s4, hc⟩ => by have e2 : 9 = k2 := (nI_eq (by omega) (by omega)).mp (ek.symm.trans e); subst e2; exact ch4 (p := fun s => chs (cdOf 9 s) (B (11 + s) n9) (B 16) j → False) (fun hc => absurd hc.1 (by decide)) (fun hc => absurd hc.1 (by decide)) (fun hc => absurd hc.1 (by decide)) (fun hc => absurd hc.1 (by decide)) s s1 s4 hc)
    have hz65 : ∀ j : Nat, j < 20000 → pch B n9 j → up j = nI n9 := (fun j hj q => hpq63.1 j hj (hDD64 j q))
    have hz66 : ∀ j : Nat, j < nd → ¬ gh 0 j / 8 = n9 → up j = up j := hpq63.2
    have hP : va_P G.1 pCl (mW G h0 a F (updA B 52 up)) _ := hP
    have hD : va_D A (mW G h0 a F (updA B 52 up)) := mW_D hD
    exact W.vret hx hb hr (fun t9 ht9 hW9 => ⟨⟨_, up, rfl, ⟨rfl, hz65, hz66⟩, by rw [ht9]; exact hP, hD⟩, hS.F ht9⟩) hS.2.2 dX12_parents_361
  · refine lv_topi (fun x67 e68 => ?_)
    obtain rfl : x67 = 10 := e68.trans ek
    have hpq69 : PQ gh nd n9 up up (fun j => False) := PQ.start
    refine lv_tableIn (tgt := 211) (off := 205) hx hb dX12_parents_6 (by decide) (by decide) (by decide) (by decide) ?_
    refine lv_aload_n hx hb dX12_parents_211 rfl (lv_at hl 0 rfl) ?_
    refine lv_aload_n hx hb dX12_parents_212 rfl (lv_at hl 0 rfl) ?_
    refine r_get (v := .ref (a 12)) hx hb hown hq hE hP 20 47 tFX12_20 (by decide) pw_1442 rfl dX12_parents_213 ?_
    refine lv_iload_n hx hb dX12_parents_216 rfl (lv_at hl 1 rfl) ?_
    refine r_ldi (f := (B 12)) (j := n9) hx hb hE hP 12 (ma_12 G a _) rfl (by omega) (by decide) dX12_parents_217 ?_
    refine lv_iload_n hx hb dX12_parents_218 rfl (lv_at hl 1 rfl) ?_
    have hP : va_P G.1 pCl (mW G h0 a F (updA (updA B 52 up) 52 up)) _ := hP
    have hD : va_D A (mW G h0 a F (updA (updA B 52 up) 52 up)) := mW_D hD
    refine pc_V0 (G := G) (As := [.int ((B 12) n9), .int (nI n9)]) (rest := []) hx hb hml hown hq hE hX pX0_al hP hD hS hA hl.1 (R_lies l G h0 a F (updA B 52 up) ((B 12) n9) (nI n9) nd up (sok.or (hsl 1 (by omega) (by omega)) (by decide)) (by omega)) (gV pw_1918 pw_1919 pw_1920 pw_1523 pw_1913) hV_X12_lies 0 9 rfl rfl rfl rfl (Nat.le_of_ble_eq_true rfl) dX12_parents_219 ⟨Nat.le_of_ble_eq_true rfl, Nat.le_of_ble_eq_true rfl⟩ ⟨Nat.le_of_ble_eq_true rfl, Nat.le_of_ble_eq_true rfl⟩ (fun v72 u70 H locs hw71 hP hD hS => ?_)
    obtain ⟨up73, rfl⟩ : ∃ z, z = u70 := ⟨_, rfl⟩
    obtain ⟨hw71, h74⟩ := hw71
    replace h74 : up73 = lieF up ((B 12) n9) (nI n9) := h74
    obtain rfl : v72 = none := hw71
    have hP : va_P G.1 pCl (mW G h0 a F (updA B 52 up73)) _ := hP
    have hD : va_D A (mW G h0 a F (updA B 52 up73)) := mW_D hD
    refine W.widen (k := 0) (n := 0) (Nat.le_of_ble_eq_true rfl) (Nat.le_of_ble_eq_true rfl) ?_
    refine W.eq (g2 := F0 m 222 ls []) rfl ?_
    have hpq75 : PQ gh nd n9 up up73 (fun j => (False ∨ (B 12 n9) = nI j)) := (PQ.lies hpq69 (hsl 1 (by omega) (by omega)) ⟨by decide, by decide⟩ (by omega) hnd h74)
    refine lv_goto (tgt := 361) hx hb dX12_parents_222 (by decide) ?_
    have hDD76 : ∀ j : Nat, pch B n9 j → (False ∨ (B 12 n9) = nI j) := (fun j ⟨k2, s, e, k4, s1, s4, hc⟩ => by have e2 : 10 = k2 := (nI_eq (by omega) (by omega)).mp (ek.symm.trans e); subst e2; exact ch4 (p := fun s => chs (cdOf 10 s) (B (11 + s) n9) (B 16) j → (False ∨ (B 12 n9) = nI j)) (fun hc => hc.2.elim (fun z => Or.inr z.2) (fun z => absurd z.1 (by decide))) (fun hc => absurd hc.1 (by decide)) (fun hc => absurd hc.1 (by decide)) (fun hc => absurd hc.1 (by decide)) s s1 s4 hc)
    have hz77 : ∀ j : Nat, j < 20000 → pch B n9 j → up73 j = nI n9 := (fun j hj q => hpq75.1 j hj (hDD76 j q))
    have hz78 : ∀ j : Nat, j < nd → ¬ gh 0 j / 8 = n9 → up73 j = up j := hpq75.2
    have hP : va_P G.1 pCl (mW G h0 a F (updA B 52 up73)) _ := hP
    have hD : va_D A (mW G h0 a F (updA B 52 up73)) := mW_D hD
    exact W.vret hx hb hr (fun t9 ht9 hW9 => ⟨⟨_, up73, rfl, ⟨rfl, hz77, hz78⟩, by rw [ht9]; exact hP, hD⟩, hS.F ht9⟩) hS.2.2 dX12_parents_361
  · refine lv_topi (fun x79 e80 => ?_)
    obtain rfl : x79 = 11 := e80.trans ek
    have hpq81 : PQ gh nd n9 up up (fun j => False) := PQ.start
    refine lv_tableIn (tgt := 361) (off := 355) hx hb dX12_parents_6 (by decide) (by decide) (by decide) (by decide) ?_
    have hDD82 : ∀ j : Nat, pch B n9 j → False := (fun j ⟨k2, s, e, k4, s1, s4, hc⟩ => by have e2 : 11 = k2 := (nI_eq (by omega) (by omega)).mp (ek.symm.trans e); subst e2; exact ch4 (p := fun s => chs (cdOf 11 s) (B (11 + s) n9) (B 16) j → False) (fun hc => absurd hc.1 (by decide)) (fun hc => absurd hc.1 (by decide)) (fun hc => absurd hc.1 (by decide)) (fun hc => absurd hc.1 (by decide)) s s1 s4 hc)
    have hz83 : ∀ j : Nat, j < 20000 → pch B n9 j → up j = nI n9 := (fun j hj q => hpq81.1 j hj (hDD82 j q))
    have hz84 : ∀ j : Nat, j < nd → ¬ gh 0 j / 8 = n9 → up j = up j := hpq81.2
    have hP : va_P G.1 pCl (mW G h0 a F (updA B 52 up)) _ := hP
    have hD : va_D A (mW G h0 a F (updA B 52 up)) := mW_D hD
    exact W.vret hx hb hr (fun t9 ht9 hW9 => ⟨⟨_, up, rfl, ⟨rfl, hz83, hz84⟩, by rw [ht9]; exact hP, hD⟩, hS.F ht9⟩) hS.2.2 dX12_parents_361
  · refine lv_topi (fun x85 e86 => ?_)
    obtain rfl : x85 = 12 := e86.trans ek
    have hpq87 : PQ gh nd n9 up up (fun j => False) := PQ.start
    refine lv_tableIn (tgt := 211) (off := 205) hx hb dX12_parents_6 (by decide) (by decide) (by decide) (by decide) ?_
    refine lv_aload_n hx hb dX12_parents_211 rfl (lv_at hl 0 rfl) ?_
    refine lv_aload_n hx hb dX12_parents_212 rfl (lv_at hl 0 rfl) ?_
    refine r_get (v := .ref (a 12)) hx hb hown hq hE hP 20 47 tFX12_20 (by decide) pw_1442 rfl dX12_parents_213 ?_
    refine lv_iload_n hx hb dX12_parents_216 rfl (lv_at hl 1 rfl) ?_
    refine r_ldi (f := (B 12)) (j := n9) hx hb hE hP 12 (ma_12 G a _) rfl (by omega) (by decide) dX12_parents_217 ?_
    refine lv_iload_n hx hb dX12_parents_218 rfl (lv_at hl 1 rfl) ?_
    have hP : va_P G.1 pCl (mW G h0 a F (updA (updA B 52 up) 52 up)) _ := hP
    have hD : va_D A (mW G h0 a F (updA (updA B 52 up) 52 up)) := mW_D hD
    refine pc_V0 (G := G) (As := [.int ((B 12) n9), .int (nI n9)]) (rest := []) hx hb hml hown hq hE hX pX0_al hP hD hS hA hl.1 (R_lies l G h0 a F (updA B 52 up) ((B 12) n9) (nI n9) nd up (sok.or (hsl 1 (by omega) (by omega)) (by decide)) (by omega)) (gV pw_1918 pw_1919 pw_1920 pw_1523 pw_1913) hV_X12_lies 0 9 rfl rfl rfl rfl (Nat.le_of_ble_eq_true rfl) dX12_parents_219 ⟨Nat.le_of_ble_eq_true rfl, Nat.le_of_ble_eq_true rfl⟩ ⟨Nat.le_of_ble_eq_true rfl, Nat.le_of_ble_eq_true rfl⟩ (fun v90 u88 H locs hw89 hP hD hS => ?_)
    obtain ⟨up91, rfl⟩ : ∃ z, z = u88 := ⟨_, rfl⟩
    obtain ⟨hw89, h92⟩ := hw89
    replace h92 : up91 = lieF up ((B 12) n9) (nI n9) := h92
    obtain rfl : v90 = none := hw89
    have hP : va_P G.1 pCl (mW G h0 a F (updA B 52 up91)) _ := hP
    have hD : va_D A (mW G h0 a F (updA B 52 up91)) := mW_D hD
    refine W.widen (k := 0) (n := 0) (Nat.le_of_ble_eq_true rfl) (Nat.le_of_ble_eq_true rfl) ?_
    refine W.eq (g2 := F0 m 222 ls []) rfl ?_
    have hpq93 : PQ gh nd n9 up up91 (fun j => (False ∨ (B 12 n9) = nI j)) := (PQ.lies hpq87 (hsl 1 (by omega) (by omega)) ⟨by decide, by decide⟩ (by omega) hnd h92)
    refine lv_goto (tgt := 361) hx hb dX12_parents_222 (by decide) ?_
    have hDD94 : ∀ j : Nat, pch B n9 j → (False ∨ (B 12 n9) = nI j) := (fun j ⟨k2, s, e, k4, s1, s4, hc⟩ => by have e2 : 12 = k2 := (nI_eq (by omega) (by omega)).mp (ek.symm.trans e); subst e2; exact ch4 (p := fun s => chs (cdOf 12 s) (B (11 + s) n9) (B 16) j → (False ∨ (B 12 n9) = nI j)) (fun hc => hc.2.elim (fun z => Or.inr z.2) (fun z => absurd z.1 (by decide))) (fun hc => absurd hc.1 (by decide)) (fun hc => absurd hc.1 (by decide)) (fun hc => absurd hc.1 (by decide)) s s1 s4 hc)
    have hz95 : ∀ j : Nat, j < 20000 → pch B n9 j → up91 j = nI n9 := (fun j hj q => hpq93.1 j hj (hDD94 j q))
    have hz96 : ∀ j : Nat, j < nd → ¬ gh 0 j / 8 = n9 → up91 j = up j := hpq93.2
    have hP : va_P G.1 pCl (mW G h0 a F (updA B 52 up91)) _ := hP
    have hD : va_D A (mW G h0 a F (updA B 52 up91)) := mW_D hD
    exact W.vret hx hb hr (fun t9 ht9 hW9 => ⟨⟨_, up91, rfl, ⟨rfl, hz95, hz96⟩, by rw [ht9]; exact hP, hD⟩, hS.F ht9⟩) hS.2.2 dX12_parents_361
  · refine lv_topi (fun x97 e98 => ?_)
    obtain rfl : x97 = 13 := e98.trans ek
    have hpq99 : PQ gh nd n9 up up (fun j => False) := PQ.start
    refine lv_tableIn (tgt := 211) (off := 205) hx hb dX12_parents_6 (by decide) (by decide) (by decide) (by decide) ?_
    refine lv_aload_n hx hb dX12_parents_211 rfl (lv_at hl 0 rfl) ?_
    refine lv_aload_n hx hb dX12_parents_212 rfl (lv_at hl 0 rfl) ?_
    refine r_get (v := .ref (a 12)) hx hb hown hq hE hP 20 47 tFX12_20 (by decide) pw_1442 rfl dX12_parents_213 ?_
    refine lv_iload_n hx hb dX12_parents_216 rfl (lv_at hl 1 rfl) ?_
    refine r_ldi (f := (B 12)) (j := n9) hx hb hE hP 12 (ma_12 G a _) rfl (by omega) (by decide) dX12_parents_217 ?_
    refine lv_iload_n hx hb dX12_parents_218 rfl (lv_at hl 1 rfl) ?_
    have hP : va_P G.1 pCl (mW G h0 a F (updA (updA B 52 up) 52 up)) _ := hP
    have hD : va_D A (mW G h0 a F (updA (updA B 52 up) 52 up)) := mW_D hD
    refine pc_V0 (G := G) (As := [.int ((B 12) n9), .int (nI n9)]) (rest := []) hx hb hml hown hq hE hX pX0_al hP hD hS hA hl.1 (R_lies l G h0 a F (updA B 52 up) ((B 12) n9) (nI n9) nd up (sok.or (hsl 1 (by omega) (by omega)) (by decide)) (by omega)) (gV pw_1918 pw_1919 pw_1920 pw_1523 pw_1913) hV_X12_lies 0 9 rfl rfl rfl rfl (Nat.le_of_ble_eq_true rfl) dX12_parents_219 ⟨Nat.le_of_ble_eq_true rfl, Nat.le_of_ble_eq_true rfl⟩ ⟨Nat.le_of_ble_eq_true rfl, Nat.le_of_ble_eq_true rfl⟩ (fun v102 u100 H locs hw101 hP hD hS => ?_)
    obtain ⟨up103, rfl⟩ : ∃ z, z = u100 := ⟨_, rfl⟩
    obtain ⟨hw101, h104⟩ := hw101
    replace h104 : up103 = lieF up ((B 12) n9) (nI n9) := h104
    obtain rfl : v102 = none := hw101
    have hP : va_P G.1 pCl (mW G h0 a F (updA B 52 up103)) _ := hP
    have hD : va_D A (mW G h0 a F (updA B 52 up103)) := mW_D hD
    refine W.widen (k := 0) (n := 0) (Nat.le_of_ble_eq_true rfl) (Nat.le_of_ble_eq_true rfl) ?_
    refine W.eq (g2 := F0 m 222 ls []) rfl ?_
    have hpq105 : PQ gh nd n9 up up103 (fun j => (False ∨ (B 12 n9) = nI j)) := (PQ.lies hpq99 (hsl 1 (by omega) (by omega)) ⟨by decide, by decide⟩ (by omega) hnd h104)
    refine lv_goto (tgt := 361) hx hb dX12_parents_222 (by decide) ?_
    have hDD106 : ∀ j : Nat, pch B n9 j → (False ∨ (B 12 n9) = nI j) := (fun j ⟨k2, s, e, k4, s1, s4, hc⟩ => by have e2 : 13 = k2 := (nI_eq (by omega) (by omega)).mp (ek.symm.trans e); subst e2; exact ch4 (p := fun s => chs (cdOf 13 s) (B (11 + s) n9) (B 16) j → (False ∨ (B 12 n9) = nI j)) (fun hc => hc.2.elim (fun z => Or.inr z.2) (fun z => absurd z.1 (by decide))) (fun hc => absurd hc.1 (by decide)) (fun hc => absurd hc.1 (by decide)) (fun hc => absurd hc.1 (by decide)) s s1 s4 hc)
    have hz107 : ∀ j : Nat, j < 20000 → pch B n9 j → up103 j = nI n9 := (fun j hj q => hpq105.1 j hj (hDD106 j q))
    have hz108 : ∀ j : Nat, j < nd → ¬ gh 0 j / 8 = n9 → up103 j = up j := hpq105.2
    have hP : va_P G.1 pCl (mW G h0 a F (updA B 52 up103)) _ := hP
    have hD : va_D A (mW G h0 a F (updA B 52 up103)) := mW_D hD
    exact W.vret hx hb hr (fun t9 ht9 hW9 => ⟨⟨_, up103, rfl, ⟨rfl, hz107, hz108⟩, by rw [ht9]; exact hP, hD⟩, hS.F ht9⟩) hS.2.2 dX12_parents_361
  · refine lv_topi (fun x109 e110 => ?_)
    obtain rfl : x109 = 14 := e110.trans ek
    have hpq111 : PQ gh nd n9 up up (fun j => False) := PQ.start
    refine lv_tableIn (tgt := 186) (off := 180) hx hb dX12_parents_6 (by decide) (by decide) (by decide) (by decide) ?_
    refine lv_aload_n hx hb dX12_parents_186 rfl (lv_at hl 0 rfl) ?_
    refine lv_aload_n hx hb dX12_parents_187 rfl (lv_at hl 0 rfl) ?_
    refine r_get (v := .ref (a 12)) hx hb hown hq hE hP 20 47 tFX12_20 (by decide) pw_1442 rfl dX12_parents_188 ?_
    refine lv_iload_n hx hb dX12_parents_191 rfl (lv_at hl 1 rfl) ?_
    refine r_ldi (f := (B 12)) (j := n9) hx hb hE hP 12 (ma_12 G a _) rfl (by omega) (by decide) dX12_parents_192 ?_
    refine lv_iload_n hx hb dX12_parents_193 rfl (lv_at hl 1 rfl) ?_
    have hP : va_P G.1 pCl (mW G h0 a F (updA (updA B 52 up) 52 up)) _ := hP
    have hD : va_D A (mW G h0 a F (updA (updA B 52 up) 52 up)) := mW_D hD
    refine pc_V0 (G := G) (As := [.int ((B 12) n9), .int (nI n9)]) (rest := []) hx hb hml hown hq hE hX pX0_al hP hD hS hA hl.1 (R_lies l G h0 a F (updA B 52 up) ((B 12) n9) (nI n9) nd up (sok.or (hsl 1 (by omega) (by omega)) (by decide)) (by omega)) (gV pw_1918 pw_1919 pw_1920 pw_1523 pw_1913) hV_X12_lies 0 9 rfl rfl rfl rfl (Nat.le_of_ble_eq_true rfl) dX12_parents_194 ⟨Nat.le_of_ble_eq_true rfl, Nat.le_of_ble_eq_true rfl⟩ ⟨Nat.le_of_ble_eq_true rfl, Nat.le_of_ble_eq_true rfl⟩ (fun v114 u112 H locs hw113 hP hD hS => ?_)
    obtain ⟨up115, rfl⟩ : ∃ z, z = u112 := ⟨_, rfl⟩
    obtain ⟨hw113, h116⟩ := hw113
    replace h116 : up115 = lieF up ((B 12) n9) (nI n9) := h116
    obtain rfl : v114 = none := hw113
    have hP : va_P G.1 pCl (mW G h0 a F (updA B 52 up115)) _ := hP
    have hD : va_D A (mW G h0 a F (updA B 52 up115)) := mW_D hD
    refine W.widen (k := 0) (n := 0) (Nat.le_of_ble_eq_true rfl) (Nat.le_of_ble_eq_true rfl) ?_
    refine W.eq (g2 := F0 m 197 ls []) rfl ?_
    have hpq117 : PQ gh nd n9 up up115 (fun j => (False ∨ (B 12 n9) = nI j)) := (PQ.lies hpq111 (hsl 1 (by omega) (by omega)) ⟨by decide, by decide⟩ (by omega) hnd h116)
    refine lv_aload_n hx hb dX12_parents_197 rfl (lv_at hl 0 rfl) ?_
    refine lv_aload_n hx hb dX12_parents_198 rfl (lv_at hl 0 rfl) ?_
    refine r_get (v := .ref (a 13)) hx hb hown hq hE hP 21 50 tFX12_21 (by decide) pw_1443 rfl dX12_parents_199 ?_
    refine lv_iload_n hx hb dX12_parents_202 rfl (lv_at hl 1 rfl) ?_
    refine r_ldi (f := (B 13)) (j := n9) hx hb hE hP 13 (ma_13 G a _) rfl (by omega) (by decide) dX12_parents_203 ?_
    refine lv_iload_n hx hb dX12_parents_204 rfl (lv_at hl 1 rfl) ?_
    have hP : va_P G.1 pCl (mW G h0 a F (updA (updA (updA B 52 up115) 16 (B 16)) 52 up115)) _ := hP
    have hD : va_D A (mW G h0 a F (updA (updA (updA B 52 up115) 16 (B 16)) 52 up115)) := mW_D hD
    refine pc_V0 (G := G) (As := [.int ((B 13) n9), .int (nI n9)]) (rest := []) hx hb hml hown hq hE hX pX0_al hP hD hS hA hl.1 (R_lieAll l G h0 a F (updA B 52 up115) ((B 13) n9) (nI n9) nd up115 (B 16) (sok.or (hsl 2 (by omega) (by omega)) (by decide)) (by omega) (Fs2.lnr hF)) (gV pw_1915 pw_1916 pw_1917 pw_1523 pw_1912) hV_X12_lieAll 0 9 rfl rfl rfl rfl (Nat.le_of_ble_eq_true rfl) dX12_parents_205 ⟨Nat.le_of_ble_eq_true rfl, Nat.le_of_ble_eq_true rfl⟩ ⟨Nat.le_of_ble_eq_true rfl, Nat.le_of_ble_eq_true rfl⟩ (fun v120 u118 H locs hw119 hP hD hS => ?_)
    obtain ⟨up121, rfl⟩ : ∃ z, z = u118 := ⟨_, rfl⟩
    obtain ⟨hw119, h122⟩ := hw119
    replace h122 : LieA (B 16) up115 up121 ((B 13) n9) (nI n9) := h122
    obtain rfl : v120 = none := hw119
    have hP : va_P G.1 pCl (mW G h0 a F (updA B 52 up121)) _ := hP
    have hD : va_D A (mW G h0 a F (updA B 52 up121)) := mW_D hD
    refine W.widen (k := 0) (n := 0) (Nat.le_of_ble_eq_true rfl) (Nat.le_of_ble_eq_true rfl) ?_
    refine W.eq (g2 := F0 m 208 ls []) rfl ?_
    have hpq123 : PQ gh nd n9 up up121 (fun j => ((False ∨ (B 12 n9) = nI j) ∨ ∃ i : Nat, itr (B 16) (B 13 n9) i = nI j)) := (PQ.list hpq117 hF (hsl 2 (by omega) (by omega)) ⟨by decide, by decide⟩ hnd h122)
    refine lv_goto (tgt := 361) hx hb dX12_parents_208 (by decide) ?_
    have hDD124 : ∀ j : Nat, pch B n9 j → ((False ∨ (B 12 n9) = nI j) ∨ ∃ i : Nat, itr (B 16) (B 13 n9) i = nI j) := (fun j ⟨k2, s, e, k4, s1, s4, hc⟩ => by have e2 : 14 = k2 := (nI_eq (by omega) (by omega)).mp (ek.symm.trans e); subst e2; exact ch4 (p := fun s => chs (cdOf 14 s) (B (11 + s) n9) (B 16) j → ((False ∨ (B 12 n9) = nI j) ∨ ∃ i : Nat, itr (B 16) (B 13 n9) i = nI j)) (fun hc => hc.2.elim (fun z => Or.inl (Or.inr z.2)) (fun z => absurd z.1 (by decide))) (fun hc => hc.2.elim (fun z => absurd z.1 (by decide)) (fun z => Or.inr z.2)) (fun hc => absurd hc.1 (by decide)) (fun hc => absurd hc.1 (by decide)) s s1 s4 hc)
    have hz125 : ∀ j : Nat, j < 20000 → pch B n9 j → up121 j = nI n9 := (fun j hj q => hpq123.1 j hj (hDD124 j q))
    have hz126 : ∀ j : Nat, j < nd → ¬ gh 0 j / 8 = n9 → up121 j = up j := hpq123.2
    have hP : va_P G.1 pCl (mW G h0 a F (updA B 52 up121)) _ := hP
    have hD : va_D A (mW G h0 a F (updA B 52 up121)) := mW_D hD
    exact W.vret hx hb hr (fun t9 ht9 hW9 => ⟨⟨_, up121, rfl, ⟨rfl, hz125, hz126⟩, by rw [ht9]; exact hP, hD⟩, hS.F ht9⟩) hS.2.2 dX12_parents_361
  · refine lv_topi (fun x127 e128 => ?_)
    obtain rfl : x127 = 15 := e128.trans ek
    have hpq129 : PQ gh nd n9 up up (fun j => False) := PQ.start
    refine lv_tableIn (tgt := 225) (off := 219) hx hb dX12_parents_6 (by decide) (by decide) (by decide) (by decide) ?_
    refine lv_aload_n hx hb dX12_parents_225 rfl (lv_at hl 0 rfl) ?_
    refine lv_aload_n hx hb dX12_parents_226 rfl (lv_at hl 0 rfl) ?_
    refine r_get (v := .ref (a 12)) hx hb hown hq hE hP 20 47 tFX12_20 (by decide) pw_1442 rfl dX12_parents_227 ?_
    refine lv_iload_n hx hb dX12_parents_230 rfl (lv_at hl 1 rfl) ?_
    refine r_ldi (f := (B 12)) (j := n9) hx hb hE hP 12 (ma_12 G a _) rfl (by omega) (by decide) dX12_parents_231 ?_
    refine lv_iload_n hx hb dX12_parents_232 rfl (lv_at hl 1 rfl) ?_
    have hP : va_P G.1 pCl (mW G h0 a F (updA (updA B 52 up) 52 up)) _ := hP
    have hD : va_D A (mW G h0 a F (updA (updA B 52 up) 52 up)) := mW_D hD
    refine pc_V0 (G := G) (As := [.int ((B 12) n9), .int (nI n9)]) (rest := []) hx hb hml hown hq hE hX pX0_al hP hD hS hA hl.1 (R_lies l G h0 a F (updA B 52 up) ((B 12) n9) (nI n9) nd up (sok.or (hsl 1 (by omega) (by omega)) (by decide)) (by omega)) (gV pw_1918 pw_1919 pw_1920 pw_1523 pw_1913) hV_X12_lies 0 9 rfl rfl rfl rfl (Nat.le_of_ble_eq_true rfl) dX12_parents_233 ⟨Nat.le_of_ble_eq_true rfl, Nat.le_of_ble_eq_true rfl⟩ ⟨Nat.le_of_ble_eq_true rfl, Nat.le_of_ble_eq_true rfl⟩ (fun v132 u130 H locs hw131 hP hD hS => ?_)
    obtain ⟨up133, rfl⟩ : ∃ z, z = u130 := ⟨_, rfl⟩
    obtain ⟨hw131, h134⟩ := hw131
    replace h134 : up133 = lieF up ((B 12) n9) (nI n9) := h134
    obtain rfl : v132 = none := hw131
    have hP : va_P G.1 pCl (mW G h0 a F (updA B 52 up133)) _ := hP
    have hD : va_D A (mW G h0 a F (updA B 52 up133)) := mW_D hD
    refine W.widen (k := 0) (n := 0) (Nat.le_of_ble_eq_true rfl) (Nat.le_of_ble_eq_true rfl) ?_
    refine W.eq (g2 := F0 m 236 ls []) rfl ?_
    have hpq135 : PQ gh nd n9 up up133 (fun j => (False ∨ (B 12 n9) = nI j)) := (PQ.lies hpq129 (hsl 1 (by omega) (by omega)) ⟨by decide, by decide⟩ (by omega) hnd h134)
    refine lv_aload_n hx hb dX12_parents_236 rfl (lv_at hl 0 rfl) ?_
    refine lv_aload_n hx hb dX12_parents_237 rfl (lv_at hl 0 rfl) ?_
    refine r_get (v := .ref (a 13)) hx hb hown hq hE hP 21 50 tFX12_21 (by decide) pw_1443 rfl dX12_parents_238 ?_
    refine lv_iload_n hx hb dX12_parents_241 rfl (lv_at hl 1 rfl) ?_
    refine r_ldi (f := (B 13)) (j := n9) hx hb hE hP 13 (ma_13 G a _) rfl (by omega) (by decide) dX12_parents_242 ?_
    refine lv_iload_n hx hb dX12_parents_243 rfl (lv_at hl 1 rfl) ?_
    have hP : va_P G.1 pCl (mW G h0 a F (updA (updA B 52 up133) 52 up133)) _ := hP
    have hD : va_D A (mW G h0 a F (updA (updA B 52 up133) 52 up133)) := mW_D hD
    refine pc_V0 (G := G) (As := [.int ((B 13) n9), .int (nI n9)]) (rest := []) hx hb hml hown hq hE hX pX0_al hP hD hS hA hl.1 (R_lies l G h0 a F (updA B 52 up133) ((B 13) n9) (nI n9) nd up133 (sok.or (hsl 2 (by omega) (by omega)) (by decide)) (by omega)) (gV pw_1918 pw_1919 pw_1920 pw_1523 pw_1913) hV_X12_lies 0 9 rfl rfl rfl rfl (Nat.le_of_ble_eq_true rfl) dX12_parents_244 ⟨Nat.le_of_ble_eq_true rfl, Nat.le_of_ble_eq_true rfl⟩ ⟨Nat.le_of_ble_eq_true rfl, Nat.le_of_ble_eq_true rfl⟩ (fun v138 u136 H locs hw137 hP hD hS => ?_)
    obtain ⟨up139, rfl⟩ : ∃ z, z = u136 := ⟨_, rfl⟩
    obtain ⟨hw137, h140⟩ := hw137
    replace h140 : up139 = lieF up133 ((B 13) n9) (nI n9) := h140
    obtain rfl : v138 = none := hw137
    have hP : va_P G.1 pCl (mW G h0 a F (updA B 52 up139)) _ := hP
    have hD : va_D A (mW G h0 a F (updA B 52 up139)) := mW_D hD
    refine W.widen (k := 0) (n := 0) (Nat.le_of_ble_eq_true rfl) (Nat.le_of_ble_eq_true rfl) ?_
    refine W.eq (g2 := F0 m 247 ls []) rfl ?_
    have hpq141 : PQ gh nd n9 up up139 (fun j => ((False ∨ (B 12 n9) = nI j) ∨ (B 13 n9) = nI j)) := (PQ.lies hpq135 (hsl 2 (by omega) (by omega)) ⟨by decide, by decide⟩ (by omega) hnd h140)
    refine lv_goto (tgt := 361) hx hb dX12_parents_247 (by decide) ?_
    have hDD142 : ∀ j : Nat, pch B n9 j → ((False ∨ (B 12 n9) = nI j) ∨ (B 13 n9) = nI j) := (fun j ⟨k2, s, e, k4, s1, s4, hc⟩ => by have e2 : 15 = k2 := (nI_eq (by omega) (by omega)).mp (ek.symm.trans e); subst e2; exact ch4 (p := fun s => chs (cdOf 15 s) (B (11 + s) n9) (B 16) j → ((False ∨ (B 12 n9) = nI j) ∨ (B 13 n9) = nI j)) (fun hc => hc.2.elim (fun z => Or.inl (Or.inr z.2)) (fun z => absurd z.1 (by decide))) (fun hc => hc.2.elim (fun z => Or.inr z.2) (fun z => absurd z.1 (by decide))) (fun hc => absurd hc.1 (by decide)) (fun hc => absurd hc.1 (by decide)) s s1 s4 hc)
    have hz143 : ∀ j : Nat, j < 20000 → pch B n9 j → up139 j = nI n9 := (fun j hj q => hpq141.1 j hj (hDD142 j q))
    have hz144 : ∀ j : Nat, j < nd → ¬ gh 0 j / 8 = n9 → up139 j = up j := hpq141.2
    have hP : va_P G.1 pCl (mW G h0 a F (updA B 52 up139)) _ := hP
    have hD : va_D A (mW G h0 a F (updA B 52 up139)) := mW_D hD
    exact W.vret hx hb hr (fun t9 ht9 hW9 => ⟨⟨_, up139, rfl, ⟨rfl, hz143, hz144⟩, by rw [ht9]; exact hP, hD⟩, hS.F ht9⟩) hS.2.2 dX12_parents_361
  · refine lv_topi (fun x145 e146 => ?_)
    obtain rfl : x145 = 16 := e146.trans ek
    have hpq147 : PQ gh nd n9 up up (fun j => False) := PQ.start
    refine lv_tableIn (tgt := 211) (off := 205) hx hb dX12_parents_6 (by decide) (by decide) (by decide) (by decide) ?_
    refine lv_aload_n hx hb dX12_parents_211 rfl (lv_at hl 0 rfl) ?_
    refine lv_aload_n hx hb dX12_parents_212 rfl (lv_at hl 0 rfl) ?_
    refine r_get (v := .ref (a 12)) hx hb hown hq hE hP 20 47 tFX12_20 (by decide) pw_1442 rfl dX12_parents_213 ?_
    refine lv_iload_n hx hb dX12_parents_216 rfl (lv_at hl 1 rfl) ?_
    refine r_ldi (f := (B 12)) (j := n9) hx hb hE hP 12 (ma_12 G a _) rfl (by omega) (by decide) dX12_parents_217 ?_
    refine lv_iload_n hx hb dX12_parents_218 rfl (lv_at hl 1 rfl) ?_
    have hP : va_P G.1 pCl (mW G h0 a F (updA (updA B 52 up) 52 up)) _ := hP
    have hD : va_D A (mW G h0 a F (updA (updA B 52 up) 52 up)) := mW_D hD
    refine pc_V0 (G := G) (As := [.int ((B 12) n9), .int (nI n9)]) (rest := []) hx hb hml hown hq hE hX pX0_al hP hD hS hA hl.1 (R_lies l G h0 a F (updA B 52 up) ((B 12) n9) (nI n9) nd up (sok.or (hsl 1 (by omega) (by omega)) (by decide)) (by omega)) (gV pw_1918 pw_1919 pw_1920 pw_1523 pw_1913) hV_X12_lies 0 9 rfl rfl rfl rfl (Nat.le_of_ble_eq_true rfl) dX12_parents_219 ⟨Nat.le_of_ble_eq_true rfl, Nat.le_of_ble_eq_true rfl⟩ ⟨Nat.le_of_ble_eq_true rfl, Nat.le_of_ble_eq_true rfl⟩ (fun v150 u148 H locs hw149 hP hD hS => ?_)
    obtain ⟨up151, rfl⟩ : ∃ z, z = u148 := ⟨_, rfl⟩
    obtain ⟨hw149, h152⟩ := hw149
    replace h152 : up151 = lieF up ((B 12) n9) (nI n9) := h152
    obtain rfl : v150 = none := hw149
    have hP : va_P G.1 pCl (mW G h0 a F (updA B 52 up151)) _ := hP
    have hD : va_D A (mW G h0 a F (updA B 52 up151)) := mW_D hD
    refine W.widen (k := 0) (n := 0) (Nat.le_of_ble_eq_true rfl) (Nat.le_of_ble_eq_true rfl) ?_
    refine W.eq (g2 := F0 m 222 ls []) rfl ?_
    have hpq153 : PQ gh nd n9 up up151 (fun j => (False ∨ (B 12 n9) = nI j)) := (PQ.lies hpq147 (hsl 1 (by omega) (by omega)) ⟨by decide, by decide⟩ (by omega) hnd h152)
    refine lv_goto (tgt := 361) hx hb dX12_parents_222 (by decide) ?_
    have hDD154 : ∀ j : Nat, pch B n9 j → (False ∨ (B 12 n9) = nI j) := (fun j ⟨k2, s, e, k4, s1, s4, hc⟩ => by have e2 : 16 = k2 := (nI_eq (by omega) (by omega)).mp (ek.symm.trans e); subst e2; exact ch4 (p := fun s => chs (cdOf 16 s) (B (11 + s) n9) (B 16) j → (False ∨ (B 12 n9) = nI j)) (fun hc => hc.2.elim (fun z => Or.inr z.2) (fun z => absurd z.1 (by decide))) (fun hc => absurd hc.1 (by decide)) (fun hc => absurd hc.1 (by decide)) (fun hc => absurd hc.1 (by decide)) s s1 s4 hc)
    have hz155 : ∀ j : Nat, j < 20000 → pch B n9 j → up151 j = nI n9 := (fun j hj q => hpq153.1 j hj (hDD154 j q))
    have hz156 : ∀ j : Nat, j < nd → ¬ gh 0 j / 8 = n9 → up151 j = up j := hpq153.2
    have hP : va_P G.1 pCl (mW G h0 a F (updA B 52 up151)) _ := hP
    have hD : va_D A (mW G h0 a F (updA B 52 up151)) := mW_D hD
    exact W.vret hx hb hr (fun t9 ht9 hW9 => ⟨⟨_, up151, rfl, ⟨rfl, hz155, hz156⟩, by rw [ht9]; exact hP, hD⟩, hS.F ht9⟩) hS.2.2 dX12_parents_361
  · refine lv_topi (fun x157 e158 => ?_)
    obtain rfl : x157 = 17 := e158.trans ek
    have hpq159 : PQ gh nd n9 up up (fun j => False) := PQ.start
    refine lv_tableIn (tgt := 211) (off := 205) hx hb dX12_parents_6 (by decide) (by decide) (by decide) (by decide) ?_
    refine lv_aload_n hx hb dX12_parents_211 rfl (lv_at hl 0 rfl) ?_
    refine lv_aload_n hx hb dX12_parents_212 rfl (lv_at hl 0 rfl) ?_
    refine r_get (v := .ref (a 12)) hx hb hown hq hE hP 20 47 tFX12_20 (by decide) pw_1442 rfl dX12_parents_213 ?_
    refine lv_iload_n hx hb dX12_parents_216 rfl (lv_at hl 1 rfl) ?_
    refine r_ldi (f := (B 12)) (j := n9) hx hb hE hP 12 (ma_12 G a _) rfl (by omega) (by decide) dX12_parents_217 ?_
    refine lv_iload_n hx hb dX12_parents_218 rfl (lv_at hl 1 rfl) ?_
    have hP : va_P G.1 pCl (mW G h0 a F (updA (updA B 52 up) 52 up)) _ := hP
    have hD : va_D A (mW G h0 a F (updA (updA B 52 up) 52 up)) := mW_D hD
    refine pc_V0 (G := G) (As := [.int ((B 12) n9), .int (nI n9)]) (rest := []) hx hb hml hown hq hE hX pX0_al hP hD hS hA hl.1 (R_lies l G h0 a F (updA B 52 up) ((B 12) n9) (nI n9) nd up (sok.or (hsl 1 (by omega) (by omega)) (by decide)) (by omega)) (gV pw_1918 pw_1919 pw_1920 pw_1523 pw_1913) hV_X12_lies 0 9 rfl rfl rfl rfl (Nat.le_of_ble_eq_true rfl) dX12_parents_219 ⟨Nat.le_of_ble_eq_true rfl, Nat.le_of_ble_eq_true rfl⟩ ⟨Nat.le_of_ble_eq_true rfl, Nat.le_of_ble_eq_true rfl⟩ (fun v162 u160 H locs hw161 hP hD hS => ?_)
    obtain ⟨up163, rfl⟩ : ∃ z, z = u160 := ⟨_, rfl⟩
    obtain ⟨hw161, h164⟩ := hw161
    replace h164 : up163 = lieF up ((B 12) n9) (nI n9) := h164
    obtain rfl : v162 = none := hw161
    have hP : va_P G.1 pCl (mW G h0 a F (updA B 52 up163)) _ := hP
    have hD : va_D A (mW G h0 a F (updA B 52 up163)) := mW_D hD
    refine W.widen (k := 0) (n := 0) (Nat.le_of_ble_eq_true rfl) (Nat.le_of_ble_eq_true rfl) ?_
    refine W.eq (g2 := F0 m 222 ls []) rfl ?_
    have hpq165 : PQ gh nd n9 up up163 (fun j => (False ∨ (B 12 n9) = nI j)) := (PQ.lies hpq159 (hsl 1 (by omega) (by omega)) ⟨by decide, by decide⟩ (by omega) hnd h164)
    refine lv_goto (tgt := 361) hx hb dX12_parents_222 (by decide) ?_
    have hDD166 : ∀ j : Nat, pch B n9 j → (False ∨ (B 12 n9) = nI j) := (fun j ⟨k2, s, e, k4, s1, s4, hc⟩ => by have e2 : 17 = k2 := (nI_eq (by omega) (by omega)).mp (ek.symm.trans e); subst e2; exact ch4 (p := fun s => chs (cdOf 17 s) (B (11 + s) n9) (B 16) j → (False ∨ (B 12 n9) = nI j)) (fun hc => hc.2.elim (fun z => Or.inr z.2) (fun z => absurd z.1 (by decide))) (fun hc => absurd hc.1 (by decide)) (fun hc => absurd hc.1 (by decide)) (fun hc => absurd hc.1 (by decide)) s s1 s4 hc)
    have hz167 : ∀ j : Nat, j < 20000 → pch B n9 j → up163 j = nI n9 := (fun j hj q => hpq165.1 j hj (hDD166 j q))
    have hz168 : ∀ j : Nat, j < nd → ¬ gh 0 j / 8 = n9 → up163 j = up j := hpq165.2
    have hP : va_P G.1 pCl (mW G h0 a F (updA B 52 up163)) _ := hP
    have hD : va_D A (mW G h0 a F (updA B 52 up163)) := mW_D hD
    exact W.vret hx hb hr (fun t9 ht9 hW9 => ⟨⟨_, up163, rfl, ⟨rfl, hz167, hz168⟩, by rw [ht9]; exact hP, hD⟩, hS.F ht9⟩) hS.2.2 dX12_parents_361
  · refine lv_topi (fun x169 e170 => ?_)
    obtain rfl : x169 = 18 := e170.trans ek
    have hpq171 : PQ gh nd n9 up up (fun j => False) := PQ.start
    refine lv_tableIn (tgt := 225) (off := 219) hx hb dX12_parents_6 (by decide) (by decide) (by decide) (by decide) ?_
    refine lv_aload_n hx hb dX12_parents_225 rfl (lv_at hl 0 rfl) ?_
    refine lv_aload_n hx hb dX12_parents_226 rfl (lv_at hl 0 rfl) ?_
    refine r_get (v := .ref (a 12)) hx hb hown hq hE hP 20 47 tFX12_20 (by decide) pw_1442 rfl dX12_parents_227 ?_
    refine lv_iload_n hx hb dX12_parents_230 rfl (lv_at hl 1 rfl) ?_
    refine r_ldi (f := (B 12)) (j := n9) hx hb hE hP 12 (ma_12 G a _) rfl (by omega) (by decide) dX12_parents_231 ?_
    refine lv_iload_n hx hb dX12_parents_232 rfl (lv_at hl 1 rfl) ?_
    have hP : va_P G.1 pCl (mW G h0 a F (updA (updA B 52 up) 52 up)) _ := hP
    have hD : va_D A (mW G h0 a F (updA (updA B 52 up) 52 up)) := mW_D hD
    refine pc_V0 (G := G) (As := [.int ((B 12) n9), .int (nI n9)]) (rest := []) hx hb hml hown hq hE hX pX0_al hP hD hS hA hl.1 (R_lies l G h0 a F (updA B 52 up) ((B 12) n9) (nI n9) nd up (sok.or (hsl 1 (by omega) (by omega)) (by decide)) (by omega)) (gV pw_1918 pw_1919 pw_1920 pw_1523 pw_1913) hV_X12_lies 0 9 rfl rfl rfl rfl (Nat.le_of_ble_eq_true rfl) dX12_parents_233 ⟨Nat.le_of_ble_eq_true rfl, Nat.le_of_ble_eq_true rfl⟩ ⟨Nat.le_of_ble_eq_true rfl, Nat.le_of_ble_eq_true rfl⟩ (fun v174 u172 H locs hw173 hP hD hS => ?_)
    obtain ⟨up175, rfl⟩ : ∃ z, z = u172 := ⟨_, rfl⟩
    obtain ⟨hw173, h176⟩ := hw173
    replace h176 : up175 = lieF up ((B 12) n9) (nI n9) := h176
    obtain rfl : v174 = none := hw173
    have hP : va_P G.1 pCl (mW G h0 a F (updA B 52 up175)) _ := hP
    have hD : va_D A (mW G h0 a F (updA B 52 up175)) := mW_D hD
    refine W.widen (k := 0) (n := 0) (Nat.le_of_ble_eq_true rfl) (Nat.le_of_ble_eq_true rfl) ?_
    refine W.eq (g2 := F0 m 236 ls []) rfl ?_
    have hpq177 : PQ gh nd n9 up up175 (fun j => (False ∨ (B 12 n9) = nI j)) := (PQ.lies hpq171 (hsl 1 (by omega) (by omega)) ⟨by decide, by decide⟩ (by omega) hnd h176)
    refine lv_aload_n hx hb dX12_parents_236 rfl (lv_at hl 0 rfl) ?_
    refine lv_aload_n hx hb dX12_parents_237 rfl (lv_at hl 0 rfl) ?_
    refine r_get (v := .ref (a 13)) hx hb hown hq hE hP 21 50 tFX12_21 (by decide) pw_1443 rfl dX12_parents_238 ?_
    refine lv_iload_n hx hb dX12_parents_241 rfl (lv_at hl 1 rfl) ?_
    refine r_ldi (f := (B 13)) (j := n9) hx hb hE hP 13 (ma_13 G a _) rfl (by omega) (by decide) dX12_parents_242 ?_
    refine lv_iload_n hx hb dX12_parents_243 rfl (lv_at hl 1 rfl) ?_
    have hP : va_P G.1 pCl (mW G h0 a F (updA (updA B 52 up175) 52 up175)) _ := hP
    have hD : va_D A (mW G h0 a F (updA (updA B 52 up175) 52 up175)) := mW_D hD
    refine pc_V0 (G := G) (As := [.int ((B 13) n9), .int (nI n9)]) (rest := []) hx hb hml hown hq hE hX pX0_al hP hD hS hA hl.1 (R_lies l G h0 a F (updA B 52 up175) ((B 13) n9) (nI n9) nd up175 (sok.or (hsl 2 (by omega) (by omega)) (by decide)) (by omega)) (gV pw_1918 pw_1919 pw_1920 pw_1523 pw_1913) hV_X12_lies 0 9 rfl rfl rfl rfl (Nat.le_of_ble_eq_true rfl) dX12_parents_244 ⟨Nat.le_of_ble_eq_true rfl, Nat.le_of_ble_eq_true rfl⟩ ⟨Nat.le_of_ble_eq_true rfl, Nat.le_of_ble_eq_true rfl⟩ (fun v180 u178 H locs hw179 hP hD hS => ?_)
    obtain ⟨up181, rfl⟩ : ∃ z, z = u178 := ⟨_, rfl⟩
    obtain ⟨hw179, h182⟩ := hw179
    replace h182 : up181 = lieF up175 ((B 13) n9) (nI n9) := h182
    obtain rfl : v180 = none := hw179
    have hP : va_P G.1 pCl (mW G h0 a F (updA B 52 up181)) _ := hP
    have hD : va_D A (mW G h0 a F (updA B 52 up181)) := mW_D hD
    refine W.widen (k := 0) (n := 0) (Nat.le_of_ble_eq_true rfl) (Nat.le_of_ble_eq_true rfl) ?_
    refine W.eq (g2 := F0 m 247 ls []) rfl ?_
    have hpq183 : PQ gh nd n9 up up181 (fun j => ((False ∨ (B 12 n9) = nI j) ∨ (B 13 n9) = nI j)) := (PQ.lies hpq177 (hsl 2 (by omega) (by omega)) ⟨by decide, by decide⟩ (by omega) hnd h182)
    refine lv_goto (tgt := 361) hx hb dX12_parents_247 (by decide) ?_
    have hDD184 : ∀ j : Nat, pch B n9 j → ((False ∨ (B 12 n9) = nI j) ∨ (B 13 n9) = nI j) := (fun j ⟨k2, s, e, k4, s1, s4, hc⟩ => by have e2 : 18 = k2 := (nI_eq (by omega) (by omega)).mp (ek.symm.trans e); subst e2; exact ch4 (p := fun s => chs (cdOf 18 s) (B (11 + s) n9) (B 16) j → ((False ∨ (B 12 n9) = nI j) ∨ (B 13 n9) = nI j)) (fun hc => hc.2.elim (fun z => Or.inl (Or.inr z.2)) (fun z => absurd z.1 (by decide))) (fun hc => hc.2.elim (fun z => Or.inr z.2) (fun z => absurd z.1 (by decide))) (fun hc => absurd hc.1 (by decide)) (fun hc => absurd hc.1 (by decide)) s s1 s4 hc)
    have hz185 : ∀ j : Nat, j < 20000 → pch B n9 j → up181 j = nI n9 := (fun j hj q => hpq183.1 j hj (hDD184 j q))
    have hz186 : ∀ j : Nat, j < nd → ¬ gh 0 j / 8 = n9 → up181 j = up j := hpq183.2
    have hP : va_P G.1 pCl (mW G h0 a F (updA B 52 up181)) _ := hP
    have hD : va_D A (mW G h0 a F (updA B 52 up181)) := mW_D hD
    exact W.vret hx hb hr (fun t9 ht9 hW9 => ⟨⟨_, up181, rfl, ⟨rfl, hz185, hz186⟩, by rw [ht9]; exact hP, hD⟩, hS.F ht9⟩) hS.2.2 dX12_parents_361
  · refine lv_topi (fun x187 e188 => ?_)
    obtain rfl : x187 = 19 := e188.trans ek
    have hpq189 : PQ gh nd n9 up up (fun j => False) := PQ.start
    refine lv_tableIn (tgt := 225) (off := 219) hx hb dX12_parents_6 (by decide) (by decide) (by decide) (by decide) ?_
    refine lv_aload_n hx hb dX12_parents_225 rfl (lv_at hl 0 rfl) ?_
    refine lv_aload_n hx hb dX12_parents_226 rfl (lv_at hl 0 rfl) ?_
    refine r_get (v := .ref (a 12)) hx hb hown hq hE hP 20 47 tFX12_20 (by decide) pw_1442 rfl dX12_parents_227 ?_
    refine lv_iload_n hx hb dX12_parents_230 rfl (lv_at hl 1 rfl) ?_
    refine r_ldi (f := (B 12)) (j := n9) hx hb hE hP 12 (ma_12 G a _) rfl (by omega) (by decide) dX12_parents_231 ?_
    refine lv_iload_n hx hb dX12_parents_232 rfl (lv_at hl 1 rfl) ?_
    have hP : va_P G.1 pCl (mW G h0 a F (updA (updA B 52 up) 52 up)) _ := hP
    have hD : va_D A (mW G h0 a F (updA (updA B 52 up) 52 up)) := mW_D hD
    refine pc_V0 (G := G) (As := [.int ((B 12) n9), .int (nI n9)]) (rest := []) hx hb hml hown hq hE hX pX0_al hP hD hS hA hl.1 (R_lies l G h0 a F (updA B 52 up) ((B 12) n9) (nI n9) nd up (sok.or (hsl 1 (by omega) (by omega)) (by decide)) (by omega)) (gV pw_1918 pw_1919 pw_1920 pw_1523 pw_1913) hV_X12_lies 0 9 rfl rfl rfl rfl (Nat.le_of_ble_eq_true rfl) dX12_parents_233 ⟨Nat.le_of_ble_eq_true rfl, Nat.le_of_ble_eq_true rfl⟩ ⟨Nat.le_of_ble_eq_true rfl, Nat.le_of_ble_eq_true rfl⟩ (fun v192 u190 H locs hw191 hP hD hS => ?_)
    obtain ⟨up193, rfl⟩ : ∃ z, z = u190 := ⟨_, rfl⟩
    obtain ⟨hw191, h194⟩ := hw191
    replace h194 : up193 = lieF up ((B 12) n9) (nI n9) := h194
    obtain rfl : v192 = none := hw191
    have hP : va_P G.1 pCl (mW G h0 a F (updA B 52 up193)) _ := hP
    have hD : va_D A (mW G h0 a F (updA B 52 up193)) := mW_D hD
    refine W.widen (k := 0) (n := 0) (Nat.le_of_ble_eq_true rfl) (Nat.le_of_ble_eq_true rfl) ?_
    refine W.eq (g2 := F0 m 236 ls []) rfl ?_
    have hpq195 : PQ gh nd n9 up up193 (fun j => (False ∨ (B 12 n9) = nI j)) := (PQ.lies hpq189 (hsl 1 (by omega) (by omega)) ⟨by decide, by decide⟩ (by omega) hnd h194)
    refine lv_aload_n hx hb dX12_parents_236 rfl (lv_at hl 0 rfl) ?_
    refine lv_aload_n hx hb dX12_parents_237 rfl (lv_at hl 0 rfl) ?_
    refine r_get (v := .ref (a 13)) hx hb hown hq hE hP 21 50 tFX12_21 (by decide) pw_1443 rfl dX12_parents_238 ?_
    refine lv_iload_n hx hb dX12_parents_241 rfl (lv_at hl 1 rfl) ?_
    refine r_ldi (f := (B 13)) (j := n9) hx hb hE hP 13 (ma_13 G a _) rfl (by omega) (by decide) dX12_parents_242 ?_
    refine lv_iload_n hx hb dX12_parents_243 rfl (lv_at hl 1 rfl) ?_
    have hP : va_P G.1 pCl (mW G h0 a F (updA (updA B 52 up193) 52 up193)) _ := hP
    have hD : va_D A (mW G h0 a F (updA (updA B 52 up193) 52 up193)) := mW_D hD
    refine pc_V0 (G := G) (As := [.int ((B 13) n9), .int (nI n9)]) (rest := []) hx hb hml hown hq hE hX pX0_al hP hD hS hA hl.1 (R_lies l G h0 a F (updA B 52 up193) ((B 13) n9) (nI n9) nd up193 (sok.or (hsl 2 (by omega) (by omega)) (by decide)) (by omega)) (gV pw_1918 pw_1919 pw_1920 pw_1523 pw_1913) hV_X12_lies 0 9 rfl rfl rfl rfl (Nat.le_of_ble_eq_true rfl) dX12_parents_244 ⟨Nat.le_of_ble_eq_true rfl, Nat.le_of_ble_eq_true rfl⟩ ⟨Nat.le_of_ble_eq_true rfl, Nat.le_of_ble_eq_true rfl⟩ (fun v198 u196 H locs hw197 hP hD hS => ?_)
    obtain ⟨up199, rfl⟩ : ∃ z, z = u196 := ⟨_, rfl⟩
    obtain ⟨hw197, h200⟩ := hw197
    replace h200 : up199 = lieF up193 ((B 13) n9) (nI n9) := h200
    obtain rfl : v198 = none := hw197
    have hP : va_P G.1 pCl (mW G h0 a F (updA B 52 up199)) _ := hP
    have hD : va_D A (mW G h0 a F (updA B 52 up199)) := mW_D hD
    refine W.widen (k := 0) (n := 0) (Nat.le_of_ble_eq_true rfl) (Nat.le_of_ble_eq_true rfl) ?_
    refine W.eq (g2 := F0 m 247 ls []) rfl ?_
    have hpq201 : PQ gh nd n9 up up199 (fun j => ((False ∨ (B 12 n9) = nI j) ∨ (B 13 n9) = nI j)) := (PQ.lies hpq195 (hsl 2 (by omega) (by omega)) ⟨by decide, by decide⟩ (by omega) hnd h200)
    refine lv_goto (tgt := 361) hx hb dX12_parents_247 (by decide) ?_
    have hDD202 : ∀ j : Nat, pch B n9 j → ((False ∨ (B 12 n9) = nI j) ∨ (B 13 n9) = nI j) := (fun j ⟨k2, s, e, k4, s1, s4, hc⟩ => by have e2 : 19 = k2 := (nI_eq (by omega) (by omega)).mp (ek.symm.trans e); subst e2; exact ch4 (p := fun s => chs (cdOf 19 s) (B (11 + s) n9) (B 16) j → ((False ∨ (B 12 n9) = nI j) ∨ (B 13 n9) = nI j)) (fun hc => hc.2.elim (fun z => Or.inl (Or.inr z.2)) (fun z => absurd z.1 (by decide))) (fun hc => hc.2.elim (fun z => Or.inr z.2) (fun z => absurd z.1 (by decide))) (fun hc => absurd hc.1 (by decide)) (fun hc => absurd hc.1 (by decide)) s s1 s4 hc)
    have hz203 : ∀ j : Nat, j < 20000 → pch B n9 j → up199 j = nI n9 := (fun j hj q => hpq201.1 j hj (hDD202 j q))
    have hz204 : ∀ j : Nat, j < nd → ¬ gh 0 j / 8 = n9 → up199 j = up j := hpq201.2
    have hP : va_P G.1 pCl (mW G h0 a F (updA B 52 up199)) _ := hP
    have hD : va_D A (mW G h0 a F (updA B 52 up199)) := mW_D hD
    exact W.vret hx hb hr (fun t9 ht9 hW9 => ⟨⟨_, up199, rfl, ⟨rfl, hz203, hz204⟩, by rw [ht9]; exact hP, hD⟩, hS.F ht9⟩) hS.2.2 dX12_parents_361
  · refine lv_topi (fun x205 e206 => ?_)
    obtain rfl : x205 = 20 := e206.trans ek
    have hpq207 : PQ gh nd n9 up up (fun j => False) := PQ.start
    refine lv_tableIn (tgt := 225) (off := 219) hx hb dX12_parents_6 (by decide) (by decide) (by decide) (by decide) ?_
    refine lv_aload_n hx hb dX12_parents_225 rfl (lv_at hl 0 rfl) ?_
    refine lv_aload_n hx hb dX12_parents_226 rfl (lv_at hl 0 rfl) ?_
    refine r_get (v := .ref (a 12)) hx hb hown hq hE hP 20 47 tFX12_20 (by decide) pw_1442 rfl dX12_parents_227 ?_
    refine lv_iload_n hx hb dX12_parents_230 rfl (lv_at hl 1 rfl) ?_
    refine r_ldi (f := (B 12)) (j := n9) hx hb hE hP 12 (ma_12 G a _) rfl (by omega) (by decide) dX12_parents_231 ?_
    refine lv_iload_n hx hb dX12_parents_232 rfl (lv_at hl 1 rfl) ?_
    have hP : va_P G.1 pCl (mW G h0 a F (updA (updA B 52 up) 52 up)) _ := hP
    have hD : va_D A (mW G h0 a F (updA (updA B 52 up) 52 up)) := mW_D hD
    refine pc_V0 (G := G) (As := [.int ((B 12) n9), .int (nI n9)]) (rest := []) hx hb hml hown hq hE hX pX0_al hP hD hS hA hl.1 (R_lies l G h0 a F (updA B 52 up) ((B 12) n9) (nI n9) nd up (sok.or (hsl 1 (by omega) (by omega)) (by decide)) (by omega)) (gV pw_1918 pw_1919 pw_1920 pw_1523 pw_1913) hV_X12_lies 0 9 rfl rfl rfl rfl (Nat.le_of_ble_eq_true rfl) dX12_parents_233 ⟨Nat.le_of_ble_eq_true rfl, Nat.le_of_ble_eq_true rfl⟩ ⟨Nat.le_of_ble_eq_true rfl, Nat.le_of_ble_eq_true rfl⟩ (fun v210 u208 H locs hw209 hP hD hS => ?_)
    obtain ⟨up211, rfl⟩ : ∃ z, z = u208 := ⟨_, rfl⟩
    obtain ⟨hw209, h212⟩ := hw209
    replace h212 : up211 = lieF up ((B 12) n9) (nI n9) := h212
    obtain rfl : v210 = none := hw209
    have hP : va_P G.1 pCl (mW G h0 a F (updA B 52 up211)) _ := hP
    have hD : va_D A (mW G h0 a F (updA B 52 up211)) := mW_D hD
    refine W.widen (k := 0) (n := 0) (Nat.le_of_ble_eq_true rfl) (Nat.le_of_ble_eq_true rfl) ?_
    refine W.eq (g2 := F0 m 236 ls []) rfl ?_
    have hpq213 : PQ gh nd n9 up up211 (fun j => (False ∨ (B 12 n9) = nI j)) := (PQ.lies hpq207 (hsl 1 (by omega) (by omega)) ⟨by decide, by decide⟩ (by omega) hnd h212)
    refine lv_aload_n hx hb dX12_parents_236 rfl (lv_at hl 0 rfl) ?_
    refine lv_aload_n hx hb dX12_parents_237 rfl (lv_at hl 0 rfl) ?_
    refine r_get (v := .ref (a 13)) hx hb hown hq hE hP 21 50 tFX12_21 (by decide) pw_1443 rfl dX12_parents_238 ?_
    refine lv_iload_n hx hb dX12_parents_241 rfl (lv_at hl 1 rfl) ?_
    refine r_ldi (f := (B 13)) (j := n9) hx hb hE hP 13 (ma_13 G a _) rfl (by omega) (by decide) dX12_parents_242 ?_
    refine lv_iload_n hx hb dX12_parents_243 rfl (lv_at hl 1 rfl) ?_
    have hP : va_P G.1 pCl (mW G h0 a F (updA (updA B 52 up211) 52 up211)) _ := hP
    have hD : va_D A (mW G h0 a F (updA (updA B 52 up211) 52 up211)) := mW_D hD
    refine pc_V0 (G := G) (As := [.int ((B 13) n9), .int (nI n9)]) (rest := []) hx hb hml hown hq hE hX pX0_al hP hD hS hA hl.1 (R_lies l G h0 a F (updA B 52 up211) ((B 13) n9) (nI n9) nd up211 (sok.or (hsl 2 (by omega) (by omega)) (by decide)) (by omega)) (gV pw_1918 pw_1919 pw_1920 pw_1523 pw_1913) hV_X12_lies 0 9 rfl rfl rfl rfl (Nat.le_of_ble_eq_true rfl) dX12_parents_244 ⟨Nat.le_of_ble_eq_true rfl, Nat.le_of_ble_eq_true rfl⟩ ⟨Nat.le_of_ble_eq_true rfl, Nat.le_of_ble_eq_true rfl⟩ (fun v216 u214 H locs hw215 hP hD hS => ?_)
    obtain ⟨up217, rfl⟩ : ∃ z, z = u214 := ⟨_, rfl⟩
    obtain ⟨hw215, h218⟩ := hw215
    replace h218 : up217 = lieF up211 ((B 13) n9) (nI n9) := h218
    obtain rfl : v216 = none := hw215
    have hP : va_P G.1 pCl (mW G h0 a F (updA B 52 up217)) _ := hP
    have hD : va_D A (mW G h0 a F (updA B 52 up217)) := mW_D hD
    refine W.widen (k := 0) (n := 0) (Nat.le_of_ble_eq_true rfl) (Nat.le_of_ble_eq_true rfl) ?_
    refine W.eq (g2 := F0 m 247 ls []) rfl ?_
    have hpq219 : PQ gh nd n9 up up217 (fun j => ((False ∨ (B 12 n9) = nI j) ∨ (B 13 n9) = nI j)) := (PQ.lies hpq213 (hsl 2 (by omega) (by omega)) ⟨by decide, by decide⟩ (by omega) hnd h218)
    refine lv_goto (tgt := 361) hx hb dX12_parents_247 (by decide) ?_
    have hDD220 : ∀ j : Nat, pch B n9 j → ((False ∨ (B 12 n9) = nI j) ∨ (B 13 n9) = nI j) := (fun j ⟨k2, s, e, k4, s1, s4, hc⟩ => by have e2 : 20 = k2 := (nI_eq (by omega) (by omega)).mp (ek.symm.trans e); subst e2; exact ch4 (p := fun s => chs (cdOf 20 s) (B (11 + s) n9) (B 16) j → ((False ∨ (B 12 n9) = nI j) ∨ (B 13 n9) = nI j)) (fun hc => hc.2.elim (fun z => Or.inl (Or.inr z.2)) (fun z => absurd z.1 (by decide))) (fun hc => hc.2.elim (fun z => Or.inr z.2) (fun z => absurd z.1 (by decide))) (fun hc => absurd hc.1 (by decide)) (fun hc => absurd hc.1 (by decide)) s s1 s4 hc)
    have hz221 : ∀ j : Nat, j < 20000 → pch B n9 j → up217 j = nI n9 := (fun j hj q => hpq219.1 j hj (hDD220 j q))
    have hz222 : ∀ j : Nat, j < nd → ¬ gh 0 j / 8 = n9 → up217 j = up j := hpq219.2
    have hP : va_P G.1 pCl (mW G h0 a F (updA B 52 up217)) _ := hP
    have hD : va_D A (mW G h0 a F (updA B 52 up217)) := mW_D hD
    exact W.vret hx hb hr (fun t9 ht9 hW9 => ⟨⟨_, up217, rfl, ⟨rfl, hz221, hz222⟩, by rw [ht9]; exact hP, hD⟩, hS.F ht9⟩) hS.2.2 dX12_parents_361
  · refine lv_topi (fun x223 e224 => ?_)
    obtain rfl : x223 = 21 := e224.trans ek
    have hpq225 : PQ gh nd n9 up up (fun j => False) := PQ.start
    refine lv_tableIn (tgt := 211) (off := 205) hx hb dX12_parents_6 (by decide) (by decide) (by decide) (by decide) ?_
    refine lv_aload_n hx hb dX12_parents_211 rfl (lv_at hl 0 rfl) ?_
    refine lv_aload_n hx hb dX12_parents_212 rfl (lv_at hl 0 rfl) ?_
    refine r_get (v := .ref (a 12)) hx hb hown hq hE hP 20 47 tFX12_20 (by decide) pw_1442 rfl dX12_parents_213 ?_
    refine lv_iload_n hx hb dX12_parents_216 rfl (lv_at hl 1 rfl) ?_
    refine r_ldi (f := (B 12)) (j := n9) hx hb hE hP 12 (ma_12 G a _) rfl (by omega) (by decide) dX12_parents_217 ?_
    refine lv_iload_n hx hb dX12_parents_218 rfl (lv_at hl 1 rfl) ?_
    have hP : va_P G.1 pCl (mW G h0 a F (updA (updA B 52 up) 52 up)) _ := hP
    have hD : va_D A (mW G h0 a F (updA (updA B 52 up) 52 up)) := mW_D hD
    refine pc_V0 (G := G) (As := [.int ((B 12) n9), .int (nI n9)]) (rest := []) hx hb hml hown hq hE hX pX0_al hP hD hS hA hl.1 (R_lies l G h0 a F (updA B 52 up) ((B 12) n9) (nI n9) nd up (sok.or (hsl 1 (by omega) (by omega)) (by decide)) (by omega)) (gV pw_1918 pw_1919 pw_1920 pw_1523 pw_1913) hV_X12_lies 0 9 rfl rfl rfl rfl (Nat.le_of_ble_eq_true rfl) dX12_parents_219 ⟨Nat.le_of_ble_eq_true rfl, Nat.le_of_ble_eq_true rfl⟩ ⟨Nat.le_of_ble_eq_true rfl, Nat.le_of_ble_eq_true rfl⟩ (fun v228 u226 H locs hw227 hP hD hS => ?_)
    obtain ⟨up229, rfl⟩ : ∃ z, z = u226 := ⟨_, rfl⟩
    obtain ⟨hw227, h230⟩ := hw227
    replace h230 : up229 = lieF up ((B 12) n9) (nI n9) := h230
    obtain rfl : v228 = none := hw227
    have hP : va_P G.1 pCl (mW G h0 a F (updA B 52 up229)) _ := hP
    have hD : va_D A (mW G h0 a F (updA B 52 up229)) := mW_D hD
    refine W.widen (k := 0) (n := 0) (Nat.le_of_ble_eq_true rfl) (Nat.le_of_ble_eq_true rfl) ?_
    refine W.eq (g2 := F0 m 222 ls []) rfl ?_
    have hpq231 : PQ gh nd n9 up up229 (fun j => (False ∨ (B 12 n9) = nI j)) := (PQ.lies hpq225 (hsl 1 (by omega) (by omega)) ⟨by decide, by decide⟩ (by omega) hnd h230)
    refine lv_goto (tgt := 361) hx hb dX12_parents_222 (by decide) ?_
    have hDD232 : ∀ j : Nat, pch B n9 j → (False ∨ (B 12 n9) = nI j) := (fun j ⟨k2, s, e, k4, s1, s4, hc⟩ => by have e2 : 21 = k2 := (nI_eq (by omega) (by omega)).mp (ek.symm.trans e); subst e2; exact ch4 (p := fun s => chs (cdOf 21 s) (B (11 + s) n9) (B 16) j → (False ∨ (B 12 n9) = nI j)) (fun hc => hc.2.elim (fun z => Or.inr z.2) (fun z => absurd z.1 (by decide))) (fun hc => absurd hc.1 (by decide)) (fun hc => absurd hc.1 (by decide)) (fun hc => absurd hc.1 (by decide)) s s1 s4 hc)
    have hz233 : ∀ j : Nat, j < 20000 → pch B n9 j → up229 j = nI n9 := (fun j hj q => hpq231.1 j hj (hDD232 j q))
    have hz234 : ∀ j : Nat, j < nd → ¬ gh 0 j / 8 = n9 → up229 j = up j := hpq231.2
    have hP : va_P G.1 pCl (mW G h0 a F (updA B 52 up229)) _ := hP
    have hD : va_D A (mW G h0 a F (updA B 52 up229)) := mW_D hD
    exact W.vret hx hb hr (fun t9 ht9 hW9 => ⟨⟨_, up229, rfl, ⟨rfl, hz233, hz234⟩, by rw [ht9]; exact hP, hD⟩, hS.F ht9⟩) hS.2.2 dX12_parents_361
  · refine lv_topi (fun x235 e236 => ?_)
    obtain rfl : x235 = 22 := e236.trans ek
    have hpq237 : PQ gh nd n9 up up (fun j => False) := PQ.start
    refine lv_tableIn (tgt := 211) (off := 205) hx hb dX12_parents_6 (by decide) (by decide) (by decide) (by decide) ?_
    refine lv_aload_n hx hb dX12_parents_211 rfl (lv_at hl 0 rfl) ?_
    refine lv_aload_n hx hb dX12_parents_212 rfl (lv_at hl 0 rfl) ?_
    refine r_get (v := .ref (a 12)) hx hb hown hq hE hP 20 47 tFX12_20 (by decide) pw_1442 rfl dX12_parents_213 ?_
    refine lv_iload_n hx hb dX12_parents_216 rfl (lv_at hl 1 rfl) ?_
    refine r_ldi (f := (B 12)) (j := n9) hx hb hE hP 12 (ma_12 G a _) rfl (by omega) (by decide) dX12_parents_217 ?_
    refine lv_iload_n hx hb dX12_parents_218 rfl (lv_at hl 1 rfl) ?_
    have hP : va_P G.1 pCl (mW G h0 a F (updA (updA B 52 up) 52 up)) _ := hP
    have hD : va_D A (mW G h0 a F (updA (updA B 52 up) 52 up)) := mW_D hD
    refine pc_V0 (G := G) (As := [.int ((B 12) n9), .int (nI n9)]) (rest := []) hx hb hml hown hq hE hX pX0_al hP hD hS hA hl.1 (R_lies l G h0 a F (updA B 52 up) ((B 12) n9) (nI n9) nd up (sok.or (hsl 1 (by omega) (by omega)) (by decide)) (by omega)) (gV pw_1918 pw_1919 pw_1920 pw_1523 pw_1913) hV_X12_lies 0 9 rfl rfl rfl rfl (Nat.le_of_ble_eq_true rfl) dX12_parents_219 ⟨Nat.le_of_ble_eq_true rfl, Nat.le_of_ble_eq_true rfl⟩ ⟨Nat.le_of_ble_eq_true rfl, Nat.le_of_ble_eq_true rfl⟩ (fun v240 u238 H locs hw239 hP hD hS => ?_)
    obtain ⟨up241, rfl⟩ : ∃ z, z = u238 := ⟨_, rfl⟩
    obtain ⟨hw239, h242⟩ := hw239
    replace h242 : up241 = lieF up ((B 12) n9) (nI n9) := h242
    obtain rfl : v240 = none := hw239
    have hP : va_P G.1 pCl (mW G h0 a F (updA B 52 up241)) _ := hP
    have hD : va_D A (mW G h0 a F (updA B 52 up241)) := mW_D hD
    refine W.widen (k := 0) (n := 0) (Nat.le_of_ble_eq_true rfl) (Nat.le_of_ble_eq_true rfl) ?_
    refine W.eq (g2 := F0 m 222 ls []) rfl ?_
    have hpq243 : PQ gh nd n9 up up241 (fun j => (False ∨ (B 12 n9) = nI j)) := (PQ.lies hpq237 (hsl 1 (by omega) (by omega)) ⟨by decide, by decide⟩ (by omega) hnd h242)
    refine lv_goto (tgt := 361) hx hb dX12_parents_222 (by decide) ?_
    have hDD244 : ∀ j : Nat, pch B n9 j → (False ∨ (B 12 n9) = nI j) := (fun j ⟨k2, s, e, k4, s1, s4, hc⟩ => by have e2 : 22 = k2 := (nI_eq (by omega) (by omega)).mp (ek.symm.trans e); subst e2; exact ch4 (p := fun s => chs (cdOf 22 s) (B (11 + s) n9) (B 16) j → (False ∨ (B 12 n9) = nI j)) (fun hc => hc.2.elim (fun z => Or.inr z.2) (fun z => absurd z.1 (by decide))) (fun hc => absurd hc.1 (by decide)) (fun hc => absurd hc.1 (by decide)) (fun hc => absurd hc.1 (by decide)) s s1 s4 hc)
    have hz245 : ∀ j : Nat, j < 20000 → pch B n9 j → up241 j = nI n9 := (fun j hj q => hpq243.1 j hj (hDD244 j q))
    have hz246 : ∀ j : Nat, j < nd → ¬ gh 0 j / 8 = n9 → up241 j = up j := hpq243.2
    have hP : va_P G.1 pCl (mW G h0 a F (updA B 52 up241)) _ := hP
    have hD : va_D A (mW G h0 a F (updA B 52 up241)) := mW_D hD
    exact W.vret hx hb hr (fun t9 ht9 hW9 => ⟨⟨_, up241, rfl, ⟨rfl, hz245, hz246⟩, by rw [ht9]; exact hP, hD⟩, hS.F ht9⟩) hS.2.2 dX12_parents_361
  · refine lv_topi (fun x247 e248 => ?_)
    obtain rfl : x247 = 23 := e248.trans ek
    have hpq249 : PQ gh nd n9 up up (fun j => False) := PQ.start
    refine lv_tableIn (tgt := 250) (off := 244) hx hb dX12_parents_6 (by decide) (by decide) (by decide) (by decide) ?_
    refine lv_aload_n hx hb dX12_parents_250 rfl (lv_at hl 0 rfl) ?_
    refine lv_aload_n hx hb dX12_parents_251 rfl (lv_at hl 0 rfl) ?_
    refine r_get (v := .ref (a 12)) hx hb hown hq hE hP 20 47 tFX12_20 (by decide) pw_1442 rfl dX12_parents_252 ?_
    refine lv_iload_n hx hb dX12_parents_255 rfl (lv_at hl 1 rfl) ?_
    refine r_ldi (f := (B 12)) (j := n9) hx hb hE hP 12 (ma_12 G a _) rfl (by omega) (by decide) dX12_parents_256 ?_
    refine lv_iload_n hx hb dX12_parents_257 rfl (lv_at hl 1 rfl) ?_
    have hP : va_P G.1 pCl (mW G h0 a F (updA (updA B 52 up) 52 up)) _ := hP
    have hD : va_D A (mW G h0 a F (updA (updA B 52 up) 52 up)) := mW_D hD
    refine pc_V0 (G := G) (As := [.int ((B 12) n9), .int (nI n9)]) (rest := []) hx hb hml hown hq hE hX pX0_al hP hD hS hA hl.1 (R_lies l G h0 a F (updA B 52 up) ((B 12) n9) (nI n9) nd up (sok.or (hsl 1 (by omega) (by omega)) (by decide)) (by omega)) (gV pw_1918 pw_1919 pw_1920 pw_1523 pw_1913) hV_X12_lies 0 9 rfl rfl rfl rfl (Nat.le_of_ble_eq_true rfl) dX12_parents_258 ⟨Nat.le_of_ble_eq_true rfl, Nat.le_of_ble_eq_true rfl⟩ ⟨Nat.le_of_ble_eq_true rfl, Nat.le_of_ble_eq_true rfl⟩ (fun v252 u250 H locs hw251 hP hD hS => ?_)
    obtain ⟨up253, rfl⟩ : ∃ z, z = u250 := ⟨_, rfl⟩
    obtain ⟨hw251, h254⟩ := hw251
    replace h254 : up253 = lieF up ((B 12) n9) (nI n9) := h254
    obtain rfl : v252 = none := hw251
    have hP : va_P G.1 pCl (mW G h0 a F (updA B 52 up253)) _ := hP
    have hD : va_D A (mW G h0 a F (updA B 52 up253)) := mW_D hD
    refine W.widen (k := 0) (n := 0) (Nat.le_of_ble_eq_true rfl) (Nat.le_of_ble_eq_true rfl) ?_
    refine W.eq (g2 := F0 m 261 ls []) rfl ?_
    have hpq255 : PQ gh nd n9 up up253 (fun j => (False ∨ (B 12 n9) = nI j)) := (PQ.lies hpq249 (hsl 1 (by omega) (by omega)) ⟨by decide, by decide⟩ (by omega) hnd h254)
    refine lv_aload_n hx hb dX12_parents_261 rfl (lv_at hl 0 rfl) ?_
    refine lv_aload_n hx hb dX12_parents_262 rfl (lv_at hl 0 rfl) ?_
    refine r_get (v := .ref (a 13)) hx hb hown hq hE hP 21 50 tFX12_21 (by decide) pw_1443 rfl dX12_parents_263 ?_
    refine lv_iload_n hx hb dX12_parents_266 rfl (lv_at hl 1 rfl) ?_
    refine r_ldi (f := (B 13)) (j := n9) hx hb hE hP 13 (ma_13 G a _) rfl (by omega) (by decide) dX12_parents_267 ?_
    refine lv_iload_n hx hb dX12_parents_268 rfl (lv_at hl 1 rfl) ?_
    have hP : va_P G.1 pCl (mW G h0 a F (updA (updA B 52 up253) 52 up253)) _ := hP
    have hD : va_D A (mW G h0 a F (updA (updA B 52 up253) 52 up253)) := mW_D hD
    refine pc_V0 (G := G) (As := [.int ((B 13) n9), .int (nI n9)]) (rest := []) hx hb hml hown hq hE hX pX0_al hP hD hS hA hl.1 (R_lies l G h0 a F (updA B 52 up253) ((B 13) n9) (nI n9) nd up253 (sok.or (hsl 2 (by omega) (by omega)) (by decide)) (by omega)) (gV pw_1918 pw_1919 pw_1920 pw_1523 pw_1913) hV_X12_lies 0 9 rfl rfl rfl rfl (Nat.le_of_ble_eq_true rfl) dX12_parents_269 ⟨Nat.le_of_ble_eq_true rfl, Nat.le_of_ble_eq_true rfl⟩ ⟨Nat.le_of_ble_eq_true rfl, Nat.le_of_ble_eq_true rfl⟩ (fun v258 u256 H locs hw257 hP hD hS => ?_)
    obtain ⟨up259, rfl⟩ : ∃ z, z = u256 := ⟨_, rfl⟩
    obtain ⟨hw257, h260⟩ := hw257
    replace h260 : up259 = lieF up253 ((B 13) n9) (nI n9) := h260
    obtain rfl : v258 = none := hw257
    have hP : va_P G.1 pCl (mW G h0 a F (updA B 52 up259)) _ := hP
    have hD : va_D A (mW G h0 a F (updA B 52 up259)) := mW_D hD
    refine W.widen (k := 0) (n := 0) (Nat.le_of_ble_eq_true rfl) (Nat.le_of_ble_eq_true rfl) ?_
    refine W.eq (g2 := F0 m 272 ls []) rfl ?_
    have hpq261 : PQ gh nd n9 up up259 (fun j => ((False ∨ (B 12 n9) = nI j) ∨ (B 13 n9) = nI j)) := (PQ.lies hpq255 (hsl 2 (by omega) (by omega)) ⟨by decide, by decide⟩ (by omega) hnd h260)
    refine lv_aload_n hx hb dX12_parents_272 rfl (lv_at hl 0 rfl) ?_
    refine lv_aload_n hx hb dX12_parents_273 rfl (lv_at hl 0 rfl) ?_
    refine r_get (v := .ref (a 14)) hx hb hown hq hE hP 22 53 tFX12_22 (by decide) pw_1444 rfl dX12_parents_274 ?_
    refine lv_iload_n hx hb dX12_parents_277 rfl (lv_at hl 1 rfl) ?_
    refine r_ldi (f := (B 14)) (j := n9) hx hb hE hP 14 (ma_14 G a _) rfl (by omega) (by decide) dX12_parents_278 ?_
    refine lv_iload_n hx hb dX12_parents_279 rfl (lv_at hl 1 rfl) ?_
    have hP : va_P G.1 pCl (mW G h0 a F (updA (updA B 52 up259) 52 up259)) _ := hP
    have hD : va_D A (mW G h0 a F (updA (updA B 52 up259) 52 up259)) := mW_D hD
    refine pc_V0 (G := G) (As := [.int ((B 14) n9), .int (nI n9)]) (rest := []) hx hb hml hown hq hE hX pX0_al hP hD hS hA hl.1 (R_lies l G h0 a F (updA B 52 up259) ((B 14) n9) (nI n9) nd up259 (sok.or (hsl 3 (by omega) (by omega)) (by decide)) (by omega)) (gV pw_1918 pw_1919 pw_1920 pw_1523 pw_1913) hV_X12_lies 0 9 rfl rfl rfl rfl (Nat.le_of_ble_eq_true rfl) dX12_parents_280 ⟨Nat.le_of_ble_eq_true rfl, Nat.le_of_ble_eq_true rfl⟩ ⟨Nat.le_of_ble_eq_true rfl, Nat.le_of_ble_eq_true rfl⟩ (fun v264 u262 H locs hw263 hP hD hS => ?_)
    obtain ⟨up265, rfl⟩ : ∃ z, z = u262 := ⟨_, rfl⟩
    obtain ⟨hw263, h266⟩ := hw263
    replace h266 : up265 = lieF up259 ((B 14) n9) (nI n9) := h266
    obtain rfl : v264 = none := hw263
    have hP : va_P G.1 pCl (mW G h0 a F (updA B 52 up265)) _ := hP
    have hD : va_D A (mW G h0 a F (updA B 52 up265)) := mW_D hD
    refine W.widen (k := 0) (n := 0) (Nat.le_of_ble_eq_true rfl) (Nat.le_of_ble_eq_true rfl) ?_
    refine W.eq (g2 := F0 m 283 ls []) rfl ?_
    have hpq267 : PQ gh nd n9 up up265 (fun j => (((False ∨ (B 12 n9) = nI j) ∨ (B 13 n9) = nI j) ∨ (B 14 n9) = nI j)) := (PQ.lies hpq261 (hsl 3 (by omega) (by omega)) ⟨by decide, by decide⟩ (by omega) hnd h266)
    refine lv_aload_n hx hb dX12_parents_283 rfl (lv_at hl 0 rfl) ?_
    refine lv_aload_n hx hb dX12_parents_284 rfl (lv_at hl 0 rfl) ?_
    refine r_get (v := .ref (a 15)) hx hb hown hq hE hP 23 56 tFX12_23 (by decide) pw_1445 rfl dX12_parents_285 ?_
    refine lv_iload_n hx hb dX12_parents_288 rfl (lv_at hl 1 rfl) ?_
    refine r_ldi (f := (B 15)) (j := n9) hx hb hE hP 15 (ma_15 G a _) rfl (by omega) (by decide) dX12_parents_289 ?_
    refine lv_iload_n hx hb dX12_parents_290 rfl (lv_at hl 1 rfl) ?_
    have hP : va_P G.1 pCl (mW G h0 a F (updA (updA B 52 up265) 52 up265)) _ := hP
    have hD : va_D A (mW G h0 a F (updA (updA B 52 up265) 52 up265)) := mW_D hD
    refine pc_V0 (G := G) (As := [.int ((B 15) n9), .int (nI n9)]) (rest := []) hx hb hml hown hq hE hX pX0_al hP hD hS hA hl.1 (R_lies l G h0 a F (updA B 52 up265) ((B 15) n9) (nI n9) nd up265 (sok.no (hsl 4 (by omega) (by omega)) (by decide)) (by omega)) (gV pw_1918 pw_1919 pw_1920 pw_1523 pw_1913) hV_X12_lies 0 9 rfl rfl rfl rfl (Nat.le_of_ble_eq_true rfl) dX12_parents_291 ⟨Nat.le_of_ble_eq_true rfl, Nat.le_of_ble_eq_true rfl⟩ ⟨Nat.le_of_ble_eq_true rfl, Nat.le_of_ble_eq_true rfl⟩ (fun v270 u268 H locs hw269 hP hD hS => ?_)
    obtain ⟨up271, rfl⟩ : ∃ z, z = u268 := ⟨_, rfl⟩
    obtain ⟨hw269, h272⟩ := hw269
    replace h272 : up271 = lieF up265 ((B 15) n9) (nI n9) := h272
    obtain rfl : v270 = none := hw269
    have hP : va_P G.1 pCl (mW G h0 a F (updA B 52 up271)) _ := hP
    have hD : va_D A (mW G h0 a F (updA B 52 up271)) := mW_D hD
    refine W.widen (k := 0) (n := 0) (Nat.le_of_ble_eq_true rfl) (Nat.le_of_ble_eq_true rfl) ?_
    refine W.eq (g2 := F0 m 294 ls []) rfl ?_
    have hpq273 : PQ gh nd n9 up up271 (fun j => (((False ∨ (B 12 n9) = nI j) ∨ (B 13 n9) = nI j) ∨ (B 14 n9) = nI j)) := (PQ.none hpq267 ((hsl 4 (by omega) (by omega)).2.2.1 (by decide)) h272)
    refine lv_goto (tgt := 361) hx hb dX12_parents_294 (by decide) ?_
    have hDD274 : ∀ j : Nat, pch B n9 j → (((False ∨ (B 12 n9) = nI j) ∨ (B 13 n9) = nI j) ∨ (B 14 n9) = nI j) := (fun j ⟨k2, s, e, k4, s1, s4, hc⟩ => by have e2 : 23 = k2 := (nI_eq (by omega) (by omega)).mp (ek.symm.trans e); subst e2; exact ch4 (p := fun s => chs (cdOf 23 s) (B (11 + s) n9) (B 16) j → (((False ∨ (B 12 n9) = nI j) ∨ (B 13 n9) = nI j) ∨ (B 14 n9) = nI j)) (fun hc => hc.2.elim (fun z => Or.inl (Or.inl (Or.inr z.2))) (fun z => absurd z.1 (by decide))) (fun hc => hc.2.elim (fun z => Or.inl (Or.inr z.2)) (fun z => absurd z.1 (by decide))) (fun hc => hc.2.elim (fun z => Or.inr z.2) (fun z => absurd z.1 (by decide))) (fun hc => absurd hc.1 (by decide)) s s1 s4 hc)
    have hz275 : ∀ j : Nat, j < 20000 → pch B n9 j → up271 j = nI n9 := (fun j hj q => hpq273.1 j hj (hDD274 j q))
    have hz276 : ∀ j : Nat, j < nd → ¬ gh 0 j / 8 = n9 → up271 j = up j := hpq273.2
    have hP : va_P G.1 pCl (mW G h0 a F (updA B 52 up271)) _ := hP
    have hD : va_D A (mW G h0 a F (updA B 52 up271)) := mW_D hD
    exact W.vret hx hb hr (fun t9 ht9 hW9 => ⟨⟨_, up271, rfl, ⟨rfl, hz275, hz276⟩, by rw [ht9]; exact hP, hD⟩, hS.F ht9⟩) hS.2.2 dX12_parents_361
  · refine lv_topi (fun x277 e278 => ?_)
    obtain rfl : x277 = 24 := e278.trans ek
    have hpq279 : PQ gh nd n9 up up (fun j => False) := PQ.start
    refine lv_tableIn (tgt := 361) (off := 355) hx hb dX12_parents_6 (by decide) (by decide) (by decide) (by decide) ?_
    have hDD280 : ∀ j : Nat, pch B n9 j → False := (fun j ⟨k2, s, e, k4, s1, s4, hc⟩ => by have e2 : 24 = k2 := (nI_eq (by omega) (by omega)).mp (ek.symm.trans e); subst e2; exact ch4 (p := fun s => chs (cdOf 24 s) (B (11 + s) n9) (B 16) j → False) (fun hc => absurd hc.1 (by decide)) (fun hc => absurd hc.1 (by decide)) (fun hc => absurd hc.1 (by decide)) (fun hc => absurd hc.1 (by decide)) s s1 s4 hc)
    have hz281 : ∀ j : Nat, j < 20000 → pch B n9 j → up j = nI n9 := (fun j hj q => hpq279.1 j hj (hDD280 j q))
    have hz282 : ∀ j : Nat, j < nd → ¬ gh 0 j / 8 = n9 → up j = up j := hpq279.2
    have hP : va_P G.1 pCl (mW G h0 a F (updA B 52 up)) _ := hP
    have hD : va_D A (mW G h0 a F (updA B 52 up)) := mW_D hD
    exact W.vret hx hb hr (fun t9 ht9 hW9 => ⟨⟨_, up, rfl, ⟨rfl, hz281, hz282⟩, by rw [ht9]; exact hP, hD⟩, hS.F ht9⟩) hS.2.2 dX12_parents_361
  · refine lv_topi (fun x283 e284 => ?_)
    obtain rfl : x283 = 25 := e284.trans ek
    have hpq285 : PQ gh nd n9 up up (fun j => False) := PQ.start
    refine lv_tableIn (tgt := 361) (off := 355) hx hb dX12_parents_6 (by decide) (by decide) (by decide) (by decide) ?_
    have hDD286 : ∀ j : Nat, pch B n9 j → False := (fun j ⟨k2, s, e, k4, s1, s4, hc⟩ => by have e2 : 25 = k2 := (nI_eq (by omega) (by omega)).mp (ek.symm.trans e); subst e2; exact ch4 (p := fun s => chs (cdOf 25 s) (B (11 + s) n9) (B 16) j → False) (fun hc => absurd hc.1 (by decide)) (fun hc => absurd hc.1 (by decide)) (fun hc => absurd hc.1 (by decide)) (fun hc => absurd hc.1 (by decide)) s s1 s4 hc)
    have hz287 : ∀ j : Nat, j < 20000 → pch B n9 j → up j = nI n9 := (fun j hj q => hpq285.1 j hj (hDD286 j q))
    have hz288 : ∀ j : Nat, j < nd → ¬ gh 0 j / 8 = n9 → up j = up j := hpq285.2
    have hP : va_P G.1 pCl (mW G h0 a F (updA B 52 up)) _ := hP
    have hD : va_D A (mW G h0 a F (updA B 52 up)) := mW_D hD
    exact W.vret hx hb hr (fun t9 ht9 hW9 => ⟨⟨_, up, rfl, ⟨rfl, hz287, hz288⟩, by rw [ht9]; exact hP, hD⟩, hS.F ht9⟩) hS.2.2 dX12_parents_361
  · refine lv_topi (fun x289 e290 => ?_)
    obtain rfl : x289 = 26 := e290.trans ek
    have hpq291 : PQ gh nd n9 up up (fun j => False) := PQ.start
    refine lv_tableIn (tgt := 361) (off := 355) hx hb dX12_parents_6 (by decide) (by decide) (by decide) (by decide) ?_
    have hDD292 : ∀ j : Nat, pch B n9 j → False := (fun j ⟨k2, s, e, k4, s1, s4, hc⟩ => by have e2 : 26 = k2 := (nI_eq (by omega) (by omega)).mp (ek.symm.trans e); subst e2; exact ch4 (p := fun s => chs (cdOf 26 s) (B (11 + s) n9) (B 16) j → False) (fun hc => absurd hc.1 (by decide)) (fun hc => absurd hc.1 (by decide)) (fun hc => absurd hc.1 (by decide)) (fun hc => absurd hc.1 (by decide)) s s1 s4 hc)
    have hz293 : ∀ j : Nat, j < 20000 → pch B n9 j → up j = nI n9 := (fun j hj q => hpq291.1 j hj (hDD292 j q))
    have hz294 : ∀ j : Nat, j < nd → ¬ gh 0 j / 8 = n9 → up j = up j := hpq291.2
    have hP : va_P G.1 pCl (mW G h0 a F (updA B 52 up)) _ := hP
    have hD : va_D A (mW G h0 a F (updA B 52 up)) := mW_D hD
    exact W.vret hx hb hr (fun t9 ht9 hW9 => ⟨⟨_, up, rfl, ⟨rfl, hz293, hz294⟩, by rw [ht9]; exact hP, hD⟩, hS.F ht9⟩) hS.2.2 dX12_parents_361
  · refine lv_topi (fun x295 e296 => ?_)
    obtain rfl : x295 = 27 := e296.trans ek
    have hpq297 : PQ gh nd n9 up up (fun j => False) := PQ.start
    refine lv_tableIn (tgt := 361) (off := 355) hx hb dX12_parents_6 (by decide) (by decide) (by decide) (by decide) ?_
    have hDD298 : ∀ j : Nat, pch B n9 j → False := (fun j ⟨k2, s, e, k4, s1, s4, hc⟩ => by have e2 : 27 = k2 := (nI_eq (by omega) (by omega)).mp (ek.symm.trans e); subst e2; exact ch4 (p := fun s => chs (cdOf 27 s) (B (11 + s) n9) (B 16) j → False) (fun hc => absurd hc.1 (by decide)) (fun hc => absurd hc.1 (by decide)) (fun hc => absurd hc.1 (by decide)) (fun hc => absurd hc.1 (by decide)) s s1 s4 hc)
    have hz299 : ∀ j : Nat, j < 20000 → pch B n9 j → up j = nI n9 := (fun j hj q => hpq297.1 j hj (hDD298 j q))
    have hz300 : ∀ j : Nat, j < nd → ¬ gh 0 j / 8 = n9 → up j = up j := hpq297.2
    have hP : va_P G.1 pCl (mW G h0 a F (updA B 52 up)) _ := hP
    have hD : va_D A (mW G h0 a F (updA B 52 up)) := mW_D hD
    exact W.vret hx hb hr (fun t9 ht9 hW9 => ⟨⟨_, up, rfl, ⟨rfl, hz299, hz300⟩, by rw [ht9]; exact hP, hD⟩, hS.F ht9⟩) hS.2.2 dX12_parents_361
  · refine lv_topi (fun x301 e302 => ?_)
    obtain rfl : x301 = 28 := e302.trans ek
    have hpq303 : PQ gh nd n9 up up (fun j => False) := PQ.start
    refine lv_tableIn (tgt := 361) (off := 355) hx hb dX12_parents_6 (by decide) (by decide) (by decide) (by decide) ?_
    have hDD304 : ∀ j : Nat, pch B n9 j → False := (fun j ⟨k2, s, e, k4, s1, s4, hc⟩ => by have e2 : 28 = k2 := (nI_eq (by omega) (by omega)).mp (ek.symm.trans e); subst e2; exact ch4 (p := fun s => chs (cdOf 28 s) (B (11 + s) n9) (B 16) j → False) (fun hc => absurd hc.1 (by decide)) (fun hc => absurd hc.1 (by decide)) (fun hc => absurd hc.1 (by decide)) (fun hc => absurd hc.1 (by decide)) s s1 s4 hc)
    have hz305 : ∀ j : Nat, j < 20000 → pch B n9 j → up j = nI n9 := (fun j hj q => hpq303.1 j hj (hDD304 j q))
    have hz306 : ∀ j : Nat, j < nd → ¬ gh 0 j / 8 = n9 → up j = up j := hpq303.2
    have hP : va_P G.1 pCl (mW G h0 a F (updA B 52 up)) _ := hP
    have hD : va_D A (mW G h0 a F (updA B 52 up)) := mW_D hD
    exact W.vret hx hb hr (fun t9 ht9 hW9 => ⟨⟨_, up, rfl, ⟨rfl, hz305, hz306⟩, by rw [ht9]; exact hP, hD⟩, hS.F ht9⟩) hS.2.2 dX12_parents_361
  · refine lv_topi (fun x307 e308 => ?_)
    obtain rfl : x307 = 29 := e308.trans ek
    have hpq309 : PQ gh nd n9 up up (fun j => False) := PQ.start
    refine lv_tableIn (tgt := 361) (off := 355) hx hb dX12_parents_6 (by decide) (by decide) (by decide) (by decide) ?_
    have hDD310 : ∀ j : Nat, pch B n9 j → False := (fun j ⟨k2, s, e, k4, s1, s4, hc⟩ => by have e2 : 29 = k2 := (nI_eq (by omega) (by omega)).mp (ek.symm.trans e); subst e2; exact ch4 (p := fun s => chs (cdOf 29 s) (B (11 + s) n9) (B 16) j → False) (fun hc => absurd hc.1 (by decide)) (fun hc => absurd hc.1 (by decide)) (fun hc => absurd hc.1 (by decide)) (fun hc => absurd hc.1 (by decide)) s s1 s4 hc)
    have hz311 : ∀ j : Nat, j < 20000 → pch B n9 j → up j = nI n9 := (fun j hj q => hpq309.1 j hj (hDD310 j q))
    have hz312 : ∀ j : Nat, j < nd → ¬ gh 0 j / 8 = n9 → up j = up j := hpq309.2
    have hP : va_P G.1 pCl (mW G h0 a F (updA B 52 up)) _ := hP
    have hD : va_D A (mW G h0 a F (updA B 52 up)) := mW_D hD
    exact W.vret hx hb hr (fun t9 ht9 hW9 => ⟨⟨_, up, rfl, ⟨rfl, hz311, hz312⟩, by rw [ht9]; exact hP, hD⟩, hS.F ht9⟩) hS.2.2 dX12_parents_361
  · refine lv_topi (fun x313 e314 => ?_)
    obtain rfl : x313 = 30 := e314.trans ek
    have hpq315 : PQ gh nd n9 up up (fun j => False) := PQ.start
    refine lv_tableIn (tgt := 297) (off := 291) hx hb dX12_parents_6 (by decide) (by decide) (by decide) (by decide) ?_
    refine lv_aload_n hx hb dX12_parents_297 rfl (lv_at hl 0 rfl) ?_
    refine lv_aload_n hx hb dX12_parents_298 rfl (lv_at hl 0 rfl) ?_
    refine r_get (v := .ref (a 13)) hx hb hown hq hE hP 21 50 tFX12_21 (by decide) pw_1443 rfl dX12_parents_299 ?_
    refine lv_iload_n hx hb dX12_parents_302 rfl (lv_at hl 1 rfl) ?_
    refine r_ldi (f := (B 13)) (j := n9) hx hb hE hP 13 (ma_13 G a _) rfl (by omega) (by decide) dX12_parents_303 ?_
    refine lv_iload_n hx hb dX12_parents_304 rfl (lv_at hl 1 rfl) ?_
    have hP : va_P G.1 pCl (mW G h0 a F (updA (updA B 52 up) 52 up)) _ := hP
    have hD : va_D A (mW G h0 a F (updA (updA B 52 up) 52 up)) := mW_D hD
    refine pc_V0 (G := G) (As := [.int ((B 13) n9), .int (nI n9)]) (rest := []) hx hb hml hown hq hE hX pX0_al hP hD hS hA hl.1 (R_lies l G h0 a F (updA B 52 up) ((B 13) n9) (nI n9) nd up (sok.or (hsl 2 (by omega) (by omega)) (by decide)) (by omega)) (gV pw_1918 pw_1919 pw_1920 pw_1523 pw_1913) hV_X12_lies 0 9 rfl rfl rfl rfl (Nat.le_of_ble_eq_true rfl) dX12_parents_305 ⟨Nat.le_of_ble_eq_true rfl, Nat.le_of_ble_eq_true rfl⟩ ⟨Nat.le_of_ble_eq_true rfl, Nat.le_of_ble_eq_true rfl⟩ (fun v318 u316 H locs hw317 hP hD hS => ?_)
    obtain ⟨up319, rfl⟩ : ∃ z, z = u316 := ⟨_, rfl⟩
    obtain ⟨hw317, h320⟩ := hw317
    replace h320 : up319 = lieF up ((B 13) n9) (nI n9) := h320
    obtain rfl : v318 = none := hw317
    have hP : va_P G.1 pCl (mW G h0 a F (updA B 52 up319)) _ := hP
    have hD : va_D A (mW G h0 a F (updA B 52 up319)) := mW_D hD
    refine W.widen (k := 0) (n := 0) (Nat.le_of_ble_eq_true rfl) (Nat.le_of_ble_eq_true rfl) ?_
    refine W.eq (g2 := F0 m 308 ls []) rfl ?_
    have hpq321 : PQ gh nd n9 up up319 (fun j => (False ∨ (B 13 n9) = nI j)) := (PQ.lies hpq315 (hsl 2 (by omega) (by omega)) ⟨by decide, by decide⟩ (by omega) hnd h320)
    refine lv_goto (tgt := 361) hx hb dX12_parents_308 (by decide) ?_
    have hDD322 : ∀ j : Nat, pch B n9 j → (False ∨ (B 13 n9) = nI j) := (fun j ⟨k2, s, e, k4, s1, s4, hc⟩ => by have e2 : 30 = k2 := (nI_eq (by omega) (by omega)).mp (ek.symm.trans e); subst e2; exact ch4 (p := fun s => chs (cdOf 30 s) (B (11 + s) n9) (B 16) j → (False ∨ (B 13 n9) = nI j)) (fun hc => absurd hc.1 (by decide)) (fun hc => hc.2.elim (fun z => Or.inr z.2) (fun z => absurd z.1 (by decide))) (fun hc => absurd hc.1 (by decide)) (fun hc => absurd hc.1 (by decide)) s s1 s4 hc)
    have hz323 : ∀ j : Nat, j < 20000 → pch B n9 j → up319 j = nI n9 := (fun j hj q => hpq321.1 j hj (hDD322 j q))
    have hz324 : ∀ j : Nat, j < nd → ¬ gh 0 j / 8 = n9 → up319 j = up j := hpq321.2
    have hP : va_P G.1 pCl (mW G h0 a F (updA B 52 up319)) _ := hP
    have hD : va_D A (mW G h0 a F (updA B 52 up319)) := mW_D hD
    exact W.vret hx hb hr (fun t9 ht9 hW9 => ⟨⟨_, up319, rfl, ⟨rfl, hz323, hz324⟩, by rw [ht9]; exact hP, hD⟩, hS.F ht9⟩) hS.2.2 dX12_parents_361
  · refine lv_topi (fun x325 e326 => ?_)
    obtain rfl : x325 = 31 := e326.trans ek
    have hpq327 : PQ gh nd n9 up up (fun j => False) := PQ.start
    refine lv_tableIn (tgt := 311) (off := 305) hx hb dX12_parents_6 (by decide) (by decide) (by decide) (by decide) ?_
    refine lv_aload_n hx hb dX12_parents_311 rfl (lv_at hl 0 rfl) ?_
    refine lv_aload_n hx hb dX12_parents_312 rfl (lv_at hl 0 rfl) ?_
    refine r_get (v := .ref (a 12)) hx hb hown hq hE hP 20 47 tFX12_20 (by decide) pw_1442 rfl dX12_parents_313 ?_
    refine lv_iload_n hx hb dX12_parents_316 rfl (lv_at hl 1 rfl) ?_
    refine r_ldi (f := (B 12)) (j := n9) hx hb hE hP 12 (ma_12 G a _) rfl (by omega) (by decide) dX12_parents_317 ?_
    refine lv_iload_n hx hb dX12_parents_318 rfl (lv_at hl 1 rfl) ?_
    have hP : va_P G.1 pCl (mW G h0 a F (updA (updA (updA B 52 up) 16 (B 16)) 52 up)) _ := hP
    have hD : va_D A (mW G h0 a F (updA (updA (updA B 52 up) 16 (B 16)) 52 up)) := mW_D hD
    refine pc_V0 (G := G) (As := [.int ((B 12) n9), .int (nI n9)]) (rest := []) hx hb hml hown hq hE hX pX0_al hP hD hS hA hl.1 (R_lieAll l G h0 a F (updA B 52 up) ((B 12) n9) (nI n9) nd up (B 16) (sok.or (hsl 1 (by omega) (by omega)) (by decide)) (by omega) (Fs2.lnr hF)) (gV pw_1915 pw_1916 pw_1917 pw_1523 pw_1912) hV_X12_lieAll 0 9 rfl rfl rfl rfl (Nat.le_of_ble_eq_true rfl) dX12_parents_319 ⟨Nat.le_of_ble_eq_true rfl, Nat.le_of_ble_eq_true rfl⟩ ⟨Nat.le_of_ble_eq_true rfl, Nat.le_of_ble_eq_true rfl⟩ (fun v330 u328 H locs hw329 hP hD hS => ?_)
    obtain ⟨up331, rfl⟩ : ∃ z, z = u328 := ⟨_, rfl⟩
    obtain ⟨hw329, h332⟩ := hw329
    replace h332 : LieA (B 16) up up331 ((B 12) n9) (nI n9) := h332
    obtain rfl : v330 = none := hw329
    have hP : va_P G.1 pCl (mW G h0 a F (updA B 52 up331)) _ := hP
    have hD : va_D A (mW G h0 a F (updA B 52 up331)) := mW_D hD
    refine W.widen (k := 0) (n := 0) (Nat.le_of_ble_eq_true rfl) (Nat.le_of_ble_eq_true rfl) ?_
    refine W.eq (g2 := F0 m 322 ls []) rfl ?_
    have hpq333 : PQ gh nd n9 up up331 (fun j => (False ∨ ∃ i : Nat, itr (B 16) (B 12 n9) i = nI j)) := (PQ.list hpq327 hF (hsl 1 (by omega) (by omega)) ⟨by decide, by decide⟩ hnd h332)
    refine lv_goto (tgt := 361) hx hb dX12_parents_322 (by decide) ?_
    have hDD334 : ∀ j : Nat, pch B n9 j → (False ∨ ∃ i : Nat, itr (B 16) (B 12 n9) i = nI j) := (fun j ⟨k2, s, e, k4, s1, s4, hc⟩ => by have e2 : 31 = k2 := (nI_eq (by omega) (by omega)).mp (ek.symm.trans e); subst e2; exact ch4 (p := fun s => chs (cdOf 31 s) (B (11 + s) n9) (B 16) j → (False ∨ ∃ i : Nat, itr (B 16) (B 12 n9) i = nI j)) (fun hc => hc.2.elim (fun z => absurd z.1 (by decide)) (fun z => Or.inr z.2)) (fun hc => absurd hc.1 (by decide)) (fun hc => absurd hc.1 (by decide)) (fun hc => absurd hc.1 (by decide)) s s1 s4 hc)
    have hz335 : ∀ j : Nat, j < 20000 → pch B n9 j → up331 j = nI n9 := (fun j hj q => hpq333.1 j hj (hDD334 j q))
    have hz336 : ∀ j : Nat, j < nd → ¬ gh 0 j / 8 = n9 → up331 j = up j := hpq333.2
    have hP : va_P G.1 pCl (mW G h0 a F (updA B 52 up331)) _ := hP
    have hD : va_D A (mW G h0 a F (updA B 52 up331)) := mW_D hD
    exact W.vret hx hb hr (fun t9 ht9 hW9 => ⟨⟨_, up331, rfl, ⟨rfl, hz335, hz336⟩, by rw [ht9]; exact hP, hD⟩, hS.F ht9⟩) hS.2.2 dX12_parents_361
  · refine lv_topi (fun x337 e338 => ?_)
    obtain rfl : x337 = 32 := e338.trans ek
    have hpq339 : PQ gh nd n9 up up (fun j => False) := PQ.start
    refine lv_tableIn (tgt := 225) (off := 219) hx hb dX12_parents_6 (by decide) (by decide) (by decide) (by decide) ?_
    refine lv_aload_n hx hb dX12_parents_225 rfl (lv_at hl 0 rfl) ?_
    refine lv_aload_n hx hb dX12_parents_226 rfl (lv_at hl 0 rfl) ?_
    refine r_get (v := .ref (a 12)) hx hb hown hq hE hP 20 47 tFX12_20 (by decide) pw_1442 rfl dX12_parents_227 ?_
    refine lv_iload_n hx hb dX12_parents_230 rfl (lv_at hl 1 rfl) ?_
    refine r_ldi (f := (B 12)) (j := n9) hx hb hE hP 12 (ma_12 G a _) rfl (by omega) (by decide) dX12_parents_231 ?_
    refine lv_iload_n hx hb dX12_parents_232 rfl (lv_at hl 1 rfl) ?_
    have hP : va_P G.1 pCl (mW G h0 a F (updA (updA B 52 up) 52 up)) _ := hP
    have hD : va_D A (mW G h0 a F (updA (updA B 52 up) 52 up)) := mW_D hD
    refine pc_V0 (G := G) (As := [.int ((B 12) n9), .int (nI n9)]) (rest := []) hx hb hml hown hq hE hX pX0_al hP hD hS hA hl.1 (R_lies l G h0 a F (updA B 52 up) ((B 12) n9) (nI n9) nd up (sok.or (hsl 1 (by omega) (by omega)) (by decide)) (by omega)) (gV pw_1918 pw_1919 pw_1920 pw_1523 pw_1913) hV_X12_lies 0 9 rfl rfl rfl rfl (Nat.le_of_ble_eq_true rfl) dX12_parents_233 ⟨Nat.le_of_ble_eq_true rfl, Nat.le_of_ble_eq_true rfl⟩ ⟨Nat.le_of_ble_eq_true rfl, Nat.le_of_ble_eq_true rfl⟩ (fun v342 u340 H locs hw341 hP hD hS => ?_)
    obtain ⟨up343, rfl⟩ : ∃ z, z = u340 := ⟨_, rfl⟩
    obtain ⟨hw341, h344⟩ := hw341
    replace h344 : up343 = lieF up ((B 12) n9) (nI n9) := h344
    obtain rfl : v342 = none := hw341
    have hP : va_P G.1 pCl (mW G h0 a F (updA B 52 up343)) _ := hP
    have hD : va_D A (mW G h0 a F (updA B 52 up343)) := mW_D hD
    refine W.widen (k := 0) (n := 0) (Nat.le_of_ble_eq_true rfl) (Nat.le_of_ble_eq_true rfl) ?_
    refine W.eq (g2 := F0 m 236 ls []) rfl ?_
    have hpq345 : PQ gh nd n9 up up343 (fun j => (False ∨ (B 12 n9) = nI j)) := (PQ.lies hpq339 (hsl 1 (by omega) (by omega)) ⟨by decide, by decide⟩ (by omega) hnd h344)
    refine lv_aload_n hx hb dX12_parents_236 rfl (lv_at hl 0 rfl) ?_
    refine lv_aload_n hx hb dX12_parents_237 rfl (lv_at hl 0 rfl) ?_
    refine r_get (v := .ref (a 13)) hx hb hown hq hE hP 21 50 tFX12_21 (by decide) pw_1443 rfl dX12_parents_238 ?_
    refine lv_iload_n hx hb dX12_parents_241 rfl (lv_at hl 1 rfl) ?_
    refine r_ldi (f := (B 13)) (j := n9) hx hb hE hP 13 (ma_13 G a _) rfl (by omega) (by decide) dX12_parents_242 ?_
    refine lv_iload_n hx hb dX12_parents_243 rfl (lv_at hl 1 rfl) ?_
    have hP : va_P G.1 pCl (mW G h0 a F (updA (updA B 52 up343) 52 up343)) _ := hP
    have hD : va_D A (mW G h0 a F (updA (updA B 52 up343) 52 up343)) := mW_D hD
    refine pc_V0 (G := G) (As := [.int ((B 13) n9), .int (nI n9)]) (rest := []) hx hb hml hown hq hE hX pX0_al hP hD hS hA hl.1 (R_lies l G h0 a F (updA B 52 up343) ((B 13) n9) (nI n9) nd up343 (sok.or (hsl 2 (by omega) (by omega)) (by decide)) (by omega)) (gV pw_1918 pw_1919 pw_1920 pw_1523 pw_1913) hV_X12_lies 0 9 rfl rfl rfl rfl (Nat.le_of_ble_eq_true rfl) dX12_parents_244 ⟨Nat.le_of_ble_eq_true rfl, Nat.le_of_ble_eq_true rfl⟩ ⟨Nat.le_of_ble_eq_true rfl, Nat.le_of_ble_eq_true rfl⟩ (fun v348 u346 H locs hw347 hP hD hS => ?_)
    obtain ⟨up349, rfl⟩ : ∃ z, z = u346 := ⟨_, rfl⟩
    obtain ⟨hw347, h350⟩ := hw347
    replace h350 : up349 = lieF up343 ((B 13) n9) (nI n9) := h350
    obtain rfl : v348 = none := hw347
    have hP : va_P G.1 pCl (mW G h0 a F (updA B 52 up349)) _ := hP
    have hD : va_D A (mW G h0 a F (updA B 52 up349)) := mW_D hD
    refine W.widen (k := 0) (n := 0) (Nat.le_of_ble_eq_true rfl) (Nat.le_of_ble_eq_true rfl) ?_
    refine W.eq (g2 := F0 m 247 ls []) rfl ?_
    have hpq351 : PQ gh nd n9 up up349 (fun j => ((False ∨ (B 12 n9) = nI j) ∨ (B 13 n9) = nI j)) := (PQ.lies hpq345 (hsl 2 (by omega) (by omega)) ⟨by decide, by decide⟩ (by omega) hnd h350)
    refine lv_goto (tgt := 361) hx hb dX12_parents_247 (by decide) ?_
    have hDD352 : ∀ j : Nat, pch B n9 j → ((False ∨ (B 12 n9) = nI j) ∨ (B 13 n9) = nI j) := (fun j ⟨k2, s, e, k4, s1, s4, hc⟩ => by have e2 : 32 = k2 := (nI_eq (by omega) (by omega)).mp (ek.symm.trans e); subst e2; exact ch4 (p := fun s => chs (cdOf 32 s) (B (11 + s) n9) (B 16) j → ((False ∨ (B 12 n9) = nI j) ∨ (B 13 n9) = nI j)) (fun hc => hc.2.elim (fun z => Or.inl (Or.inr z.2)) (fun z => absurd z.1 (by decide))) (fun hc => hc.2.elim (fun z => Or.inr z.2) (fun z => absurd z.1 (by decide))) (fun hc => absurd hc.1 (by decide)) (fun hc => absurd hc.1 (by decide)) s s1 s4 hc)
    have hz353 : ∀ j : Nat, j < 20000 → pch B n9 j → up349 j = nI n9 := (fun j hj q => hpq351.1 j hj (hDD352 j q))
    have hz354 : ∀ j : Nat, j < nd → ¬ gh 0 j / 8 = n9 → up349 j = up j := hpq351.2
    have hP : va_P G.1 pCl (mW G h0 a F (updA B 52 up349)) _ := hP
    have hD : va_D A (mW G h0 a F (updA B 52 up349)) := mW_D hD
    exact W.vret hx hb hr (fun t9 ht9 hW9 => ⟨⟨_, up349, rfl, ⟨rfl, hz353, hz354⟩, by rw [ht9]; exact hP, hD⟩, hS.F ht9⟩) hS.2.2 dX12_parents_361
  · refine lv_topi (fun x355 e356 => ?_)
    obtain rfl : x355 = 33 := e356.trans ek
    have hpq357 : PQ gh nd n9 up up (fun j => False) := PQ.start
    refine lv_tableIn (tgt := 211) (off := 205) hx hb dX12_parents_6 (by decide) (by decide) (by decide) (by decide) ?_
    refine lv_aload_n hx hb dX12_parents_211 rfl (lv_at hl 0 rfl) ?_
    refine lv_aload_n hx hb dX12_parents_212 rfl (lv_at hl 0 rfl) ?_
    refine r_get (v := .ref (a 12)) hx hb hown hq hE hP 20 47 tFX12_20 (by decide) pw_1442 rfl dX12_parents_213 ?_
    refine lv_iload_n hx hb dX12_parents_216 rfl (lv_at hl 1 rfl) ?_
    refine r_ldi (f := (B 12)) (j := n9) hx hb hE hP 12 (ma_12 G a _) rfl (by omega) (by decide) dX12_parents_217 ?_
    refine lv_iload_n hx hb dX12_parents_218 rfl (lv_at hl 1 rfl) ?_
    have hP : va_P G.1 pCl (mW G h0 a F (updA (updA B 52 up) 52 up)) _ := hP
    have hD : va_D A (mW G h0 a F (updA (updA B 52 up) 52 up)) := mW_D hD
    refine pc_V0 (G := G) (As := [.int ((B 12) n9), .int (nI n9)]) (rest := []) hx hb hml hown hq hE hX pX0_al hP hD hS hA hl.1 (R_lies l G h0 a F (updA B 52 up) ((B 12) n9) (nI n9) nd up (sok.or (hsl 1 (by omega) (by omega)) (by decide)) (by omega)) (gV pw_1918 pw_1919 pw_1920 pw_1523 pw_1913) hV_X12_lies 0 9 rfl rfl rfl rfl (Nat.le_of_ble_eq_true rfl) dX12_parents_219 ⟨Nat.le_of_ble_eq_true rfl, Nat.le_of_ble_eq_true rfl⟩ ⟨Nat.le_of_ble_eq_true rfl, Nat.le_of_ble_eq_true rfl⟩ (fun v360 u358 H locs hw359 hP hD hS => ?_)
    obtain ⟨up361, rfl⟩ : ∃ z, z = u358 := ⟨_, rfl⟩
    obtain ⟨hw359, h362⟩ := hw359
    replace h362 : up361 = lieF up ((B 12) n9) (nI n9) := h362
    obtain rfl : v360 = none := hw359
    have hP : va_P G.1 pCl (mW G h0 a F (updA B 52 up361)) _ := hP
    have hD : va_D A (mW G h0 a F (updA B 52 up361)) := mW_D hD
    refine W.widen (k := 0) (n := 0) (Nat.le_of_ble_eq_true rfl) (Nat.le_of_ble_eq_true rfl) ?_
    refine W.eq (g2 := F0 m 222 ls []) rfl ?_
    have hpq363 : PQ gh nd n9 up up361 (fun j => (False ∨ (B 12 n9) = nI j)) := (PQ.lies hpq357 (hsl 1 (by omega) (by omega)) ⟨by decide, by decide⟩ (by omega) hnd h362)
    refine lv_goto (tgt := 361) hx hb dX12_parents_222 (by decide) ?_
    have hDD364 : ∀ j : Nat, pch B n9 j → (False ∨ (B 12 n9) = nI j) := (fun j ⟨k2, s, e, k4, s1, s4, hc⟩ => by have e2 : 33 = k2 := (nI_eq (by omega) (by omega)).mp (ek.symm.trans e); subst e2; exact ch4 (p := fun s => chs (cdOf 33 s) (B (11 + s) n9) (B 16) j → (False ∨ (B 12 n9) = nI j)) (fun hc => hc.2.elim (fun z => Or.inr z.2) (fun z => absurd z.1 (by decide))) (fun hc => absurd hc.1 (by decide)) (fun hc => absurd hc.1 (by decide)) (fun hc => absurd hc.1 (by decide)) s s1 s4 hc)
    have hz365 : ∀ j : Nat, j < 20000 → pch B n9 j → up361 j = nI n9 := (fun j hj q => hpq363.1 j hj (hDD364 j q))
    have hz366 : ∀ j : Nat, j < nd → ¬ gh 0 j / 8 = n9 → up361 j = up j := hpq363.2
    have hP : va_P G.1 pCl (mW G h0 a F (updA B 52 up361)) _ := hP
    have hD : va_D A (mW G h0 a F (updA B 52 up361)) := mW_D hD
    exact W.vret hx hb hr (fun t9 ht9 hW9 => ⟨⟨_, up361, rfl, ⟨rfl, hz365, hz366⟩, by rw [ht9]; exact hP, hD⟩, hS.F ht9⟩) hS.2.2 dX12_parents_361
  · refine lv_topi (fun x367 e368 => ?_)
    obtain rfl : x367 = 34 := e368.trans ek
    have hpq369 : PQ gh nd n9 up up (fun j => False) := PQ.start
    refine lv_tableIn (tgt := 250) (off := 244) hx hb dX12_parents_6 (by decide) (by decide) (by decide) (by decide) ?_
    refine lv_aload_n hx hb dX12_parents_250 rfl (lv_at hl 0 rfl) ?_
    refine lv_aload_n hx hb dX12_parents_251 rfl (lv_at hl 0 rfl) ?_
    refine r_get (v := .ref (a 12)) hx hb hown hq hE hP 20 47 tFX12_20 (by decide) pw_1442 rfl dX12_parents_252 ?_
    refine lv_iload_n hx hb dX12_parents_255 rfl (lv_at hl 1 rfl) ?_
    refine r_ldi (f := (B 12)) (j := n9) hx hb hE hP 12 (ma_12 G a _) rfl (by omega) (by decide) dX12_parents_256 ?_
    refine lv_iload_n hx hb dX12_parents_257 rfl (lv_at hl 1 rfl) ?_
    have hP : va_P G.1 pCl (mW G h0 a F (updA (updA B 52 up) 52 up)) _ := hP
    have hD : va_D A (mW G h0 a F (updA (updA B 52 up) 52 up)) := mW_D hD
    refine pc_V0 (G := G) (As := [.int ((B 12) n9), .int (nI n9)]) (rest := []) hx hb hml hown hq hE hX pX0_al hP hD hS hA hl.1 (R_lies l G h0 a F (updA B 52 up) ((B 12) n9) (nI n9) nd up (sok.or (hsl 1 (by omega) (by omega)) (by decide)) (by omega)) (gV pw_1918 pw_1919 pw_1920 pw_1523 pw_1913) hV_X12_lies 0 9 rfl rfl rfl rfl (Nat.le_of_ble_eq_true rfl) dX12_parents_258 ⟨Nat.le_of_ble_eq_true rfl, Nat.le_of_ble_eq_true rfl⟩ ⟨Nat.le_of_ble_eq_true rfl, Nat.le_of_ble_eq_true rfl⟩ (fun v372 u370 H locs hw371 hP hD hS => ?_)
    obtain ⟨up373, rfl⟩ : ∃ z, z = u370 := ⟨_, rfl⟩
    obtain ⟨hw371, h374⟩ := hw371
    replace h374 : up373 = lieF up ((B 12) n9) (nI n9) := h374
    obtain rfl : v372 = none := hw371
    have hP : va_P G.1 pCl (mW G h0 a F (updA B 52 up373)) _ := hP
    have hD : va_D A (mW G h0 a F (updA B 52 up373)) := mW_D hD
    refine W.widen (k := 0) (n := 0) (Nat.le_of_ble_eq_true rfl) (Nat.le_of_ble_eq_true rfl) ?_
    refine W.eq (g2 := F0 m 261 ls []) rfl ?_
    have hpq375 : PQ gh nd n9 up up373 (fun j => (False ∨ (B 12 n9) = nI j)) := (PQ.lies hpq369 (hsl 1 (by omega) (by omega)) ⟨by decide, by decide⟩ (by omega) hnd h374)
    refine lv_aload_n hx hb dX12_parents_261 rfl (lv_at hl 0 rfl) ?_
    refine lv_aload_n hx hb dX12_parents_262 rfl (lv_at hl 0 rfl) ?_
    refine r_get (v := .ref (a 13)) hx hb hown hq hE hP 21 50 tFX12_21 (by decide) pw_1443 rfl dX12_parents_263 ?_
    refine lv_iload_n hx hb dX12_parents_266 rfl (lv_at hl 1 rfl) ?_
    refine r_ldi (f := (B 13)) (j := n9) hx hb hE hP 13 (ma_13 G a _) rfl (by omega) (by decide) dX12_parents_267 ?_
    refine lv_iload_n hx hb dX12_parents_268 rfl (lv_at hl 1 rfl) ?_
    have hP : va_P G.1 pCl (mW G h0 a F (updA (updA B 52 up373) 52 up373)) _ := hP
    have hD : va_D A (mW G h0 a F (updA (updA B 52 up373) 52 up373)) := mW_D hD
    refine pc_V0 (G := G) (As := [.int ((B 13) n9), .int (nI n9)]) (rest := []) hx hb hml hown hq hE hX pX0_al hP hD hS hA hl.1 (R_lies l G h0 a F (updA B 52 up373) ((B 13) n9) (nI n9) nd up373 (sok.or (hsl 2 (by omega) (by omega)) (by decide)) (by omega)) (gV pw_1918 pw_1919 pw_1920 pw_1523 pw_1913) hV_X12_lies 0 9 rfl rfl rfl rfl (Nat.le_of_ble_eq_true rfl) dX12_parents_269 ⟨Nat.le_of_ble_eq_true rfl, Nat.le_of_ble_eq_true rfl⟩ ⟨Nat.le_of_ble_eq_true rfl, Nat.le_of_ble_eq_true rfl⟩ (fun v378 u376 H locs hw377 hP hD hS => ?_)
    obtain ⟨up379, rfl⟩ : ∃ z, z = u376 := ⟨_, rfl⟩
    obtain ⟨hw377, h380⟩ := hw377
    replace h380 : up379 = lieF up373 ((B 13) n9) (nI n9) := h380
    obtain rfl : v378 = none := hw377
    have hP : va_P G.1 pCl (mW G h0 a F (updA B 52 up379)) _ := hP
    have hD : va_D A (mW G h0 a F (updA B 52 up379)) := mW_D hD
    refine W.widen (k := 0) (n := 0) (Nat.le_of_ble_eq_true rfl) (Nat.le_of_ble_eq_true rfl) ?_
    refine W.eq (g2 := F0 m 272 ls []) rfl ?_
    have hpq381 : PQ gh nd n9 up up379 (fun j => ((False ∨ (B 12 n9) = nI j) ∨ (B 13 n9) = nI j)) := (PQ.lies hpq375 (hsl 2 (by omega) (by omega)) ⟨by decide, by decide⟩ (by omega) hnd h380)
    refine lv_aload_n hx hb dX12_parents_272 rfl (lv_at hl 0 rfl) ?_
    refine lv_aload_n hx hb dX12_parents_273 rfl (lv_at hl 0 rfl) ?_
    refine r_get (v := .ref (a 14)) hx hb hown hq hE hP 22 53 tFX12_22 (by decide) pw_1444 rfl dX12_parents_274 ?_
    refine lv_iload_n hx hb dX12_parents_277 rfl (lv_at hl 1 rfl) ?_
    refine r_ldi (f := (B 14)) (j := n9) hx hb hE hP 14 (ma_14 G a _) rfl (by omega) (by decide) dX12_parents_278 ?_
    refine lv_iload_n hx hb dX12_parents_279 rfl (lv_at hl 1 rfl) ?_
    have hP : va_P G.1 pCl (mW G h0 a F (updA (updA B 52 up379) 52 up379)) _ := hP
    have hD : va_D A (mW G h0 a F (updA (updA B 52 up379) 52 up379)) := mW_D hD
    refine pc_V0 (G := G) (As := [.int ((B 14) n9), .int (nI n9)]) (rest := []) hx hb hml hown hq hE hX pX0_al hP hD hS hA hl.1 (R_lies l G h0 a F (updA B 52 up379) ((B 14) n9) (nI n9) nd up379 (sok.or (hsl 3 (by omega) (by omega)) (by decide)) (by omega)) (gV pw_1918 pw_1919 pw_1920 pw_1523 pw_1913) hV_X12_lies 0 9 rfl rfl rfl rfl (Nat.le_of_ble_eq_true rfl) dX12_parents_280 ⟨Nat.le_of_ble_eq_true rfl, Nat.le_of_ble_eq_true rfl⟩ ⟨Nat.le_of_ble_eq_true rfl, Nat.le_of_ble_eq_true rfl⟩ (fun v384 u382 H locs hw383 hP hD hS => ?_)
    obtain ⟨up385, rfl⟩ : ∃ z, z = u382 := ⟨_, rfl⟩
    obtain ⟨hw383, h386⟩ := hw383
    replace h386 : up385 = lieF up379 ((B 14) n9) (nI n9) := h386
    obtain rfl : v384 = none := hw383
    have hP : va_P G.1 pCl (mW G h0 a F (updA B 52 up385)) _ := hP
    have hD : va_D A (mW G h0 a F (updA B 52 up385)) := mW_D hD
    refine W.widen (k := 0) (n := 0) (Nat.le_of_ble_eq_true rfl) (Nat.le_of_ble_eq_true rfl) ?_
    refine W.eq (g2 := F0 m 283 ls []) rfl ?_
    have hpq387 : PQ gh nd n9 up up385 (fun j => (((False ∨ (B 12 n9) = nI j) ∨ (B 13 n9) = nI j) ∨ (B 14 n9) = nI j)) := (PQ.lies hpq381 (hsl 3 (by omega) (by omega)) ⟨by decide, by decide⟩ (by omega) hnd h386)
    refine lv_aload_n hx hb dX12_parents_283 rfl (lv_at hl 0 rfl) ?_
    refine lv_aload_n hx hb dX12_parents_284 rfl (lv_at hl 0 rfl) ?_
    refine r_get (v := .ref (a 15)) hx hb hown hq hE hP 23 56 tFX12_23 (by decide) pw_1445 rfl dX12_parents_285 ?_
    refine lv_iload_n hx hb dX12_parents_288 rfl (lv_at hl 1 rfl) ?_
    refine r_ldi (f := (B 15)) (j := n9) hx hb hE hP 15 (ma_15 G a _) rfl (by omega) (by decide) dX12_parents_289 ?_
    refine lv_iload_n hx hb dX12_parents_290 rfl (lv_at hl 1 rfl) ?_
    have hP : va_P G.1 pCl (mW G h0 a F (updA (updA B 52 up385) 52 up385)) _ := hP
    have hD : va_D A (mW G h0 a F (updA (updA B 52 up385) 52 up385)) := mW_D hD
    refine pc_V0 (G := G) (As := [.int ((B 15) n9), .int (nI n9)]) (rest := []) hx hb hml hown hq hE hX pX0_al hP hD hS hA hl.1 (R_lies l G h0 a F (updA B 52 up385) ((B 15) n9) (nI n9) nd up385 (sok.no (hsl 4 (by omega) (by omega)) (by decide)) (by omega)) (gV pw_1918 pw_1919 pw_1920 pw_1523 pw_1913) hV_X12_lies 0 9 rfl rfl rfl rfl (Nat.le_of_ble_eq_true rfl) dX12_parents_291 ⟨Nat.le_of_ble_eq_true rfl, Nat.le_of_ble_eq_true rfl⟩ ⟨Nat.le_of_ble_eq_true rfl, Nat.le_of_ble_eq_true rfl⟩ (fun v390 u388 H locs hw389 hP hD hS => ?_)
    obtain ⟨up391, rfl⟩ : ∃ z, z = u388 := ⟨_, rfl⟩
    obtain ⟨hw389, h392⟩ := hw389
    replace h392 : up391 = lieF up385 ((B 15) n9) (nI n9) := h392
    obtain rfl : v390 = none := hw389
    have hP : va_P G.1 pCl (mW G h0 a F (updA B 52 up391)) _ := hP
    have hD : va_D A (mW G h0 a F (updA B 52 up391)) := mW_D hD
    refine W.widen (k := 0) (n := 0) (Nat.le_of_ble_eq_true rfl) (Nat.le_of_ble_eq_true rfl) ?_
    refine W.eq (g2 := F0 m 294 ls []) rfl ?_
    have hpq393 : PQ gh nd n9 up up391 (fun j => (((False ∨ (B 12 n9) = nI j) ∨ (B 13 n9) = nI j) ∨ (B 14 n9) = nI j)) := (PQ.none hpq387 ((hsl 4 (by omega) (by omega)).2.2.1 (by decide)) h392)
    refine lv_goto (tgt := 361) hx hb dX12_parents_294 (by decide) ?_
    have hDD394 : ∀ j : Nat, pch B n9 j → (((False ∨ (B 12 n9) = nI j) ∨ (B 13 n9) = nI j) ∨ (B 14 n9) = nI j) := (fun j ⟨k2, s, e, k4, s1, s4, hc⟩ => by have e2 : 34 = k2 := (nI_eq (by omega) (by omega)).mp (ek.symm.trans e); subst e2; exact ch4 (p := fun s => chs (cdOf 34 s) (B (11 + s) n9) (B 16) j → (((False ∨ (B 12 n9) = nI j) ∨ (B 13 n9) = nI j) ∨ (B 14 n9) = nI j)) (fun hc => hc.2.elim (fun z => Or.inl (Or.inl (Or.inr z.2))) (fun z => absurd z.1 (by decide))) (fun hc => hc.2.elim (fun z => Or.inl (Or.inr z.2)) (fun z => absurd z.1 (by decide))) (fun hc => hc.2.elim (fun z => Or.inr z.2) (fun z => absurd z.1 (by decide))) (fun hc => absurd hc.1 (by decide)) s s1 s4 hc)
    have hz395 : ∀ j : Nat, j < 20000 → pch B n9 j → up391 j = nI n9 := (fun j hj q => hpq393.1 j hj (hDD394 j q))
    have hz396 : ∀ j : Nat, j < nd → ¬ gh 0 j / 8 = n9 → up391 j = up j := hpq393.2
    have hP : va_P G.1 pCl (mW G h0 a F (updA B 52 up391)) _ := hP
    have hD : va_D A (mW G h0 a F (updA B 52 up391)) := mW_D hD
    exact W.vret hx hb hr (fun t9 ht9 hW9 => ⟨⟨_, up391, rfl, ⟨rfl, hz395, hz396⟩, by rw [ht9]; exact hP, hD⟩, hS.F ht9⟩) hS.2.2 dX12_parents_361
  · refine lv_topi (fun x397 e398 => ?_)
    obtain rfl : x397 = 35 := e398.trans ek
    have hpq399 : PQ gh nd n9 up up (fun j => False) := PQ.start
    refine lv_tableIn (tgt := 225) (off := 219) hx hb dX12_parents_6 (by decide) (by decide) (by decide) (by decide) ?_
    refine lv_aload_n hx hb dX12_parents_225 rfl (lv_at hl 0 rfl) ?_
    refine lv_aload_n hx hb dX12_parents_226 rfl (lv_at hl 0 rfl) ?_
    refine r_get (v := .ref (a 12)) hx hb hown hq hE hP 20 47 tFX12_20 (by decide) pw_1442 rfl dX12_parents_227 ?_
    refine lv_iload_n hx hb dX12_parents_230 rfl (lv_at hl 1 rfl) ?_
    refine r_ldi (f := (B 12)) (j := n9) hx hb hE hP 12 (ma_12 G a _) rfl (by omega) (by decide) dX12_parents_231 ?_
    refine lv_iload_n hx hb dX12_parents_232 rfl (lv_at hl 1 rfl) ?_
    have hP : va_P G.1 pCl (mW G h0 a F (updA (updA B 52 up) 52 up)) _ := hP
    have hD : va_D A (mW G h0 a F (updA (updA B 52 up) 52 up)) := mW_D hD
    refine pc_V0 (G := G) (As := [.int ((B 12) n9), .int (nI n9)]) (rest := []) hx hb hml hown hq hE hX pX0_al hP hD hS hA hl.1 (R_lies l G h0 a F (updA B 52 up) ((B 12) n9) (nI n9) nd up (sok.or (hsl 1 (by omega) (by omega)) (by decide)) (by omega)) (gV pw_1918 pw_1919 pw_1920 pw_1523 pw_1913) hV_X12_lies 0 9 rfl rfl rfl rfl (Nat.le_of_ble_eq_true rfl) dX12_parents_233 ⟨Nat.le_of_ble_eq_true rfl, Nat.le_of_ble_eq_true rfl⟩ ⟨Nat.le_of_ble_eq_true rfl, Nat.le_of_ble_eq_true rfl⟩ (fun v402 u400 H locs hw401 hP hD hS => ?_)
    obtain ⟨up403, rfl⟩ : ∃ z, z = u400 := ⟨_, rfl⟩
    obtain ⟨hw401, h404⟩ := hw401
    replace h404 : up403 = lieF up ((B 12) n9) (nI n9) := h404
    obtain rfl : v402 = none := hw401
    have hP : va_P G.1 pCl (mW G h0 a F (updA B 52 up403)) _ := hP
    have hD : va_D A (mW G h0 a F (updA B 52 up403)) := mW_D hD
    refine W.widen (k := 0) (n := 0) (Nat.le_of_ble_eq_true rfl) (Nat.le_of_ble_eq_true rfl) ?_
    refine W.eq (g2 := F0 m 236 ls []) rfl ?_
    have hpq405 : PQ gh nd n9 up up403 (fun j => (False ∨ (B 12 n9) = nI j)) := (PQ.lies hpq399 (hsl 1 (by omega) (by omega)) ⟨by decide, by decide⟩ (by omega) hnd h404)
    refine lv_aload_n hx hb dX12_parents_236 rfl (lv_at hl 0 rfl) ?_
    refine lv_aload_n hx hb dX12_parents_237 rfl (lv_at hl 0 rfl) ?_
    refine r_get (v := .ref (a 13)) hx hb hown hq hE hP 21 50 tFX12_21 (by decide) pw_1443 rfl dX12_parents_238 ?_
    refine lv_iload_n hx hb dX12_parents_241 rfl (lv_at hl 1 rfl) ?_
    refine r_ldi (f := (B 13)) (j := n9) hx hb hE hP 13 (ma_13 G a _) rfl (by omega) (by decide) dX12_parents_242 ?_
    refine lv_iload_n hx hb dX12_parents_243 rfl (lv_at hl 1 rfl) ?_
    have hP : va_P G.1 pCl (mW G h0 a F (updA (updA B 52 up403) 52 up403)) _ := hP
    have hD : va_D A (mW G h0 a F (updA (updA B 52 up403) 52 up403)) := mW_D hD
    refine pc_V0 (G := G) (As := [.int ((B 13) n9), .int (nI n9)]) (rest := []) hx hb hml hown hq hE hX pX0_al hP hD hS hA hl.1 (R_lies l G h0 a F (updA B 52 up403) ((B 13) n9) (nI n9) nd up403 (sok.or (hsl 2 (by omega) (by omega)) (by decide)) (by omega)) (gV pw_1918 pw_1919 pw_1920 pw_1523 pw_1913) hV_X12_lies 0 9 rfl rfl rfl rfl (Nat.le_of_ble_eq_true rfl) dX12_parents_244 ⟨Nat.le_of_ble_eq_true rfl, Nat.le_of_ble_eq_true rfl⟩ ⟨Nat.le_of_ble_eq_true rfl, Nat.le_of_ble_eq_true rfl⟩ (fun v408 u406 H locs hw407 hP hD hS => ?_)
    obtain ⟨up409, rfl⟩ : ∃ z, z = u406 := ⟨_, rfl⟩
    obtain ⟨hw407, h410⟩ := hw407
    replace h410 : up409 = lieF up403 ((B 13) n9) (nI n9) := h410
    obtain rfl : v408 = none := hw407
    have hP : va_P G.1 pCl (mW G h0 a F (updA B 52 up409)) _ := hP
    have hD : va_D A (mW G h0 a F (updA B 52 up409)) := mW_D hD
    refine W.widen (k := 0) (n := 0) (Nat.le_of_ble_eq_true rfl) (Nat.le_of_ble_eq_true rfl) ?_
    refine W.eq (g2 := F0 m 247 ls []) rfl ?_
    have hpq411 : PQ gh nd n9 up up409 (fun j => ((False ∨ (B 12 n9) = nI j) ∨ (B 13 n9) = nI j)) := (PQ.lies hpq405 (hsl 2 (by omega) (by omega)) ⟨by decide, by decide⟩ (by omega) hnd h410)
    refine lv_goto (tgt := 361) hx hb dX12_parents_247 (by decide) ?_
    have hDD412 : ∀ j : Nat, pch B n9 j → ((False ∨ (B 12 n9) = nI j) ∨ (B 13 n9) = nI j) := (fun j ⟨k2, s, e, k4, s1, s4, hc⟩ => by have e2 : 35 = k2 := (nI_eq (by omega) (by omega)).mp (ek.symm.trans e); subst e2; exact ch4 (p := fun s => chs (cdOf 35 s) (B (11 + s) n9) (B 16) j → ((False ∨ (B 12 n9) = nI j) ∨ (B 13 n9) = nI j)) (fun hc => hc.2.elim (fun z => Or.inl (Or.inr z.2)) (fun z => absurd z.1 (by decide))) (fun hc => hc.2.elim (fun z => Or.inr z.2) (fun z => absurd z.1 (by decide))) (fun hc => absurd hc.1 (by decide)) (fun hc => absurd hc.1 (by decide)) s s1 s4 hc)
    have hz413 : ∀ j : Nat, j < 20000 → pch B n9 j → up409 j = nI n9 := (fun j hj q => hpq411.1 j hj (hDD412 j q))
    have hz414 : ∀ j : Nat, j < nd → ¬ gh 0 j / 8 = n9 → up409 j = up j := hpq411.2
    have hP : va_P G.1 pCl (mW G h0 a F (updA B 52 up409)) _ := hP
    have hD : va_D A (mW G h0 a F (updA B 52 up409)) := mW_D hD
    exact W.vret hx hb hr (fun t9 ht9 hW9 => ⟨⟨_, up409, rfl, ⟨rfl, hz413, hz414⟩, by rw [ht9]; exact hP, hD⟩, hS.F ht9⟩) hS.2.2 dX12_parents_361
  · refine lv_topi (fun x415 e416 => ?_)
    obtain rfl : x415 = 36 := e416.trans ek
    have hpq417 : PQ gh nd n9 up up (fun j => False) := PQ.start
    refine lv_tableIn (tgt := 250) (off := 244) hx hb dX12_parents_6 (by decide) (by decide) (by decide) (by decide) ?_
    refine lv_aload_n hx hb dX12_parents_250 rfl (lv_at hl 0 rfl) ?_
    refine lv_aload_n hx hb dX12_parents_251 rfl (lv_at hl 0 rfl) ?_
    refine r_get (v := .ref (a 12)) hx hb hown hq hE hP 20 47 tFX12_20 (by decide) pw_1442 rfl dX12_parents_252 ?_
    refine lv_iload_n hx hb dX12_parents_255 rfl (lv_at hl 1 rfl) ?_
    refine r_ldi (f := (B 12)) (j := n9) hx hb hE hP 12 (ma_12 G a _) rfl (by omega) (by decide) dX12_parents_256 ?_
    refine lv_iload_n hx hb dX12_parents_257 rfl (lv_at hl 1 rfl) ?_
    have hP : va_P G.1 pCl (mW G h0 a F (updA (updA B 52 up) 52 up)) _ := hP
    have hD : va_D A (mW G h0 a F (updA (updA B 52 up) 52 up)) := mW_D hD
    refine pc_V0 (G := G) (As := [.int ((B 12) n9), .int (nI n9)]) (rest := []) hx hb hml hown hq hE hX pX0_al hP hD hS hA hl.1 (R_lies l G h0 a F (updA B 52 up) ((B 12) n9) (nI n9) nd up (sok.or (hsl 1 (by omega) (by omega)) (by decide)) (by omega)) (gV pw_1918 pw_1919 pw_1920 pw_1523 pw_1913) hV_X12_lies 0 9 rfl rfl rfl rfl (Nat.le_of_ble_eq_true rfl) dX12_parents_258 ⟨Nat.le_of_ble_eq_true rfl, Nat.le_of_ble_eq_true rfl⟩ ⟨Nat.le_of_ble_eq_true rfl, Nat.le_of_ble_eq_true rfl⟩ (fun v420 u418 H locs hw419 hP hD hS => ?_)
    obtain ⟨up421, rfl⟩ : ∃ z, z = u418 := ⟨_, rfl⟩
    obtain ⟨hw419, h422⟩ := hw419
    replace h422 : up421 = lieF up ((B 12) n9) (nI n9) := h422
    obtain rfl : v420 = none := hw419
    have hP : va_P G.1 pCl (mW G h0 a F (updA B 52 up421)) _ := hP
    have hD : va_D A (mW G h0 a F (updA B 52 up421)) := mW_D hD
    refine W.widen (k := 0) (n := 0) (Nat.le_of_ble_eq_true rfl) (Nat.le_of_ble_eq_true rfl) ?_
    refine W.eq (g2 := F0 m 261 ls []) rfl ?_
    have hpq423 : PQ gh nd n9 up up421 (fun j => (False ∨ (B 12 n9) = nI j)) := (PQ.lies hpq417 (hsl 1 (by omega) (by omega)) ⟨by decide, by decide⟩ (by omega) hnd h422)
    refine lv_aload_n hx hb dX12_parents_261 rfl (lv_at hl 0 rfl) ?_
    refine lv_aload_n hx hb dX12_parents_262 rfl (lv_at hl 0 rfl) ?_
    refine r_get (v := .ref (a 13)) hx hb hown hq hE hP 21 50 tFX12_21 (by decide) pw_1443 rfl dX12_parents_263 ?_
    refine lv_iload_n hx hb dX12_parents_266 rfl (lv_at hl 1 rfl) ?_
    refine r_ldi (f := (B 13)) (j := n9) hx hb hE hP 13 (ma_13 G a _) rfl (by omega) (by decide) dX12_parents_267 ?_
    refine lv_iload_n hx hb dX12_parents_268 rfl (lv_at hl 1 rfl) ?_
    have hP : va_P G.1 pCl (mW G h0 a F (updA (updA B 52 up421) 52 up421)) _ := hP
    have hD : va_D A (mW G h0 a F (updA (updA B 52 up421) 52 up421)) := mW_D hD
    refine pc_V0 (G := G) (As := [.int ((B 13) n9), .int (nI n9)]) (rest := []) hx hb hml hown hq hE hX pX0_al hP hD hS hA hl.1 (R_lies l G h0 a F (updA B 52 up421) ((B 13) n9) (nI n9) nd up421 (sok.or (hsl 2 (by omega) (by omega)) (by decide)) (by omega)) (gV pw_1918 pw_1919 pw_1920 pw_1523 pw_1913) hV_X12_lies 0 9 rfl rfl rfl rfl (Nat.le_of_ble_eq_true rfl) dX12_parents_269 ⟨Nat.le_of_ble_eq_true rfl, Nat.le_of_ble_eq_true rfl⟩ ⟨Nat.le_of_ble_eq_true rfl, Nat.le_of_ble_eq_true rfl⟩ (fun v426 u424 H locs hw425 hP hD hS => ?_)
    obtain ⟨up427, rfl⟩ : ∃ z, z = u424 := ⟨_, rfl⟩
    obtain ⟨hw425, h428⟩ := hw425
    replace h428 : up427 = lieF up421 ((B 13) n9) (nI n9) := h428
    obtain rfl : v426 = none := hw425
    have hP : va_P G.1 pCl (mW G h0 a F (updA B 52 up427)) _ := hP
    have hD : va_D A (mW G h0 a F (updA B 52 up427)) := mW_D hD
    refine W.widen (k := 0) (n := 0) (Nat.le_of_ble_eq_true rfl) (Nat.le_of_ble_eq_true rfl) ?_
    refine W.eq (g2 := F0 m 272 ls []) rfl ?_
    have hpq429 : PQ gh nd n9 up up427 (fun j => ((False ∨ (B 12 n9) = nI j) ∨ (B 13 n9) = nI j)) := (PQ.lies hpq423 (hsl 2 (by omega) (by omega)) ⟨by decide, by decide⟩ (by omega) hnd h428)
    refine lv_aload_n hx hb dX12_parents_272 rfl (lv_at hl 0 rfl) ?_
    refine lv_aload_n hx hb dX12_parents_273 rfl (lv_at hl 0 rfl) ?_
    refine r_get (v := .ref (a 14)) hx hb hown hq hE hP 22 53 tFX12_22 (by decide) pw_1444 rfl dX12_parents_274 ?_
    refine lv_iload_n hx hb dX12_parents_277 rfl (lv_at hl 1 rfl) ?_
    refine r_ldi (f := (B 14)) (j := n9) hx hb hE hP 14 (ma_14 G a _) rfl (by omega) (by decide) dX12_parents_278 ?_
    refine lv_iload_n hx hb dX12_parents_279 rfl (lv_at hl 1 rfl) ?_
    have hP : va_P G.1 pCl (mW G h0 a F (updA (updA B 52 up427) 52 up427)) _ := hP
    have hD : va_D A (mW G h0 a F (updA (updA B 52 up427) 52 up427)) := mW_D hD
    refine pc_V0 (G := G) (As := [.int ((B 14) n9), .int (nI n9)]) (rest := []) hx hb hml hown hq hE hX pX0_al hP hD hS hA hl.1 (R_lies l G h0 a F (updA B 52 up427) ((B 14) n9) (nI n9) nd up427 (sok.or (hsl 3 (by omega) (by omega)) (by decide)) (by omega)) (gV pw_1918 pw_1919 pw_1920 pw_1523 pw_1913) hV_X12_lies 0 9 rfl rfl rfl rfl (Nat.le_of_ble_eq_true rfl) dX12_parents_280 ⟨Nat.le_of_ble_eq_true rfl, Nat.le_of_ble_eq_true rfl⟩ ⟨Nat.le_of_ble_eq_true rfl, Nat.le_of_ble_eq_true rfl⟩ (fun v432 u430 H locs hw431 hP hD hS => ?_)
    obtain ⟨up433, rfl⟩ : ∃ z, z = u430 := ⟨_, rfl⟩
    obtain ⟨hw431, h434⟩ := hw431
    replace h434 : up433 = lieF up427 ((B 14) n9) (nI n9) := h434
    obtain rfl : v432 = none := hw431
    have hP : va_P G.1 pCl (mW G h0 a F (updA B 52 up433)) _ := hP
    have hD : va_D A (mW G h0 a F (updA B 52 up433)) := mW_D hD
    refine W.widen (k := 0) (n := 0) (Nat.le_of_ble_eq_true rfl) (Nat.le_of_ble_eq_true rfl) ?_
    refine W.eq (g2 := F0 m 283 ls []) rfl ?_
    have hpq435 : PQ gh nd n9 up up433 (fun j => (((False ∨ (B 12 n9) = nI j) ∨ (B 13 n9) = nI j) ∨ (B 14 n9) = nI j)) := (PQ.lies hpq429 (hsl 3 (by omega) (by omega)) ⟨by decide, by decide⟩ (by omega) hnd h434)
    refine lv_aload_n hx hb dX12_parents_283 rfl (lv_at hl 0 rfl) ?_
    refine lv_aload_n hx hb dX12_parents_284 rfl (lv_at hl 0 rfl) ?_
    refine r_get (v := .ref (a 15)) hx hb hown hq hE hP 23 56 tFX12_23 (by decide) pw_1445 rfl dX12_parents_285 ?_
    refine lv_iload_n hx hb dX12_parents_288 rfl (lv_at hl 1 rfl) ?_
    refine r_ldi (f := (B 15)) (j := n9) hx hb hE hP 15 (ma_15 G a _) rfl (by omega) (by decide) dX12_parents_289 ?_
    refine lv_iload_n hx hb dX12_parents_290 rfl (lv_at hl 1 rfl) ?_
    have hP : va_P G.1 pCl (mW G h0 a F (updA (updA B 52 up433) 52 up433)) _ := hP
    have hD : va_D A (mW G h0 a F (updA (updA B 52 up433) 52 up433)) := mW_D hD
    refine pc_V0 (G := G) (As := [.int ((B 15) n9), .int (nI n9)]) (rest := []) hx hb hml hown hq hE hX pX0_al hP hD hS hA hl.1 (R_lies l G h0 a F (updA B 52 up433) ((B 15) n9) (nI n9) nd up433 (sok.or (hsl 4 (by omega) (by omega)) (by decide)) (by omega)) (gV pw_1918 pw_1919 pw_1920 pw_1523 pw_1913) hV_X12_lies 0 9 rfl rfl rfl rfl (Nat.le_of_ble_eq_true rfl) dX12_parents_291 ⟨Nat.le_of_ble_eq_true rfl, Nat.le_of_ble_eq_true rfl⟩ ⟨Nat.le_of_ble_eq_true rfl, Nat.le_of_ble_eq_true rfl⟩ (fun v438 u436 H locs hw437 hP hD hS => ?_)
    obtain ⟨up439, rfl⟩ : ∃ z, z = u436 := ⟨_, rfl⟩
    obtain ⟨hw437, h440⟩ := hw437
    replace h440 : up439 = lieF up433 ((B 15) n9) (nI n9) := h440
    obtain rfl : v438 = none := hw437
    have hP : va_P G.1 pCl (mW G h0 a F (updA B 52 up439)) _ := hP
    have hD : va_D A (mW G h0 a F (updA B 52 up439)) := mW_D hD
    refine W.widen (k := 0) (n := 0) (Nat.le_of_ble_eq_true rfl) (Nat.le_of_ble_eq_true rfl) ?_
    refine W.eq (g2 := F0 m 294 ls []) rfl ?_
    have hpq441 : PQ gh nd n9 up up439 (fun j => ((((False ∨ (B 12 n9) = nI j) ∨ (B 13 n9) = nI j) ∨ (B 14 n9) = nI j) ∨ (B 15 n9) = nI j)) := (PQ.lies hpq435 (hsl 4 (by omega) (by omega)) ⟨by decide, by decide⟩ (by omega) hnd h440)
    refine lv_goto (tgt := 361) hx hb dX12_parents_294 (by decide) ?_
    have hDD442 : ∀ j : Nat, pch B n9 j → ((((False ∨ (B 12 n9) = nI j) ∨ (B 13 n9) = nI j) ∨ (B 14 n9) = nI j) ∨ (B 15 n9) = nI j) := (fun j ⟨k2, s, e, k4, s1, s4, hc⟩ => by have e2 : 36 = k2 := (nI_eq (by omega) (by omega)).mp (ek.symm.trans e); subst e2; exact ch4 (p := fun s => chs (cdOf 36 s) (B (11 + s) n9) (B 16) j → ((((False ∨ (B 12 n9) = nI j) ∨ (B 13 n9) = nI j) ∨ (B 14 n9) = nI j) ∨ (B 15 n9) = nI j)) (fun hc => hc.2.elim (fun z => Or.inl (Or.inl (Or.inl (Or.inr z.2)))) (fun z => absurd z.1 (by decide))) (fun hc => hc.2.elim (fun z => Or.inl (Or.inl (Or.inr z.2))) (fun z => absurd z.1 (by decide))) (fun hc => hc.2.elim (fun z => Or.inl (Or.inr z.2)) (fun z => absurd z.1 (by decide))) (fun hc => hc.2.elim (fun z => Or.inr z.2) (fun z => absurd z.1 (by decide))) s s1 s4 hc)
    have hz443 : ∀ j : Nat, j < 20000 → pch B n9 j → up439 j = nI n9 := (fun j hj q => hpq441.1 j hj (hDD442 j q))
    have hz444 : ∀ j : Nat, j < nd → ¬ gh 0 j / 8 = n9 → up439 j = up j := hpq441.2
    have hP : va_P G.1 pCl (mW G h0 a F (updA B 52 up439)) _ := hP
    have hD : va_D A (mW G h0 a F (updA B 52 up439)) := mW_D hD
    exact W.vret hx hb hr (fun t9 ht9 hW9 => ⟨⟨_, up439, rfl, ⟨rfl, hz443, hz444⟩, by rw [ht9]; exact hP, hD⟩, hS.F ht9⟩) hS.2.2 dX12_parents_361
  · refine lv_topi (fun x445 e446 => ?_)
    obtain rfl : x445 = 37 := e446.trans ek
    have hpq447 : PQ gh nd n9 up up (fun j => False) := PQ.start
    refine lv_tableIn (tgt := 211) (off := 205) hx hb dX12_parents_6 (by decide) (by decide) (by decide) (by decide) ?_
    refine lv_aload_n hx hb dX12_parents_211 rfl (lv_at hl 0 rfl) ?_
    refine lv_aload_n hx hb dX12_parents_212 rfl (lv_at hl 0 rfl) ?_
    refine r_get (v := .ref (a 12)) hx hb hown hq hE hP 20 47 tFX12_20 (by decide) pw_1442 rfl dX12_parents_213 ?_
    refine lv_iload_n hx hb dX12_parents_216 rfl (lv_at hl 1 rfl) ?_
    refine r_ldi (f := (B 12)) (j := n9) hx hb hE hP 12 (ma_12 G a _) rfl (by omega) (by decide) dX12_parents_217 ?_
    refine lv_iload_n hx hb dX12_parents_218 rfl (lv_at hl 1 rfl) ?_
    have hP : va_P G.1 pCl (mW G h0 a F (updA (updA B 52 up) 52 up)) _ := hP
    have hD : va_D A (mW G h0 a F (updA (updA B 52 up) 52 up)) := mW_D hD
    refine pc_V0 (G := G) (As := [.int ((B 12) n9), .int (nI n9)]) (rest := []) hx hb hml hown hq hE hX pX0_al hP hD hS hA hl.1 (R_lies l G h0 a F (updA B 52 up) ((B 12) n9) (nI n9) nd up (sok.or (hsl 1 (by omega) (by omega)) (by decide)) (by omega)) (gV pw_1918 pw_1919 pw_1920 pw_1523 pw_1913) hV_X12_lies 0 9 rfl rfl rfl rfl (Nat.le_of_ble_eq_true rfl) dX12_parents_219 ⟨Nat.le_of_ble_eq_true rfl, Nat.le_of_ble_eq_true rfl⟩ ⟨Nat.le_of_ble_eq_true rfl, Nat.le_of_ble_eq_true rfl⟩ (fun v450 u448 H locs hw449 hP hD hS => ?_)
    obtain ⟨up451, rfl⟩ : ∃ z, z = u448 := ⟨_, rfl⟩
    obtain ⟨hw449, h452⟩ := hw449
    replace h452 : up451 = lieF up ((B 12) n9) (nI n9) := h452
    obtain rfl : v450 = none := hw449
    have hP : va_P G.1 pCl (mW G h0 a F (updA B 52 up451)) _ := hP
    have hD : va_D A (mW G h0 a F (updA B 52 up451)) := mW_D hD
    refine W.widen (k := 0) (n := 0) (Nat.le_of_ble_eq_true rfl) (Nat.le_of_ble_eq_true rfl) ?_
    refine W.eq (g2 := F0 m 222 ls []) rfl ?_
    have hpq453 : PQ gh nd n9 up up451 (fun j => (False ∨ (B 12 n9) = nI j)) := (PQ.lies hpq447 (hsl 1 (by omega) (by omega)) ⟨by decide, by decide⟩ (by omega) hnd h452)
    refine lv_goto (tgt := 361) hx hb dX12_parents_222 (by decide) ?_
    have hDD454 : ∀ j : Nat, pch B n9 j → (False ∨ (B 12 n9) = nI j) := (fun j ⟨k2, s, e, k4, s1, s4, hc⟩ => by have e2 : 37 = k2 := (nI_eq (by omega) (by omega)).mp (ek.symm.trans e); subst e2; exact ch4 (p := fun s => chs (cdOf 37 s) (B (11 + s) n9) (B 16) j → (False ∨ (B 12 n9) = nI j)) (fun hc => hc.2.elim (fun z => Or.inr z.2) (fun z => absurd z.1 (by decide))) (fun hc => absurd hc.1 (by decide)) (fun hc => absurd hc.1 (by decide)) (fun hc => absurd hc.1 (by decide)) s s1 s4 hc)
    have hz455 : ∀ j : Nat, j < 20000 → pch B n9 j → up451 j = nI n9 := (fun j hj q => hpq453.1 j hj (hDD454 j q))
    have hz456 : ∀ j : Nat, j < nd → ¬ gh 0 j / 8 = n9 → up451 j = up j := hpq453.2
    have hP : va_P G.1 pCl (mW G h0 a F (updA B 52 up451)) _ := hP
    have hD : va_D A (mW G h0 a F (updA B 52 up451)) := mW_D hD
    exact W.vret hx hb hr (fun t9 ht9 hW9 => ⟨⟨_, up451, rfl, ⟨rfl, hz455, hz456⟩, by rw [ht9]; exact hP, hD⟩, hS.F ht9⟩) hS.2.2 dX12_parents_361
  · refine lv_topi (fun x457 e458 => ?_)
    obtain rfl : x457 = 38 := e458.trans ek
    have hpq459 : PQ gh nd n9 up up (fun j => False) := PQ.start
    refine lv_tableIn (tgt := 361) (off := 355) hx hb dX12_parents_6 (by decide) (by decide) (by decide) (by decide) ?_
    have hDD460 : ∀ j : Nat, pch B n9 j → False := (fun j ⟨k2, s, e, k4, s1, s4, hc⟩ => by have e2 : 38 = k2 := (nI_eq (by omega) (by omega)).mp (ek.symm.trans e); subst e2; exact ch4 (p := fun s => chs (cdOf 38 s) (B (11 + s) n9) (B 16) j → False) (fun hc => absurd hc.1 (by decide)) (fun hc => absurd hc.1 (by decide)) (fun hc => absurd hc.1 (by decide)) (fun hc => absurd hc.1 (by decide)) s s1 s4 hc)
    have hz461 : ∀ j : Nat, j < 20000 → pch B n9 j → up j = nI n9 := (fun j hj q => hpq459.1 j hj (hDD460 j q))
    have hz462 : ∀ j : Nat, j < nd → ¬ gh 0 j / 8 = n9 → up j = up j := hpq459.2
    have hP : va_P G.1 pCl (mW G h0 a F (updA B 52 up)) _ := hP
    have hD : va_D A (mW G h0 a F (updA B 52 up)) := mW_D hD
    exact W.vret hx hb hr (fun t9 ht9 hW9 => ⟨⟨_, up, rfl, ⟨rfl, hz461, hz462⟩, by rw [ht9]; exact hP, hD⟩, hS.F ht9⟩) hS.2.2 dX12_parents_361
  · refine lv_topi (fun x463 e464 => ?_)
    obtain rfl : x463 = 39 := e464.trans ek
    have hpq465 : PQ gh nd n9 up up (fun j => False) := PQ.start
    refine lv_tableIn (tgt := 361) (off := 355) hx hb dX12_parents_6 (by decide) (by decide) (by decide) (by decide) ?_
    have hDD466 : ∀ j : Nat, pch B n9 j → False := (fun j ⟨k2, s, e, k4, s1, s4, hc⟩ => by have e2 : 39 = k2 := (nI_eq (by omega) (by omega)).mp (ek.symm.trans e); subst e2; exact ch4 (p := fun s => chs (cdOf 39 s) (B (11 + s) n9) (B 16) j → False) (fun hc => absurd hc.1 (by decide)) (fun hc => absurd hc.1 (by decide)) (fun hc => absurd hc.1 (by decide)) (fun hc => absurd hc.1 (by decide)) s s1 s4 hc)
    have hz467 : ∀ j : Nat, j < 20000 → pch B n9 j → up j = nI n9 := (fun j hj q => hpq465.1 j hj (hDD466 j q))
    have hz468 : ∀ j : Nat, j < nd → ¬ gh 0 j / 8 = n9 → up j = up j := hpq465.2
    have hP : va_P G.1 pCl (mW G h0 a F (updA B 52 up)) _ := hP
    have hD : va_D A (mW G h0 a F (updA B 52 up)) := mW_D hD
    exact W.vret hx hb hr (fun t9 ht9 hW9 => ⟨⟨_, up, rfl, ⟨rfl, hz467, hz468⟩, by rw [ht9]; exact hP, hD⟩, hS.F ht9⟩) hS.2.2 dX12_parents_361
  · refine lv_topi (fun x469 e470 => ?_)
    obtain rfl : x469 = 40 := e470.trans ek
    have hpq471 : PQ gh nd n9 up up (fun j => False) := PQ.start
    refine lv_tableIn (tgt := 211) (off := 205) hx hb dX12_parents_6 (by decide) (by decide) (by decide) (by decide) ?_
    refine lv_aload_n hx hb dX12_parents_211 rfl (lv_at hl 0 rfl) ?_
    refine lv_aload_n hx hb dX12_parents_212 rfl (lv_at hl 0 rfl) ?_
    refine r_get (v := .ref (a 12)) hx hb hown hq hE hP 20 47 tFX12_20 (by decide) pw_1442 rfl dX12_parents_213 ?_
    refine lv_iload_n hx hb dX12_parents_216 rfl (lv_at hl 1 rfl) ?_
    refine r_ldi (f := (B 12)) (j := n9) hx hb hE hP 12 (ma_12 G a _) rfl (by omega) (by decide) dX12_parents_217 ?_
    refine lv_iload_n hx hb dX12_parents_218 rfl (lv_at hl 1 rfl) ?_
    have hP : va_P G.1 pCl (mW G h0 a F (updA (updA B 52 up) 52 up)) _ := hP
    have hD : va_D A (mW G h0 a F (updA (updA B 52 up) 52 up)) := mW_D hD
    refine pc_V0 (G := G) (As := [.int ((B 12) n9), .int (nI n9)]) (rest := []) hx hb hml hown hq hE hX pX0_al hP hD hS hA hl.1 (R_lies l G h0 a F (updA B 52 up) ((B 12) n9) (nI n9) nd up (sok.or (hsl 1 (by omega) (by omega)) (by decide)) (by omega)) (gV pw_1918 pw_1919 pw_1920 pw_1523 pw_1913) hV_X12_lies 0 9 rfl rfl rfl rfl (Nat.le_of_ble_eq_true rfl) dX12_parents_219 ⟨Nat.le_of_ble_eq_true rfl, Nat.le_of_ble_eq_true rfl⟩ ⟨Nat.le_of_ble_eq_true rfl, Nat.le_of_ble_eq_true rfl⟩ (fun v474 u472 H locs hw473 hP hD hS => ?_)
    obtain ⟨up475, rfl⟩ : ∃ z, z = u472 := ⟨_, rfl⟩
    obtain ⟨hw473, h476⟩ := hw473
    replace h476 : up475 = lieF up ((B 12) n9) (nI n9) := h476
    obtain rfl : v474 = none := hw473
    have hP : va_P G.1 pCl (mW G h0 a F (updA B 52 up475)) _ := hP
    have hD : va_D A (mW G h0 a F (updA B 52 up475)) := mW_D hD
    refine W.widen (k := 0) (n := 0) (Nat.le_of_ble_eq_true rfl) (Nat.le_of_ble_eq_true rfl) ?_
    refine W.eq (g2 := F0 m 222 ls []) rfl ?_
    have hpq477 : PQ gh nd n9 up up475 (fun j => (False ∨ (B 12 n9) = nI j)) := (PQ.lies hpq471 (hsl 1 (by omega) (by omega)) ⟨by decide, by decide⟩ (by omega) hnd h476)
    refine lv_goto (tgt := 361) hx hb dX12_parents_222 (by decide) ?_
    have hDD478 : ∀ j : Nat, pch B n9 j → (False ∨ (B 12 n9) = nI j) := (fun j ⟨k2, s, e, k4, s1, s4, hc⟩ => by have e2 : 40 = k2 := (nI_eq (by omega) (by omega)).mp (ek.symm.trans e); subst e2; exact ch4 (p := fun s => chs (cdOf 40 s) (B (11 + s) n9) (B 16) j → (False ∨ (B 12 n9) = nI j)) (fun hc => hc.2.elim (fun z => Or.inr z.2) (fun z => absurd z.1 (by decide))) (fun hc => absurd hc.1 (by decide)) (fun hc => absurd hc.1 (by decide)) (fun hc => absurd hc.1 (by decide)) s s1 s4 hc)
    have hz479 : ∀ j : Nat, j < 20000 → pch B n9 j → up475 j = nI n9 := (fun j hj q => hpq477.1 j hj (hDD478 j q))
    have hz480 : ∀ j : Nat, j < nd → ¬ gh 0 j / 8 = n9 → up475 j = up j := hpq477.2
    have hP : va_P G.1 pCl (mW G h0 a F (updA B 52 up475)) _ := hP
    have hD : va_D A (mW G h0 a F (updA B 52 up475)) := mW_D hD
    exact W.vret hx hb hr (fun t9 ht9 hW9 => ⟨⟨_, up475, rfl, ⟨rfl, hz479, hz480⟩, by rw [ht9]; exact hP, hD⟩, hS.F ht9⟩) hS.2.2 dX12_parents_361
  · refine lv_topi (fun x481 e482 => ?_)
    obtain rfl : x481 = 41 := e482.trans ek
    have hpq483 : PQ gh nd n9 up up (fun j => False) := PQ.start
    refine lv_tableIn (tgt := 325) (off := 319) hx hb dX12_parents_6 (by decide) (by decide) (by decide) (by decide) ?_
    refine lv_aload_n hx hb dX12_parents_325 rfl (lv_at hl 0 rfl) ?_
    refine lv_aload_n hx hb dX12_parents_326 rfl (lv_at hl 0 rfl) ?_
    refine r_get (v := .ref (a 12)) hx hb hown hq hE hP 20 47 tFX12_20 (by decide) pw_1442 rfl dX12_parents_327 ?_
    refine lv_iload_n hx hb dX12_parents_330 rfl (lv_at hl 1 rfl) ?_
    refine r_ldi (f := (B 12)) (j := n9) hx hb hE hP 12 (ma_12 G a _) rfl (by omega) (by decide) dX12_parents_331 ?_
    refine lv_iload_n hx hb dX12_parents_332 rfl (lv_at hl 1 rfl) ?_
    have hP : va_P G.1 pCl (mW G h0 a F (updA (updA B 52 up) 52 up)) _ := hP
    have hD : va_D A (mW G h0 a F (updA (updA B 52 up) 52 up)) := mW_D hD
    refine pc_V0 (G := G) (As := [.int ((B 12) n9), .int (nI n9)]) (rest := []) hx hb hml hown hq hE hX pX0_al hP hD hS hA hl.1 (R_lies l G h0 a F (updA B 52 up) ((B 12) n9) (nI n9) nd up (sok.or (hsl 1 (by omega) (by omega)) (by decide)) (by omega)) (gV pw_1918 pw_1919 pw_1920 pw_1523 pw_1913) hV_X12_lies 0 9 rfl rfl rfl rfl (Nat.le_of_ble_eq_true rfl) dX12_parents_333 ⟨Nat.le_of_ble_eq_true rfl, Nat.le_of_ble_eq_true rfl⟩ ⟨Nat.le_of_ble_eq_true rfl, Nat.le_of_ble_eq_true rfl⟩ (fun v486 u484 H locs hw485 hP hD hS => ?_)
    obtain ⟨up487, rfl⟩ : ∃ z, z = u484 := ⟨_, rfl⟩
    obtain ⟨hw485, h488⟩ := hw485
    replace h488 : up487 = lieF up ((B 12) n9) (nI n9) := h488
    obtain rfl : v486 = none := hw485
    have hP : va_P G.1 pCl (mW G h0 a F (updA B 52 up487)) _ := hP
    have hD : va_D A (mW G h0 a F (updA B 52 up487)) := mW_D hD
    refine W.widen (k := 0) (n := 0) (Nat.le_of_ble_eq_true rfl) (Nat.le_of_ble_eq_true rfl) ?_
    refine W.eq (g2 := F0 m 336 ls []) rfl ?_
    have hpq489 : PQ gh nd n9 up up487 (fun j => (False ∨ (B 12 n9) = nI j)) := (PQ.lies hpq483 (hsl 1 (by omega) (by omega)) ⟨by decide, by decide⟩ (by omega) hnd h488)
    refine lv_aload_n hx hb dX12_parents_336 rfl (lv_at hl 0 rfl) ?_
    refine lv_aload_n hx hb dX12_parents_337 rfl (lv_at hl 0 rfl) ?_
    refine r_get (v := .ref (a 13)) hx hb hown hq hE hP 21 50 tFX12_21 (by decide) pw_1443 rfl dX12_parents_338 ?_
    refine lv_iload_n hx hb dX12_parents_341 rfl (lv_at hl 1 rfl) ?_
    refine r_ldi (f := (B 13)) (j := n9) hx hb hE hP 13 (ma_13 G a _) rfl (by omega) (by decide) dX12_parents_342 ?_
    refine lv_iload_n hx hb dX12_parents_343 rfl (lv_at hl 1 rfl) ?_
    have hP : va_P G.1 pCl (mW G h0 a F (updA (updA (updA B 52 up487) 16 (B 16)) 52 up487)) _ := hP
    have hD : va_D A (mW G h0 a F (updA (updA (updA B 52 up487) 16 (B 16)) 52 up487)) := mW_D hD
    refine pc_V0 (G := G) (As := [.int ((B 13) n9), .int (nI n9)]) (rest := []) hx hb hml hown hq hE hX pX0_al hP hD hS hA hl.1 (R_lieAll l G h0 a F (updA B 52 up487) ((B 13) n9) (nI n9) nd up487 (B 16) (sok.or (hsl 2 (by omega) (by omega)) (by decide)) (by omega) (Fs2.lnr hF)) (gV pw_1915 pw_1916 pw_1917 pw_1523 pw_1912) hV_X12_lieAll 0 9 rfl rfl rfl rfl (Nat.le_of_ble_eq_true rfl) dX12_parents_344 ⟨Nat.le_of_ble_eq_true rfl, Nat.le_of_ble_eq_true rfl⟩ ⟨Nat.le_of_ble_eq_true rfl, Nat.le_of_ble_eq_true rfl⟩ (fun v492 u490 H locs hw491 hP hD hS => ?_)
    obtain ⟨up493, rfl⟩ : ∃ z, z = u490 := ⟨_, rfl⟩
    obtain ⟨hw491, h494⟩ := hw491
    replace h494 : LieA (B 16) up487 up493 ((B 13) n9) (nI n9) := h494
    obtain rfl : v492 = none := hw491
    have hP : va_P G.1 pCl (mW G h0 a F (updA B 52 up493)) _ := hP
    have hD : va_D A (mW G h0 a F (updA B 52 up493)) := mW_D hD
    refine W.widen (k := 0) (n := 0) (Nat.le_of_ble_eq_true rfl) (Nat.le_of_ble_eq_true rfl) ?_
    refine W.eq (g2 := F0 m 347 ls []) rfl ?_
    have hpq495 : PQ gh nd n9 up up493 (fun j => ((False ∨ (B 12 n9) = nI j) ∨ ∃ i : Nat, itr (B 16) (B 13 n9) i = nI j)) := (PQ.list hpq489 hF (hsl 2 (by omega) (by omega)) ⟨by decide, by decide⟩ hnd h494)
    refine lv_aload_n hx hb dX12_parents_347 rfl (lv_at hl 0 rfl) ?_
    refine lv_aload_n hx hb dX12_parents_348 rfl (lv_at hl 0 rfl) ?_
    refine r_get (v := .ref (a 14)) hx hb hown hq hE hP 22 53 tFX12_22 (by decide) pw_1444 rfl dX12_parents_349 ?_
    refine lv_iload_n hx hb dX12_parents_352 rfl (lv_at hl 1 rfl) ?_
    refine r_ldi (f := (B 14)) (j := n9) hx hb hE hP 14 (ma_14 G a _) rfl (by omega) (by decide) dX12_parents_353 ?_
    refine lv_iload_n hx hb dX12_parents_354 rfl (lv_at hl 1 rfl) ?_
    have hP : va_P G.1 pCl (mW G h0 a F (updA (updA B 52 up493) 52 up493)) _ := hP
    have hD : va_D A (mW G h0 a F (updA (updA B 52 up493) 52 up493)) := mW_D hD
    refine pc_V0 (G := G) (As := [.int ((B 14) n9), .int (nI n9)]) (rest := []) hx hb hml hown hq hE hX pX0_al hP hD hS hA hl.1 (R_lies l G h0 a F (updA B 52 up493) ((B 14) n9) (nI n9) nd up493 (sok.or (hsl 3 (by omega) (by omega)) (by decide)) (by omega)) (gV pw_1918 pw_1919 pw_1920 pw_1523 pw_1913) hV_X12_lies 0 9 rfl rfl rfl rfl (Nat.le_of_ble_eq_true rfl) dX12_parents_355 ⟨Nat.le_of_ble_eq_true rfl, Nat.le_of_ble_eq_true rfl⟩ ⟨Nat.le_of_ble_eq_true rfl, Nat.le_of_ble_eq_true rfl⟩ (fun v498 u496 H locs hw497 hP hD hS => ?_)
    obtain ⟨up499, rfl⟩ : ∃ z, z = u496 := ⟨_, rfl⟩
    obtain ⟨hw497, h500⟩ := hw497
    replace h500 : up499 = lieF up493 ((B 14) n9) (nI n9) := h500
    obtain rfl : v498 = none := hw497
    have hP : va_P G.1 pCl (mW G h0 a F (updA B 52 up499)) _ := hP
    have hD : va_D A (mW G h0 a F (updA B 52 up499)) := mW_D hD
    refine W.widen (k := 0) (n := 0) (Nat.le_of_ble_eq_true rfl) (Nat.le_of_ble_eq_true rfl) ?_
    refine W.eq (g2 := F0 m 358 ls []) rfl ?_
    have hpq501 : PQ gh nd n9 up up499 (fun j => (((False ∨ (B 12 n9) = nI j) ∨ ∃ i : Nat, itr (B 16) (B 13 n9) i = nI j) ∨ (B 14 n9) = nI j)) := (PQ.lies hpq495 (hsl 3 (by omega) (by omega)) ⟨by decide, by decide⟩ (by omega) hnd h500)
    refine lv_goto (tgt := 361) hx hb dX12_parents_358 (by decide) ?_
    have hDD502 : ∀ j : Nat, pch B n9 j → (((False ∨ (B 12 n9) = nI j) ∨ ∃ i : Nat, itr (B 16) (B 13 n9) i = nI j) ∨ (B 14 n9) = nI j) := (fun j ⟨k2, s, e, k4, s1, s4, hc⟩ => by have e2 : 41 = k2 := (nI_eq (by omega) (by omega)).mp (ek.symm.trans e); subst e2; exact ch4 (p := fun s => chs (cdOf 41 s) (B (11 + s) n9) (B 16) j → (((False ∨ (B 12 n9) = nI j) ∨ ∃ i : Nat, itr (B 16) (B 13 n9) i = nI j) ∨ (B 14 n9) = nI j)) (fun hc => hc.2.elim (fun z => Or.inl (Or.inl (Or.inr z.2))) (fun z => absurd z.1 (by decide))) (fun hc => hc.2.elim (fun z => absurd z.1 (by decide)) (fun z => Or.inl (Or.inr z.2))) (fun hc => hc.2.elim (fun z => Or.inr z.2) (fun z => absurd z.1 (by decide))) (fun hc => absurd hc.1 (by decide)) s s1 s4 hc)
    have hz503 : ∀ j : Nat, j < 20000 → pch B n9 j → up499 j = nI n9 := (fun j hj q => hpq501.1 j hj (hDD502 j q))
    have hz504 : ∀ j : Nat, j < nd → ¬ gh 0 j / 8 = n9 → up499 j = up j := hpq501.2
    have hP : va_P G.1 pCl (mW G h0 a F (updA B 52 up499)) _ := hP
    have hD : va_D A (mW G h0 a F (updA B 52 up499)) := mW_D hD
    exact W.vret hx hb hr (fun t9 ht9 hW9 => ⟨⟨_, up499, rfl, ⟨rfl, hz503, hz504⟩, by rw [ht9]; exact hP, hD⟩, hS.F ht9⟩) hS.2.2 dX12_parents_361
  · refine lv_topi (fun x505 e506 => ?_)
    obtain rfl : x505 = 42 := e506.trans ek
    have hpq507 : PQ gh nd n9 up up (fun j => False) := PQ.start
    refine lv_tableIn (tgt := 211) (off := 205) hx hb dX12_parents_6 (by decide) (by decide) (by decide) (by decide) ?_
    refine lv_aload_n hx hb dX12_parents_211 rfl (lv_at hl 0 rfl) ?_
    refine lv_aload_n hx hb dX12_parents_212 rfl (lv_at hl 0 rfl) ?_
    refine r_get (v := .ref (a 12)) hx hb hown hq hE hP 20 47 tFX12_20 (by decide) pw_1442 rfl dX12_parents_213 ?_
    refine lv_iload_n hx hb dX12_parents_216 rfl (lv_at hl 1 rfl) ?_
    refine r_ldi (f := (B 12)) (j := n9) hx hb hE hP 12 (ma_12 G a _) rfl (by omega) (by decide) dX12_parents_217 ?_
    refine lv_iload_n hx hb dX12_parents_218 rfl (lv_at hl 1 rfl) ?_
    have hP : va_P G.1 pCl (mW G h0 a F (updA (updA B 52 up) 52 up)) _ := hP
    have hD : va_D A (mW G h0 a F (updA (updA B 52 up) 52 up)) := mW_D hD
    refine pc_V0 (G := G) (As := [.int ((B 12) n9), .int (nI n9)]) (rest := []) hx hb hml hown hq hE hX pX0_al hP hD hS hA hl.1 (R_lies l G h0 a F (updA B 52 up) ((B 12) n9) (nI n9) nd up (sok.or (hsl 1 (by omega) (by omega)) (by decide)) (by omega)) (gV pw_1918 pw_1919 pw_1920 pw_1523 pw_1913) hV_X12_lies 0 9 rfl rfl rfl rfl (Nat.le_of_ble_eq_true rfl) dX12_parents_219 ⟨Nat.le_of_ble_eq_true rfl, Nat.le_of_ble_eq_true rfl⟩ ⟨Nat.le_of_ble_eq_true rfl, Nat.le_of_ble_eq_true rfl⟩ (fun v510 u508 H locs hw509 hP hD hS => ?_)
    obtain ⟨up511, rfl⟩ : ∃ z, z = u508 := ⟨_, rfl⟩
    obtain ⟨hw509, h512⟩ := hw509
    replace h512 : up511 = lieF up ((B 12) n9) (nI n9) := h512
    obtain rfl : v510 = none := hw509
    have hP : va_P G.1 pCl (mW G h0 a F (updA B 52 up511)) _ := hP
    have hD : va_D A (mW G h0 a F (updA B 52 up511)) := mW_D hD
    refine W.widen (k := 0) (n := 0) (Nat.le_of_ble_eq_true rfl) (Nat.le_of_ble_eq_true rfl) ?_
    refine W.eq (g2 := F0 m 222 ls []) rfl ?_
    have hpq513 : PQ gh nd n9 up up511 (fun j => (False ∨ (B 12 n9) = nI j)) := (PQ.lies hpq507 (hsl 1 (by omega) (by omega)) ⟨by decide, by decide⟩ (by omega) hnd h512)
    refine lv_goto (tgt := 361) hx hb dX12_parents_222 (by decide) ?_
    have hDD514 : ∀ j : Nat, pch B n9 j → (False ∨ (B 12 n9) = nI j) := (fun j ⟨k2, s, e, k4, s1, s4, hc⟩ => by have e2 : 42 = k2 := (nI_eq (by omega) (by omega)).mp (ek.symm.trans e); subst e2; exact ch4 (p := fun s => chs (cdOf 42 s) (B (11 + s) n9) (B 16) j → (False ∨ (B 12 n9) = nI j)) (fun hc => hc.2.elim (fun z => Or.inr z.2) (fun z => absurd z.1 (by decide))) (fun hc => absurd hc.1 (by decide)) (fun hc => absurd hc.1 (by decide)) (fun hc => absurd hc.1 (by decide)) s s1 s4 hc)
    have hz515 : ∀ j : Nat, j < 20000 → pch B n9 j → up511 j = nI n9 := (fun j hj q => hpq513.1 j hj (hDD514 j q))
    have hz516 : ∀ j : Nat, j < nd → ¬ gh 0 j / 8 = n9 → up511 j = up j := hpq513.2
    have hP : va_P G.1 pCl (mW G h0 a F (updA B 52 up511)) _ := hP
    have hD : va_D A (mW G h0 a F (updA B 52 up511)) := mW_D hD
    exact W.vret hx hb hr (fun t9 ht9 hW9 => ⟨⟨_, up511, rfl, ⟨rfl, hz515, hz516⟩, by rw [ht9]; exact hP, hD⟩, hS.F ht9⟩) hS.2.2 dX12_parents_361
  · refine lv_topi (fun x517 e518 => ?_)
    obtain rfl : x517 = 43 := e518.trans ek
    have hpq519 : PQ gh nd n9 up up (fun j => False) := PQ.start
    refine lv_tableIn (tgt := 361) (off := 355) hx hb dX12_parents_6 (by decide) (by decide) (by decide) (by decide) ?_
    have hDD520 : ∀ j : Nat, pch B n9 j → False := (fun j ⟨k2, s, e, k4, s1, s4, hc⟩ => by have e2 : 43 = k2 := (nI_eq (by omega) (by omega)).mp (ek.symm.trans e); subst e2; exact ch4 (p := fun s => chs (cdOf 43 s) (B (11 + s) n9) (B 16) j → False) (fun hc => absurd hc.1 (by decide)) (fun hc => absurd hc.1 (by decide)) (fun hc => absurd hc.1 (by decide)) (fun hc => absurd hc.1 (by decide)) s s1 s4 hc)
    have hz521 : ∀ j : Nat, j < 20000 → pch B n9 j → up j = nI n9 := (fun j hj q => hpq519.1 j hj (hDD520 j q))
    have hz522 : ∀ j : Nat, j < nd → ¬ gh 0 j / 8 = n9 → up j = up j := hpq519.2
    have hP : va_P G.1 pCl (mW G h0 a F (updA B 52 up)) _ := hP
    have hD : va_D A (mW G h0 a F (updA B 52 up)) := mW_D hD
    exact W.vret hx hb hr (fun t9 ht9 hW9 => ⟨⟨_, up, rfl, ⟨rfl, hz521, hz522⟩, by rw [ht9]; exact hP, hD⟩, hS.F ht9⟩) hS.2.2 dX12_parents_361
  · refine lv_topi (fun x523 e524 => ?_)
    obtain rfl : x523 = 44 := e524.trans ek
    have hpq525 : PQ gh nd n9 up up (fun j => False) := PQ.start
    refine lv_tableIn (tgt := 297) (off := 291) hx hb dX12_parents_6 (by decide) (by decide) (by decide) (by decide) ?_
    refine lv_aload_n hx hb dX12_parents_297 rfl (lv_at hl 0 rfl) ?_
    refine lv_aload_n hx hb dX12_parents_298 rfl (lv_at hl 0 rfl) ?_
    refine r_get (v := .ref (a 13)) hx hb hown hq hE hP 21 50 tFX12_21 (by decide) pw_1443 rfl dX12_parents_299 ?_
    refine lv_iload_n hx hb dX12_parents_302 rfl (lv_at hl 1 rfl) ?_
    refine r_ldi (f := (B 13)) (j := n9) hx hb hE hP 13 (ma_13 G a _) rfl (by omega) (by decide) dX12_parents_303 ?_
    refine lv_iload_n hx hb dX12_parents_304 rfl (lv_at hl 1 rfl) ?_
    have hP : va_P G.1 pCl (mW G h0 a F (updA (updA B 52 up) 52 up)) _ := hP
    have hD : va_D A (mW G h0 a F (updA (updA B 52 up) 52 up)) := mW_D hD
    refine pc_V0 (G := G) (As := [.int ((B 13) n9), .int (nI n9)]) (rest := []) hx hb hml hown hq hE hX pX0_al hP hD hS hA hl.1 (R_lies l G h0 a F (updA B 52 up) ((B 13) n9) (nI n9) nd up (sok.or (hsl 2 (by omega) (by omega)) (by decide)) (by omega)) (gV pw_1918 pw_1919 pw_1920 pw_1523 pw_1913) hV_X12_lies 0 9 rfl rfl rfl rfl (Nat.le_of_ble_eq_true rfl) dX12_parents_305 ⟨Nat.le_of_ble_eq_true rfl, Nat.le_of_ble_eq_true rfl⟩ ⟨Nat.le_of_ble_eq_true rfl, Nat.le_of_ble_eq_true rfl⟩ (fun v528 u526 H locs hw527 hP hD hS => ?_)
    obtain ⟨up529, rfl⟩ : ∃ z, z = u526 := ⟨_, rfl⟩
    obtain ⟨hw527, h530⟩ := hw527
    replace h530 : up529 = lieF up ((B 13) n9) (nI n9) := h530
    obtain rfl : v528 = none := hw527
    have hP : va_P G.1 pCl (mW G h0 a F (updA B 52 up529)) _ := hP
    have hD : va_D A (mW G h0 a F (updA B 52 up529)) := mW_D hD
    refine W.widen (k := 0) (n := 0) (Nat.le_of_ble_eq_true rfl) (Nat.le_of_ble_eq_true rfl) ?_
    refine W.eq (g2 := F0 m 308 ls []) rfl ?_
    have hpq531 : PQ gh nd n9 up up529 (fun j => (False ∨ (B 13 n9) = nI j)) := (PQ.lies hpq525 (hsl 2 (by omega) (by omega)) ⟨by decide, by decide⟩ (by omega) hnd h530)
    refine lv_goto (tgt := 361) hx hb dX12_parents_308 (by decide) ?_
    have hDD532 : ∀ j : Nat, pch B n9 j → (False ∨ (B 13 n9) = nI j) := (fun j ⟨k2, s, e, k4, s1, s4, hc⟩ => by have e2 : 44 = k2 := (nI_eq (by omega) (by omega)).mp (ek.symm.trans e); subst e2; exact ch4 (p := fun s => chs (cdOf 44 s) (B (11 + s) n9) (B 16) j → (False ∨ (B 13 n9) = nI j)) (fun hc => absurd hc.1 (by decide)) (fun hc => hc.2.elim (fun z => Or.inr z.2) (fun z => absurd z.1 (by decide))) (fun hc => absurd hc.1 (by decide)) (fun hc => absurd hc.1 (by decide)) s s1 s4 hc)
    have hz533 : ∀ j : Nat, j < 20000 → pch B n9 j → up529 j = nI n9 := (fun j hj q => hpq531.1 j hj (hDD532 j q))
    have hz534 : ∀ j : Nat, j < nd → ¬ gh 0 j / 8 = n9 → up529 j = up j := hpq531.2
    have hP : va_P G.1 pCl (mW G h0 a F (updA B 52 up529)) _ := hP
    have hD : va_D A (mW G h0 a F (updA B 52 up529)) := mW_D hD
    exact W.vret hx hb hr (fun t9 ht9 hW9 => ⟨⟨_, up529, rfl, ⟨rfl, hz533, hz534⟩, by rw [ht9]; exact hP, hD⟩, hS.F ht9⟩) hS.2.2 dX12_parents_361
