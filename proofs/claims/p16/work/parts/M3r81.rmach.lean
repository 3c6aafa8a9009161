/-! values and their types -/
def rtO (oc os : Nat → Int32) (x : Nat) : Nat := if 4000 < x then x - 3990 else if oc (x - 1) = -1 then 1000 + (os (x - 1)).toNatClampNeg else 10 + (oc (x - 1)).toNatClampNeg
section MV
variable {od oc os om oa cl da ds dI sn : Nat → Int32} {on dc x s t r : Nat} {v : Int32}
/-- what fits is not of another sort -/
theorem fit_cls {a b : Nat} (h : fitF da a b = 1) : ¬ a = 0 ∧ ¬ b = 0 ∧ (a < 3 → a = b) := by
  unfold fitF at h
  by_cases q : a = 0 ∨ b = 0
  · rw [if_pos q] at h; exact absurd h (by decide)
  · rw [if_neg q] at h
    refine ⟨by omega, by omega, fun l => ?_⟩
    by_cases e : a = b
    · exact e
    · rw [if_neg e, if_pos (by omega)] at h; exact absurd h (by decide)
/-- one type, or a class above it, or a row's, or a row's of a class above it -/
def FitC (da : Nat → Int32) (a b : Nat) : Prop := a = b ∨ (a = 3 ∧ 3 < b) ∨ (10 ≤ a ∧ a < 1000 ∧ 10 ≤ b ∧ b < 1000 ∧ da (40 * (b - 10) + (a - 10)) = 1) ∨ (1000 ≤ a ∧ b = 10) ∨ (1010 ≤ a ∧ 1010 ≤ b ∧ a < 2000 ∧ b < 2000 ∧ da (40 * (b - 1010) + (a - 1010)) = 1)
theorem FitC.of {a b : Nat} (h : fitF da a b = 1) (ha : TyC dc a) (hb : TyC dc b) : FitC da a b ∧ ¬ a = 0 ∧ ¬ b = 0 := by
  obtain ⟨n1, n2, n3⟩ := fit_cls h
  refine ⟨?_, n1, n2⟩
  unfold FitC
  by_cases e : a = b
  · exact Or.inl e
  · unfold fitF at h
    rw [if_neg (by omega), if_neg e] at h
    by_cases q : a < 3 ∨ b < 3 ∨ b = 3
    · rw [if_pos q] at h; exact absurd h (by decide)
    · rw [if_neg q] at h
      by_cases q1 : a = 3
      · exact Or.inr (Or.inl ⟨q1, by omega⟩)
      · rw [if_neg q1] at h
        have a10 := TyC.mid ha (by omega)
        have b10 := TyC.mid hb (by omega)
        by_cases q2 : b < 1000
        · rw [if_pos q2] at h
          by_cases q3 : 1000 ≤ a
          · rw [if_pos q3] at h
            by_cases q4 : b = 10
            · exact Or.inr (Or.inr (Or.inr (Or.inl ⟨q3, q4⟩)))
            · rw [if_neg q4] at h; exact absurd h (by decide)
          · rw [if_neg q3] at h
            exact Or.inr (Or.inr (Or.inl ⟨a10, by omega, b10, q2, h⟩))
        · rw [if_neg q2] at h
          by_cases q3 : 1010 ≤ a ∧ 1010 ≤ b ∧ a < 2000 ∧ b < 2000
          · rw [if_pos q3] at h
            exact Or.inr (Or.inr (Or.inr (Or.inr ⟨q3.1, q3.2.1, q3.2.2.1, q3.2.2.2, h⟩)))
          · rw [if_neg q3] at h; exact absurd h (by decide)
theorem FitC.to {a b : Nat} (h : FitC da a b) (n1 : ¬ a = 0) (n2 : ¬ b = 0) : fitF da a b = 1 := by
  by_cases e : a = b
  · exact fit_e n1 n2 e
  · rcases h with h | ⟨h1, h2⟩ | ⟨h1, h2, h3, h4, h5⟩ | ⟨h1, h2⟩ | ⟨h1, h2, h3, h4, h5⟩
    · exact absurd h e
    · exact fit_3 h2 h1
    · rw [fit_c (by omega) h2 (by omega) h4 e]; exact h5
    · exact fit_r1 h1 h2
    · rw [fit_rr h1 h2 h3 h4 e]; exact h5
theorem fit_trans {a b c : Nat} (A : AbOK da ds dI dc) (hd : dc ≤ 37) (ha : TyC dc a) (hb : TyC dc b) (hc : TyC dc c) (h1 : fitF da a b = 1) (h2 : fitF da b c = 1) : fitF da a c = 1 := by
  obtain ⟨f1, n1, n2⟩ := FitC.of h1 ha hb
  obtain ⟨f2, _, n3⟩ := FitC.of h2 hb hc
  refine FitC.to ?_ n1 n3
  rcases f1 with e | ⟨e1, e2⟩ | ⟨e1, e2, e3, e4, e5⟩ | ⟨e1, e2⟩ | ⟨e1, e2, e3, e4, e5⟩
  · rw [e]; exact f2
  · rcases f2 with g | ⟨g1, g2⟩ | ⟨g1, g2, g3, g4, g5⟩ | ⟨g1, g2⟩ | ⟨g1, g2, g3, g4, g5⟩
    · rw [← g]; exact Or.inr (Or.inl ⟨e1, e2⟩)
    · omega
    · exact Or.inr (Or.inl ⟨e1, by omega⟩)
    · exact Or.inr (Or.inl ⟨e1, by omega⟩)
    · exact Or.inr (Or.inl ⟨e1, by omega⟩)
  · have ca := TyC.cls ha e1 e2
    have cb := TyC.cls hb e3 e4
    rcases f2 with g | ⟨g1, g2⟩ | ⟨g1, g2, g3, g4, g5⟩ | ⟨g1, g2⟩ | ⟨g1, g2, g3, g4, g5⟩
    · rw [← g]; exact Or.inr (Or.inr (Or.inl ⟨e1, e2, e3, e4, e5⟩))
    · omega
    · have cc := TyC.cls hc g3 g4
      exact Or.inr (Or.inr (Or.inl ⟨e1, e2, g3, g4, A.2.1 (b - 10) (c - 10) (a - 10) (by omega) (by omega) (by omega) g5 e5⟩))
    · omega
    · omega
  · rcases f2 with g | ⟨g1, g2⟩ | ⟨g1, g2, g3, g4, g5⟩ | ⟨g1, g2⟩ | ⟨g1, g2, g3, g4, g5⟩
    · rw [← g]; exact Or.inr (Or.inr (Or.inr (Or.inl ⟨e1, e2⟩)))
    · omega
    · have cc := TyC.cls hc g3 g4
      have := (A.2.2.2 (c - 10) (b - 10) (by omega) (by omega) g5).2.1
      omega
    · omega
    · omega
  · have ca := TyC.row ha e1 e3 hd
    have cb := TyC.row hb e2 e4 hd
    rcases f2 with g | ⟨g1, g2⟩ | ⟨g1, g2, g3, g4, g5⟩ | ⟨g1, g2⟩ | ⟨g1, g2, g3, g4, g5⟩
    · rw [← g]; exact Or.inr (Or.inr (Or.inr (Or.inr ⟨e1, e2, e3, e4, e5⟩)))
    · omega
    · omega
    · exact Or.inr (Or.inr (Or.inr (Or.inl ⟨by omega, g2⟩)))
    · have cc := TyC.row hc g2 g4 hd
      exact Or.inr (Or.inr (Or.inr (Or.inr ⟨e1, g2, e3, g4, A.2.1 (b - 1010) (c - 1010) (a - 1010) (by omega) (by omega) (by omega) g5 e5⟩)))
end MV
/-- v may stand where type t is wanted -/
def VTd (od oc os da : Nat → Int32) (on dc : Nat) (v : Int32) (t : Nat) : Prop := t < 3 ∨ v = 0 ∨ ∃ x : Nat, v = nI x ∧ ((1 ≤ x ∧ x ≤ 3000 ∧ Lvd od on (x - 1)) ∨ (4001 ≤ x ∧ x ≤ 4006)) ∧ TyC dc (rtO oc os x) ∧ fitF da (rtO oc os x) t = 1
section MH
variable {od oc os om oa cl da ds dI sn od1 oc1 os1 om1 oa1 cl1 : Nat → Int32} {on on1 dc x s t r : Nat} {v kk so : Int32} {Xs : Nat → Nat → Int32} {fd : Nat}
theorem VTd.zero : VTd od oc os da on dc 0 t := Or.inr (Or.inl rfl)
theorem VTd.num (h : t < 3) : VTd od oc os da on dc v t := Or.inl h
theorem VTd.ref (h : VTd od oc os da on dc v t) (ht : 3 ≤ t) : RfV od on v := by
  rcases h with h | h | ⟨x, e, h, _⟩
  · omega
  · exact ⟨0, h, Or.inl rfl⟩
  · exact ⟨x, e, Or.inr h⟩
theorem VTd.up (A : AbOK da ds dI dc) (hd : dc ≤ 37) (hs : TyC dc s) (ht : TyC dc t) (h : VTd od oc os da on dc v s) (g : fitF da s t = 1) : VTd od oc os da on dc v t := by
  obtain ⟨n1, n2, n3⟩ := fit_cls g
  rcases h with h | h | ⟨x, e, h1, h2, h3⟩
  · have := n3 h; exact Or.inl (by omega)
  · exact Or.inr (Or.inl h)
  · exact Or.inr (Or.inr ⟨x, e, h1, h2, fit_trans A hd h2 hs ht h3 g⟩)
/-- a new thing, or none: what was seen is what it was -/
theorem VTd.make (l : ∀ o : Nat, o < 3000 → (Lvd od1 on1 o ↔ (Lvd od on o ∧ ¬ sn o = 0) ∨ (0 < r ∧ o = r - 1))) (hr : 0 < r → oc1 = upd oc (r - 1) kk ∧ os1 = upd os (r - 1) so ∧ (¬ Lvd od on (r - 1) ∨ sn (r - 1) = 0)) (h0 : r = 0 → oc1 = oc ∧ os1 = os) (h : VTd od oc os da on dc v t) (g : 3 ≤ t → RfS sn v) : VTd od1 oc1 os1 da on1 dc v t := by
  rcases h with h | h | ⟨x, e, h1, h2, h3⟩
  · exact Or.inl h
  · exact Or.inr (Or.inl h)
  · by_cases q : t < 3
    · exact Or.inl q
    · have s := g (by omega)
      have rt : rtO oc1 os1 x = rtO oc os x := by
        rcases Nat.eq_zero_or_pos r with z | z
        · rw [(h0 z).1, (h0 z).2]
        · obtain ⟨e1, e2, e3⟩ := hr z
          rw [e1, e2]
          unfold rtO
          by_cases w : 4000 < x
          · rw [if_pos w, if_pos w]
          · have hx : 1 ≤ x ∧ x ≤ 3000 ∧ Lvd od on (x - 1) := h1.resolve_right (by omega)
            have ne : ¬ x - 1 = r - 1 := fun y => by
              rw [← y] at e3
              exact e3.elim (fun u => u hx.2.2) (fun u => s x e hx.1 hx.2.1 u)
            rw [show upd oc (r - 1) kk (x - 1) = oc (x - 1) from if_neg ne, show upd os (r - 1) so (x - 1) = os (x - 1) from if_neg ne]
      refine Or.inr (Or.inr ⟨x, e, ?_, by rw [rt]; exact h2, by rw [rt]; exact h3⟩)
      rcases h1 with ⟨y1, y2, y3⟩ | y
      · exact Or.inl ⟨y1, y2, (l (x - 1) (by omega)).mpr (Or.inl ⟨y3, s x e y1 y2⟩)⟩
      · exact Or.inr y
end MH
/-! where the run stands: surroundings, the phrases whose values wait below, last blocks entered (for each, how many loops are around it) -/
abbrev Ps : Type := En × List Nat × List Nat
/-- the first i of a list -/
def arL (X : Nat → Nat → Int32) (v : Int32) : Nat → List Nat
  | 0 => []
  | i + 1 => arL X v i ++ [(itr (X 16) v i).toNatClampNeg]
theorem arL_len {X : Nat → Nat → Int32} {v : Int32} : ∀ i : Nat, (arL X v i).length = i := by
  intro i
  induction i with
  | zero => rfl
  | succ i ih => show (arL X v i ++ [_]).length = _; rw [List.length_append, ih]; rfl
/-- what waits ahead of a child -/
def pnL (X : Nat → Nat → Int32) (n : Nat) (w : List Nat) : Nat → Nat → Nat → List Nat
  | 7, _, i => w ++ arL X (X 13 n) i
  | 8, _, i => w ++ arL X (X 13 n) i
  | 14, 2, i => w ++ [chN X 1 n] ++ arL X (X 13 n) i
  | 15, 2, _ => w ++ [chN X 1 n]
  | 18, 2, _ => w ++ [chN X 1 n]
  | 32, 2, _ => if X 9 (chN X 1 n) = 12 then w ++ [chN X 1 (chN X 1 n)] else if X 9 (chN X 1 n) = 15 then w ++ [chN X 1 (chN X 1 n)] ++ [chN X 2 (chN X 1 n)] else w
  | _, _, _ => w
def pst (X : Nat → Nat → Int32) (n : Nat) (y : Ps) (kk s i : Nat) : Ps := (cenv X n y.1 kk s i, pnL X n y.2.1 kk s i, if kk = 41 ∧ s = 3 then y.2.2 ++ [y.1.2.1] else y.2.2)
def stq (X : Nat → Nat → Int32) (n : Nat) (y : Ps) (c : Nat) (z : Ps) : Prop := ∃ kk s i : Nat, X 9 n = nI kk ∧ kk ≤ 44 ∧ 1 ≤ s ∧ s ≤ 4 ∧ c < 20000 ∧ nch kk s = false ∧ ((cdOf kk s < 200 ∧ X (11 + s) n = nI c ∧ i = 0) ∨ (200 ≤ cdOf kk s ∧ itr (X 16) (X (11 + s) n) i = nI c)) ∧ z = pst X n y kk s i
def PvP (X : Nat → Nat → Int32) : Nat → Nat → Ps → Nat → Ps → Prop
  | 0, n, y, j, z => n = j ∧ y = z
  | h + 1, n, y, j, z => (n = j ∧ y = z) ∨ ∃ c : Nat, ∃ u : Ps, stq X n y c u ∧ PvP X h c u j z
def Pv (X : Nat → Nat → Int32) (n : Nat) (y : Ps) (j : Nat) (z : Ps) : Prop := ∃ h : Nat, PvP X h n y j z
section PV
variable {K : Nat → Int32} {T wr nd n c j kk s i : Nat} {X : Nat → Nat → Int32} {gh : Nat → Nat → Nat} {y z u : Ps}
theorem stq.stp (h : stq X n y c z) : stp X n y.1 c z.1 := by
  obtain ⟨kk, s, i, h1, h2, h3, h4, h5, h6, h7, h8⟩ := h
  exact ⟨kk, s, i, h1, h2, h3, h4, h5, h6, h7.imp (fun q => ⟨q.1, q.2.1⟩) id, by rw [h8]; rfl⟩
theorem Pv.rfl : Pv X n y n y := ⟨0, Eq.refl _, Eq.refl _⟩
theorem PvP.ev : ∀ m n : Nat, ∀ y : Ps, ∀ j : Nat, ∀ z : Ps, PvP X m n y j z → Ev X n y.1 j z.1 := by
  intro m
  induction m with
  | zero => intro n y j z h; rw [h.1, h.2]; exact Ev.rfl
  | succ m ih =>
    intro n y j z h
    rcases h with h | ⟨c, u, a, b⟩
    · rw [h.1, h.2]; exact Ev.rfl
    · exact Ev.step a.stp (ih c u j z b)
theorem Pv.ev (h : Pv X n y j z) : Ev X n y.1 j z.1 := by
  obtain ⟨m, h⟩ := h
  exact PvP.ev m n y j z h
theorem PvP.snoc : ∀ m n : Nat, ∀ y : Ps, ∀ j : Nat, ∀ z : Ps, PvP X m n y j z → ∀ c : Nat, ∀ u : Ps, stq X j z c u → Pv X n y c u := by
  intro m
  induction m with
  | zero => intro n y j z h c u g; rw [h.1, h.2]; exact ⟨1, Or.inr ⟨c, u, g, Eq.refl _, Eq.refl _⟩⟩
  | succ m ih =>
    intro n y j z h c u g
    rcases h with h | ⟨d, w, a, b⟩
    · rw [h.1, h.2]; exact ⟨1, Or.inr ⟨c, u, g, Eq.refl _, Eq.refl _⟩⟩
    · obtain ⟨k, q⟩ := ih d w j z b c u g
      exact ⟨k + 1, Or.inr ⟨d, w, a, q⟩⟩
theorem Pv.snoc (h : Pv X n y j z) (g : stq X j z c u) : Pv X n y c u := by
  obtain ⟨m, h⟩ := h
  exact PvP.snoc m n y j z h c u g
/-- the step ahead of the last -/
theorem PvP.last : ∀ m n : Nat, ∀ y : Ps, ∀ j : Nat, ∀ z : Ps, PvP X m n y j z → (n = j ∧ y = z) ∨ ∃ p : Nat, ∃ u : Ps, Pv X n y p u ∧ stq X p u j z := by
  intro m
  induction m with
  | zero => intro n y j z h; exact Or.inl h
  | succ m ih =>
    intro n y j z h
    rcases h with h | ⟨c, u, a, b⟩
    · exact Or.inl h
    · rcases ih c u j z b with ⟨e1, e2⟩ | ⟨p, w, q1, q2⟩
      · exact Or.inr ⟨n, y, Pv.rfl, by rw [← e1, ← e2]; exact a⟩
      · obtain ⟨k, q1⟩ := q1
        exact Or.inr ⟨p, w, ⟨k + 1, Or.inr ⟨c, u, a, q1⟩⟩, q2⟩
theorem Pv.last (h : Pv X n y j z) : (n = j ∧ y = z) ∨ ∃ p : Nat, ∃ u : Ps, Pv X n y p u ∧ stq X p u j z := by
  obtain ⟨m, h⟩ := h
  exact PvP.last m n y j z h
/-- one step: what waits grows by less than the height falls, but for an assignment's second place -/
theorem stq.hgt (hF : Fs2 K T wr X gh nd) (hnd : nd ≤ 12000) (hn : n < nd) (h : stq X n y c z) (h8 : ∀ i : Nat, X 9 n = nI 7 ∨ X 9 n = nI 8 ∨ X 9 n = nI 14 → (∃ c : Nat, c < 20000 ∧ itr (X 16) (X 13 n) i = nI c) → i < 8) : c < nd ∧ gh 1 c < gh 1 n ∧ (z.2.1.length + gh 1 c ≤ y.2.1.length + gh 1 n ∨ (X 9 n = nI 32 ∧ z.2.1.length ≤ y.2.1.length + 2)) ∧ (z.2.2.length + (gh 1 c - 280) / 4 ≤ y.2.2.length + (gh 1 n - 280) / 4) := by
  obtain ⟨kk, s, i, h1, h2, h3, h4, h5, h6, h7, h9⟩ := h
  obtain ⟨p1, p2, p3⟩ := slP.p0 hF hnd hn h1 h2 h3 h4 h5 h6 (h7.imp (fun q => ⟨q.1, q.2.1⟩) (fun q => ⟨q.1, i, q.2⟩))
  have hs : hst (gh 1 c) (gh 1 n) (if 200 ≤ cdOf kk s then 5 else s) (X 9 c) (X 9 n) := by
    rcases (hF c p1).2.2.2.1 with q | ⟨p, t, q1, q2, q3, q4, q5⟩
    · rw [q] at p3; split at p3 <;> omega
    · have e1 : p = n := by rw [p3] at q2; split at q2 <;> omega
      have e2 : t = (if 200 ≤ cdOf kk s then 5 else s) := by rw [p3, e1] at q2; omega
      rw [← e1, ← e2]; exact q5
  refine ⟨p1, hs.1, ?_, ?_⟩
  · have lcl1 : cdOf kk s = 201 → s = 2 → gh 1 c + 8 ≤ gh 1 n := fun q q2 => by
      subst q2
      rcases h7 with w | w
      · omega
      · rcases list_par hF hnd hn h1 h2 (by omega) h5 w.2 with ⟨_, _, _, _, v⟩ | v
        · refine hs.2.1 (by rw [if_pos (by omega)]) ?_
          obtain ⟨k3, x1, x2, x3, _⟩ := hF.knd p1
          rw [q] at v
          rw [x1] at v ⊢
          have dec : ∀ q : Nat, q ≤ 44 → kcl (201 % 100) (nI q) = true → lcl (nI q) = 1 := by decide
          exact dec k3 x3 v
        · exact absurd q v
    have li := hs.1
    have ii : (kk = 7 ∨ kk = 8 ∨ kk = 14) → s = 2 → i < 8 := fun q q2 => by
      subst q2
      refine h8 i (by rcases q with q | q | q <;> rw [h1, q] <;> simp) ⟨c, h5, ?_⟩
      rcases h7 with w | w
      · rcases q with q | q | q <;> subst q <;> exact absurd w.1 (by decide)
      · exact w.2
    rw [h9]
    show (pnL X n y.2.1 kk s i).length + _ ≤ _ ∨ _
    have c201 : (kk = 7 ∨ kk = 8 ∨ kk = 14) → s = 2 → cdOf kk s = 201 := fun q q2 => by
      subst q2
      rcases q with q | q | q <;> subst q <;> decide
    have s2 : kk = 7 ∨ kk = 8 → s = 2 := fun q => by
      have d7 : ∀ s : Nat, s ≤ 4 → 1 ≤ s → nch 7 s = false → s = 2 := by decide
      have d8 : ∀ s : Nat, s ≤ 4 → 1 ≤ s → nch 8 s = false → s = 2 := by decide
      rcases q with q | q <;> subst q
      · exact d7 s h4 h3 h6
      · exact d8 s h4 h3 h6
    unfold pnL
    split
    · have e2 := s2 (Or.inl rfl)
      have := lcl1 (c201 (Or.inl rfl) e2) e2
      have := ii (Or.inl rfl) e2
      rw [List.length_append, arL_len]; omega
    · have e2 := s2 (Or.inr rfl)
      have := lcl1 (c201 (Or.inr (Or.inl rfl)) e2) e2
      have := ii (Or.inr (Or.inl rfl)) e2
      rw [List.length_append, arL_len]; omega
    · have := lcl1 (c201 (Or.inr (Or.inr rfl)) rfl) rfl
      have := ii (Or.inr (Or.inr rfl)) rfl
      rw [List.length_append, List.length_append, arL_len]
      show y.2.1.length + 1 + i + _ ≤ _ ∨ _
      omega
    · rw [List.length_append]; show y.2.1.length + 1 + _ ≤ _ ∨ _; omega
    · rw [List.length_append]; show y.2.1.length + 1 + _ ≤ _ ∨ _; omega
    · refine Or.inr ⟨h1, ?_⟩
      show (if X 9 (chN X 1 n) = 12 then y.2.1 ++ [chN X 1 (chN X 1 n)] else if X 9 (chN X 1 n) = 15 then y.2.1 ++ [chN X 1 (chN X 1 n)] ++ [chN X 2 (chN X 1 n)] else y.2.1).length ≤ y.2.1.length + 2
      by_cases q1 : X 9 (chN X 1 n) = 12
      · rw [if_pos q1, List.length_append]; show y.2.1.length + 1 ≤ _; omega
      · rw [if_neg q1]
        by_cases q2 : X 9 (chN X 1 n) = 15
        · rw [if_pos q2, List.length_append, List.length_append]; show y.2.1.length + 1 + 1 ≤ _; omega
        · rw [if_neg q2]; omega
    · omega
  · rw [h9]
    show (if kk = 41 ∧ s = 3 then y.2.2 ++ [y.1.2.1] else y.2.2).length + _ ≤ _
    split
    · next q =>
      rw [List.length_append]
      show y.2.2.length + 1 + _ ≤ _
      have hh := hs.2.2 (by rw [q.1, q.2]; decide) (by rw [h1, q.1]; rfl)
      omega
    · have := hs.1
      have : (gh 1 c - 280) / 4 ≤ (gh 1 n - 280) / 4 := Nat.div_le_div_right (by omega)
      omega
/-- how much can wait, all in all -/
theorem PvP.bnd {dc fd md k rs : Nat} {ty mn nc : Nat → Int32} (hF : Fs2 K T wr X gh nd) (hnd : nd ≤ 12000) : ∀ m n : Nat, ∀ y : Ps, ∀ j : Nat, ∀ z : Ps, PvP X m n y j z → n < nd → TyS X dc fd md nd ty mn nc k rs n y.1 → (∀ q : Nat, X 9 n = nI q → q ≤ 44 → 24 ≤ q → y.2.1 = []) → j < nd ∧ z.2.1.length + gh 1 j ≤ y.2.1.length + gh 1 n + 2 ∧ z.2.2.length + (gh 1 j - 280) / 4 ≤ y.2.2.length + (gh 1 n - 280) / 4 ∧ (∀ q : Nat, X 9 j = nI q → q ≤ 44 → 24 ≤ q → z.2.1 = []) ∧ ((∃ q : Nat, X 9 n = nI q ∧ q ≤ 23) → z.2.1.length + gh 1 j ≤ y.2.1.length + gh 1 n) := by
  intro m
  induction m with
  | zero => intro n y j z h hn ht h0; rw [← h.1, ← h.2]; exact ⟨hn, by omega, Nat.le_refl _, h0, fun _ => Nat.le_refl _⟩
  | succ m ih =>
    intro n y j z h hn ht h0
    rcases h with h | ⟨c, u, a, b⟩
    · rw [← h.1, ← h.2]; exact ⟨hn, by omega, Nat.le_refl _, h0, fun _ => Nat.le_refl _⟩
    · have h8 : ∀ i : Nat, X 9 n = nI 7 ∨ X 9 n = nI 8 ∨ X 9 n = nI 14 → (∃ c : Nat, c < 20000 ∧ itr (X 16) (X 13 n) i = nI c) → i < 8 := fun i e ⟨c, hc, w⟩ => by
        obtain ⟨kk, x1, x2, x3⟩ := ht n y.1 Ev.rfl
        have cal : ∀ k' : Nat, ∀ t : Int32, CalP X ty mn dc md nd k' n t → i < 8 := fun k' t ⟨m', q, p0, _, _, _, _, _, _, a7, _, _, a10, _⟩ => by
          by_cases l : i < q
          · omega
          · rw [itr_m1 a10 i (by omega)] at w; exact absurd w.symm (nI_m1 (by omega))
        rcases e with e | e | e
        · have : kk = 7 := (nI_eq (by omega) (by omega)).mp (x1.symm.trans e)
          subst this
          rcases x3 with x3 | x3
          · exact cal _ _ x3.2
          · omega
        · have : kk = 8 := (nI_eq (by omega) (by omega)).mp (x1.symm.trans e)
          subst this
          rcases x3 with x3 | x3
          · obtain ⟨s, _, x4⟩ := x3.2
            exact cal _ _ x4
          · omega
        · have : kk = 14 := (nI_eq (by omega) (by omega)).mp (x1.symm.trans e)
          subst this
          rcases x3 with x3 | x3
          · obtain ⟨s, _, x4⟩ := x3.2
            exact cal _ _ x4
          · omega
      obtain ⟨c1, c2, c3, c4⟩ := stq.hgt hF hnd hn a h8
      have tc : TyS X dc fd md nd ty mn nc k rs c u.1 := fun j' e' g => ht j' e' (Ev.step a.stp g)
      obtain ⟨kk, s, i, x1, x2, x3, x4, x5, x6, x7, x8⟩ := a
      have hc0 : ∀ q : Nat, X 9 c = nI q → q ≤ 44 → 24 ≤ q → u.2.1 = [] := fun q e q4 q2 => by
        have n24 : 24 ≤ kk := by
          by_cases l : 24 ≤ kk
          · exact l
          · exfalso
            have k1 : kcl 1 (X 9 n) = true := by
              have kok := hF.kok hn x1 x2
              have dec : ∀ q : Nat, q ≤ 23 → 1 ≤ q → kcl 1 (nI q) = true := by decide
              rw [x1]; exact dec kk (by omega) kok.1
            have w := (expr_kid hF hnd hn k1 (stq.stp (z := u) ⟨kk, s, i, x1, x2, x3, x4, x5, x6, x7, x8⟩)).1
            have := kcl1 w e q4
            omega
        have y0 := h0 kk x1 x2 n24
        rw [x8]
        show pnL X n y.2.1 kk s i = []
        rw [y0]
        unfold pnL
        split <;> first | omega | rfl | skip
        by_cases p1 : X 9 (chN X 1 n) = 12
        · exfalso
          have k2 : kcl 1 (X 9 c) = true := by
            obtain ⟨d, d1, _, _, _, d5, _⟩ := hF.kid hn x1 (by omega) (s := 2) (by omega) (by omega) (by decide) hnd
            rcases x7 with w | w
            · have : d = c := (nI_eq (by omega) (by omega)).mp (d1.symm.trans w.2.1)
              rw [← this]; exact d5
            · exact absurd w.1 (by decide)
          have := kcl1 k2 e q4; omega
        · rw [if_neg p1]
          by_cases p2 : X 9 (chN X 1 n) = 15
          · exfalso
            have k2 : kcl 1 (X 9 c) = true := by
              obtain ⟨d, d1, _, _, _, d5, _⟩ := hF.kid hn x1 (by omega) (s := 2) (by omega) (by omega) (by decide) hnd
              rcases x7 with w | w
              · have : d = c := (nI_eq (by omega) (by omega)).mp (d1.symm.trans w.2.1)
                rw [← this]; exact d5
              · exact absurd w.1 (by decide)
            have := kcl1 k2 e q4; omega
          · rw [if_neg p2]
      obtain ⟨i1, i2, i3, i4, i5⟩ := ih c u j z b c1 tc hc0
      refine ⟨i1, ?_, by omega, i4, fun ⟨q, q1, q2⟩ => ?_⟩
      · rcases c3 with c3 | ⟨c3, c5⟩
        · omega
        · have e32 : kk = 32 := (nI_eq (by omega) (by omega)).mp (x1.symm.trans c3)
          have ex : ∃ q : Nat, X 9 c = nI q ∧ q ≤ 23 := by
            subst e32
            obtain ⟨k3, w1, w2, w3, _⟩ := hF.knd c1
            have dec : ∀ s : Nat, s ≤ 4 → 1 ≤ s → nch 32 s = false → s = 1 ∨ s = 2 := by decide
            rcases dec s x4 x3 x6 with e | e <;> subst e
            · obtain ⟨d, d1, _, _, _, d5, _⟩ := hF.kid hn x1 (by omega) (s := 1) (by omega) (by omega) (by decide) hnd
              rcases x7 with w | w
              · have : d = c := (nI_eq (by omega) (by omega)).mp (d1.symm.trans w.2.1)
                rw [this] at d5
                have := kcl_12 d5 w1 w3
                exact ⟨k3, w1, by omega⟩
              · exact absurd w.1 (by decide)
            · obtain ⟨d, d1, _, _, _, d5, _⟩ := hF.kid hn x1 (by omega) (s := 2) (by omega) (by omega) (by decide) hnd
              rcases x7 with w | w
              · have : d = c := (nI_eq (by omega) (by omega)).mp (d1.symm.trans w.2.1)
                rw [this] at d5
                have := kcl1 d5 w1 w3
                exact ⟨k3, w1, by omega⟩
              · exact absurd w.1 (by decide)
          have := i5 ex
          have y0 := h0 kk x1 x2 (by omega)
          omega
      · have kq : kk = q := (nI_eq (by omega) (by omega)).mp (x1.symm.trans q1)
        have k1 : kcl 1 (X 9 n) = true := by
          have kok := hF.kok hn x1 x2
          have dec : ∀ q : Nat, q ≤ 23 → 1 ≤ q → kcl 1 (nI q) = true := by decide
          rw [x1]; exact dec kk (by omega) kok.1
        have w := (expr_kid hF hnd hn k1 (stq.stp (z := u) ⟨kk, s, i, x1, x2, x3, x4, x5, x6, x7, x8⟩)).1
        obtain ⟨k3, w1, w2, w3, _⟩ := hF.knd c1
        have := i5 ⟨k3, w1, (kcl1 w w1 w3).2⟩
        rcases c3 with c3 | ⟨c3, c5⟩
        · omega
        · have e32 : kk = 32 := (nI_eq (by omega) (by omega)).mp (x1.symm.trans c3)
          omega
end PV
/-! places of fields: classes above one another in a row -/
section FP
variable {da ds dI : Nat → Int32} {dc x y z k s n f fd : Nat} {X : Nat → Nat → Int32}
theorem AbOK.irr (A : AbOK da ds dI dc) (h : ∀ d : Nat, 7 ≤ d → d < dc → ¬ da (40 * d + d) = 1) (hy : y < dc) (hd : dc ≤ 37) : ¬ da (40 * y + y) = 1 := fun q => by
  by_cases h7 : 7 ≤ y
  · exact h y h7 hy q
  · by_cases h1 : 1 ≤ y
    · exact AbOK.irr7 A h1 (by omega) q
    · have := (A.2.2.2 y y (by omega) (by omega) q).2.1; omega
theorem AbOK.lt (A : AbOK da ds dI dc) (h : ∀ d : Nat, 7 ≤ d → d < dc → ¬ da (40 * d + d) = 1) (hd : dc ≤ 37) (hz : z < dc) (hy : y < dc) (e : da (40 * z + y) = 1) : cntA da z dc < cntA da y dc := cntA_lt (z := z) dc (fun x hx q => A.2.1 z x y hz hx hy q e) hz e (AbOK.irr A h hz hd)
/-- above an interface stand interfaces alone, and the first class -/
theorem AbOK.ifc (A : AbOK da ds dI dc) (h : ∀ d : Nat, 7 ≤ d → d < dc → ¬ da (40 * d + d) = 1) (hd : dc ≤ 37) : ∀ m x y : Nat, cntA da y dc ≤ m → x < 40 → y < 40 → da (40 * x + y) = 1 → dI y = 1 → x = 0 ∨ dI x = 1 := by
  intro m
  induction m with
  | zero =>
    intro x y hm hx hy e i
    obtain ⟨x1, y1, y2, z, z1, z2, z3, z4⟩ := A.2.2.2 x y hx hy e
    have := AbOK.lt A h hd z1 y2 z2; omega
  | succ m ih =>
    intro x y hm hx hy e i
    obtain ⟨x1, y1, y2, z, z1, z2, z3, z4⟩ := A.2.2.2 x y hx hy e
    have lt := AbOK.lt A h hd z1 y2 z2
    have zi : z = 0 ∨ dI z = 1 := by
      rcases z3 with q | ⟨_, ⟨q, _⟩ | q⟩
      · exact Or.inl q
      · exact Or.inr (q.trans i)
      · exact Or.inr q
    rcases z4 with q | q
    · rw [q]; exact zi
    · rcases zi with w | w
      · have := (A.2.2.2 x z hx (by omega) q).2.1; omega
      · exact ih x z (by omega) hx (by omega) q w
/-- a class above a class: it is the one that is extended, or above that -/
theorem AbOK.sup (A : AbOK da ds dI dc) (h : ∀ d : Nat, 7 ≤ d → d < dc → ¬ da (40 * d + d) = 1) (hd : dc ≤ 37) (hx : x < 40) (hy : y < 40) (x7 : 7 ≤ x) (ix : dI x = 0) (iy : dI y = 0) (e : da (40 * x + y) = 1) : ∃ s : Nat, ds y = nI s ∧ s < dc ∧ (x = s ∨ da (40 * x + s) = 1) ∧ da (40 * s + y) = 1 := by
  obtain ⟨x1, y1, y2, z, z1, z2, z3, z4⟩ := A.2.2.2 x y hx hy e
  have nz : ∀ w : Int32, w = 0 → ¬ w = 1 := fun w q r => by rw [q] at r; exact absurd r (by decide)
  rcases z3 with q | ⟨_, ⟨q, q2⟩ | q⟩
  · rcases z4 with r | r
    · omega
    · have := (A.2.2.2 x z hx (by omega) r).2.1; omega
  · exact ⟨z, q2 iy, z1, z4, z2⟩
  · rcases z4 with r | r
    · rw [r] at ix; exact absurd q (nz _ ix)
    · rcases AbOK.ifc A h hd (cntA da z dc) x z (Nat.le_refl _) hx (by omega) r q with w | w
      · omega
      · exact absurd w (nz _ ix)
/-- fields of one class alone -/
def ownN (X : Nat → Nat → Int32) (k : Nat) : Nat → Nat
  | 0 => 0
  | n + 1 => ownN X k n + (if X 32 n = nI k then 1 else 0)
def FdC (X : Nat → Nat → Int32) (dc fd : Nat) : Prop := ∀ f : Nat, f < fd → ∃ d : Nat, X 32 f = nI d ∧ 7 ≤ d ∧ d < dc ∧ X 26 d = 0
theorem owF_iff {d : Nat} (e : X 32 f = nI d) (hd : d < 2 ^ 31) (hk : k < 2 ^ 31) : owF X k f = true ↔ d = k ∨ X 31 (40 * d + k) = 1 := by
  unfold owF
  rw [e, nI_cl hd, Bool.or_eq_true, beq_iff_eq, beq_iff_eq, nI_eq hd hk]
theorem cfF_split (A : AbOK (X 31) (X 29) (X 26) dc) (h : ∀ d : Nat, 7 ≤ d → d < dc → ¬ X 31 (40 * d + d) = 1) (hd : dc ≤ 37) (hk : 7 ≤ k ∧ k < dc) (ik : X 26 k = 0) (es : X 29 k = nI s) (hs : s < dc) : ∀ n : Nat, FdC X dc n → cfF X k n = cfF X s n + ownN X k n := by
  intro n
  induction n with
  | zero => intro _; rfl
  | succ n ih =>
    intro g
    obtain ⟨d, e, d7, d1, di⟩ := g n (by omega)
    have i1 := ih (fun f hf => g f (by omega))
    show cfF X k n + _ = cfF X s n + _ + (ownN X k n + _)
    have a1 := owF_iff (k := k) e (by omega) (by omega)
    have a2 := owF_iff (k := s) e (by omega) (by omega)
    have a3 : X 32 n = nI k ↔ d = k := by rw [e, nI_eq (by omega) (by omega)]
    have sk : X 31 (40 * s + k) = 1 ∨ s = 0 := by
      obtain ⟨_, s', f1, f2, f3⟩ := A.2.2.1 k (by omega) hk.2
      have : s' = s := (nI_eq (by omega) (by omega)).mp (f1.symm.trans es)
      subst this
      rcases f3 with q | q
      · exact Or.inr q
      · exact Or.inl q.1
    have no0 : ¬ X 31 (40 * d + 0) = 1 := fun q => by have := (A.2.2.2 d 0 (by omega) (by omega) q).2.1; omega
    by_cases q : d = k
    · have n2 : ¬ owF X s n = true := fun w => by
        rcases a2.mp w with r | r
        · rcases sk with u | u
          · rw [← r, q] at u; exact AbOK.irr A h hk.2 hd u
          · omega
        · rcases sk with u | u
          · exact AbOK.irr A h hk.2 hd (A.2.1 s k k hs hk.2 hk.2 (by rw [← q]; exact r) u)
          · rw [u] at r; exact no0 r
      rw [if_pos (a1.mpr (Or.inl q)), if_neg n2, if_pos (a3.mpr q)]; omega
    · rw [if_neg (fun w => q (a3.mp w))]
      by_cases r : owF X s n = true
      · rw [if_pos r]
        have : owF X k n = true := a1.mpr (Or.inr (by
          rcases a2.mp r with u | u
          · rcases sk with w | w
            · rw [u]; exact w
            · omega
          · rcases sk with w | w
            · exact A.2.1 s d k hs d1 hk.2 u w
            · rw [w] at u; exact absurd u no0))
        rw [if_pos this]; omega
      · rw [if_neg r]
        have : ¬ owF X k n = true := fun w => r (a2.mpr (by
          rcases a1.mp w with u | u
          · exact absurd u q
          · obtain ⟨s', f1, f2, f3, _⟩ := AbOK.sup A h hd (by omega) (by omega) d7 di ik u
            have : s' = s := (nI_eq (by omega) (by omega)).mp (f1.symm.trans es)
            rw [← this]; exact f3))
        rw [if_neg this]; omega
theorem cfF_mono (A : AbOK (X 31) (X 29) (X 26) dc) (hk : k < dc) (hs : s < dc) (hd : dc ≤ 37) (e : s = k ∨ X 31 (40 * s + k) = 1) : ∀ n : Nat, FdC X dc n → cfF X s n ≤ cfF X k n := by
  intro n
  induction n with
  | zero => intro _; exact Nat.le_refl _
  | succ n ih =>
    intro g
    obtain ⟨d, e1, d7, d1, di⟩ := g n (by omega)
    have i1 := ih (fun f hf => g f (by omega))
    show cfF X s n + _ ≤ cfF X k n + _
    by_cases q : owF X s n = true
    · have : owF X k n = true := (owF_iff (k := k) e1 (by omega) (by omega)).mpr (by
        rcases (owF_iff (k := s) e1 (by omega) (by omega)).mp q with u | u
        · rcases e with w | w
          · exact Or.inl (u.trans w)
          · rw [u]; exact Or.inr w
        · rcases e with w | w
          · rw [← w]; exact Or.inr u
          · exact Or.inr (A.2.1 s d k hs d1 hk u w))
      rw [if_pos q, if_pos this]; omega
    · rw [if_neg q]; omega
theorem cntO_own {d : Nat} (e : X 32 f = nI d) : ∀ n : Nat, cntO X f n = ownN X d n := by
  intro n
  induction n with
  | zero => rfl
  | succ n ih => show cntO X f n + _ = ownN X d n + _; rw [ih, e]
theorem ownN_mono {d : Nat} : ∀ n m : Nat, n ≤ m → ownN X d n ≤ ownN X d m := by
  intro n m
  induction m with
  | zero => intro h; rw [show n = 0 by omega]; exact Nat.le_refl _
  | succ m ih =>
    intro h
    by_cases q : n = m + 1
    · rw [q]; exact Nat.le_refl _
    · exact Nat.le_trans (ih (by omega)) (by show _ ≤ ownN X d m + _; omega)
/-- a field lies in the part of its class -/
theorem fplF_in (A : AbOK (X 31) (X 29) (X 26) dc) (h : ∀ d : Nat, 7 ≤ d → d < dc → ¬ X 31 (40 * d + d) = 1) (hd : dc ≤ 37) (g : FdC X dc fd) (hf : f < fd) {d : Nat} (e : X 32 f = nI d) (d7 : 7 ≤ d) (d1 : d < dc) (di : X 26 d = 0) (es : X 29 d = nI s) (hs : s < dc) : fplF X fd f = cfF X s fd + ownN X d f ∧ fplF X fd f < cfF X d fd := by
  have e1 : fplF X fd f = cfF X s fd + ownN X d f := by
    unfold fplF
    rw [e, nI_cl (by omega), es, nI_cl (by omega), cntO_own e]
  refine ⟨e1, ?_⟩
  rw [e1, cfF_split A h hd ⟨d7, d1⟩ di es hs fd g]
  have h1 : ownN X d (f + 1) = ownN X d f + 1 := by show ownN X d f + _ = _; rw [if_pos e]
  have := ownN_mono (X := X) (d := d) (f + 1) fd (by omega)
  omega
/-- two classes at or above one: one of them is at or above the other -/
theorem AbOK.two (A : AbOK da ds dI dc) (h : ∀ d : Nat, 7 ≤ d → d < dc → ¬ da (40 * d + d) = 1) (hd : dc ≤ 37) : ∀ m k a b : Nat, cntA da k dc ≤ m → k < dc → dI k = 0 → 7 ≤ a → a < dc → dI a = 0 → 7 ≤ b → b < dc → dI b = 0 → (a = k ∨ da (40 * a + k) = 1) → (b = k ∨ da (40 * b + k) = 1) → a = b ∨ da (40 * a + b) = 1 ∨ da (40 * b + a) = 1 := by
  intro m
  induction m with
  | zero =>
    intro k a b hm hk ik a7 a1 ia b7 b1 ib ea eb
    have no : ∀ c : Nat, c < dc → ¬ da (40 * c + k) = 1 := fun c hc q => by have := AbOK.lt A h hd hc hk q; omega
    rcases ea with q | q
    · rcases eb with r | r
      · exact Or.inl (q.trans r.symm)
      · exact absurd r (no b b1)
    · exact absurd q (no a a1)
  | succ m ih =>
    intro k a b hm hk ik a7 a1 ia b7 b1 ib ea eb
    rcases ea with q | q
    · rcases eb with r | r
      · exact Or.inl (q.trans r.symm)
      · rw [q]; exact Or.inr (Or.inr r)
    · rcases eb with r | r
      · rw [r]; exact Or.inr (Or.inl q)
      · obtain ⟨s, s1, s2, s3, s4⟩ := AbOK.sup A h hd (by omega) (by omega) a7 ia ik q
        obtain ⟨s', t1, t2, t3, t4⟩ := AbOK.sup A h hd (by omega) (by omega) b7 ib ik r
        have : s' = s := (nI_eq (by omega) (by omega)).mp (t1.symm.trans s1)
        subst this
        have is' : dI s' = 0 := by
          obtain ⟨k1, _⟩ := (A.2.2.2 a k (by omega) (by omega) q).2
          obtain ⟨_, s2', f1, f2, f3⟩ := A.2.2.1 k k1 hk
          have : s2' = s' := (nI_eq (by omega) (by omega)).mp (f1.symm.trans s1)
          subst this
          rcases f3 with w | w
          · rw [w] at s3
            rcases s3 with u | u
            · omega
            · have := (A.2.2.2 a 0 (by omega) (by omega) u).2.1; omega
          · exact w.2.1
        have lt := AbOK.lt A h hd s2 hk s4
        exact ih s' a b (by omega) s2 is' a7 a1 ia b7 b1 ib s3 t3
/-- no two fields of a thing lie in one place -/
theorem fplF_ne (A : AbOK (X 31) (X 29) (X 26) dc) (h : ∀ d : Nat, 7 ≤ d → d < dc → ¬ X 31 (40 * d + d) = 1) (hd : dc ≤ 37) (g : FdC X dc fd) (hk : k < dc) (ik : X 26 k = 0) {f2 : Nat} (hf : f < fd) (hf2 : f2 < fd) (o1 : owF X k f = true) (o2 : owF X k f2 = true) (hne : f ≠ f2) : fplF X fd f ≠ fplF X fd f2 ∧ fplF X fd f < cfF X k fd := by
  obtain ⟨d, e, d7, d1, di⟩ := g f hf
  obtain ⟨d', e', d7', d1', di'⟩ := g f2 hf2
  obtain ⟨_, s, es, hs, _⟩ := A.2.2.1 d (by omega) d1
  obtain ⟨_, s', es', hs', _⟩ := A.2.2.1 d' (by omega) d1'
  obtain ⟨p1, p2⟩ := fplF_in A h hd g hf e d7 d1 di es hs
  obtain ⟨q1, q2⟩ := fplF_in A h hd g hf2 e' d7' d1' di' es' hs'
  have a1 := (owF_iff (k := k) e (by omega) (by omega)).mp o1
  have a2 := (owF_iff (k := k) e' (by omega) (by omega)).mp o2
  have m1 := cfF_mono A hk d1 hd a1 fd g
  refine ⟨?_, by omega⟩
  have key : ∀ x y sx sy fx fy : Nat, x < dc → y < dc → 7 ≤ x → X 26 x = 0 → X 26 y = 0 → X 29 y = nI sy → sy < dc → X 31 (40 * x + y) = 1 → fplF X fd fx < cfF X x fd → fplF X fd fy = cfF X sy fd + ownN X y fy → fplF X fd fx < fplF X fd fy := fun x y sx sy fx fy hx hy x7 ix iy ey hsy w l1 l2 => by
    obtain ⟨z, z1, z2, z3, _⟩ := AbOK.sup A h hd (by omega) (by omega) x7 ix iy w
    have : z = sy := (nI_eq (by omega) (by omega)).mp (z1.symm.trans ey)
    subst this
    have := cfF_mono A z2 hx hd z3 fd g
    omega
  rcases AbOK.two A h hd (cntA (X 31) k dc) k d d' (Nat.le_refl _) hk ik d7 d1 di d7' d1' di' a1 a2 with w | w | w
  · subst w
    have : s = s' := (nI_eq (by omega) (by omega)).mp (es.symm.trans es')
    subst this
    have step : ∀ a b : Nat, a < b → X 32 a = nI d → ownN X d a < ownN X d b := fun a b l u => by
      have h1 : ownN X d (a + 1) = ownN X d a + 1 := by show ownN X d a + _ = _; rw [if_pos u]
      have := ownN_mono (X := X) (d := d) (a + 1) b (by omega)
      omega
    rcases Nat.lt_or_gt_of_ne hne with l | l
    · have := step f f2 l e; omega
    · have := step f2 f l e'; omega
  · have := key d d' s s' f f2 d1 d1' d7 di di' es' hs' w p2 q1; omega
  · have := key d' d s' s f2 f d1' d1 d7' di' di es hs w q2 p1; omega
end FP
/-! the heap with types -/
def ftN (X : Nat → Nat → Int32) (f : Nat) : Nat := (ftF X f).toNatClampNeg
/-- a thing, by its class or as a row -/
def ObT (X : Nat → Nat → Int32) (dc fd : Nat) (od oc os om oa cl : Nat → Int32) (on o : Nat) : Prop := (oc o = -1 ∧ ∃ so q p : Nat, os o = nI so ∧ baR dc so ∧ om o = nI q ∧ q ≤ 3000 ∧ oa o = nI p ∧ p ≤ 3000 ∧ ∀ i : Nat, i < q → VTd od oc os (X 31) on dc (cl (p + i)) so) ∨ ∃ k p : Nat, oc o = nI k ∧ k < dc ∧ X 26 k = 0 ∧ om o = nI (cfF X k fd) ∧ oa o = nI p ∧ p ≤ 3000 ∧ ∀ f : Nat, f < fd → owF X k f = true → VTd od oc os (X 31) on dc (cl (p + fplF X fd f)) (ftN X f)
def HTd (X : Nat → Nat → Int32) (dc fd : Nat) (od oc os om oa cl : Nat → Int32) (on : Nat) : Prop := ∀ o : Nat, o < 3000 → Lvd od on o → ObT X dc fd od oc os om oa cl on o
/-! the heap with types: what the marking relies on; a new thing; a cell written -/
section H3
variable {X Y : Nat → Nat → Int32} {dc fd on on1 idn idn1 fl fl1 rmm r mx nm wr lz md pr bk T : Nat} {od oc os om oa cl id od1 oc1 os1 om1 oa1 cl1 id1 rf rm rp sn ds dI : Nat → Int32} {kk so : Int32}
/-- fields have types -/
def FdT (X : Nat → Nat → Int32) (dc fd : Nat) : Prop := ∀ f : Nat, f < fd → ∃ y x : Nat, X 35 f = nI y ∧ y ≤ 6000 ∧ X 21 y = nI x ∧ baR dc x
theorem FdT.ft (h : FdT X dc fd) {f : Nat} (hf : f < fd) (hd : dc ≤ 37) : ∃ y x : Nat, X 35 f = nI y ∧ y ≤ 6000 ∧ X 21 y = nI x ∧ ftN X f = x ∧ x ≤ 1050 ∧ baR dc x := by
  obtain ⟨y, x, e1, hy, e2, e3⟩ := h f hf
  have hx : x ≤ 1050 := by unfold baR baN at e3; omega
  exact ⟨y, x, e1, hy, e2, by unfold ftN ftF; rw [e1, nI_cl (by omega), e2, nI_cl (by omega)], hx, e3⟩
/-- all that a program says of fields -/
def PrF (X : Nat → Nat → Int32) (dc fd : Nat) : Prop := AbOK (X 31) (X 29) (X 26) dc ∧ (∀ d : Nat, 7 ≤ d → d < dc → ¬ X 31 (40 * d + d) = 1) ∧ dc ≤ 37 ∧ FdC X dc fd ∧ FdT X dc fd ∧ fd ≤ 620
theorem PrF.lt (P : PrF X dc fd) {k f : Nat} (hk : k < dc) (hf : f < fd) (o : owF X k f = true) : fplF X fd f < cfF X k fd := by
  obtain ⟨A, h, hd, g, _, _⟩ := P
  obtain ⟨d, e, d7, d1, di⟩ := g f hf
  obtain ⟨_, s, es, hs, _⟩ := A.2.2.1 d (by omega) d1
  have p := (fplF_in A h hd g hf e d7 d1 di es hs).2
  have a1 := (owF_iff (k := k) e (by omega) (by omega)).mp o
  have := cfF_mono A hk d1 hd a1 fd g
  omega
/-- places of references, as findReferences leaves them, told of the program -/
def RfP (X : Nat → Nat → Int32) (dc fd : Nat) (rf rm rp : Nat → Int32) : Prop := ∀ k : Nat, k < dc → X 26 k = 0 → ∃ u z : Nat, rf k = nI u ∧ rm k = nI z ∧ u + z ≤ 23000 ∧ (∀ i : Nat, i < z → ∃ f : Nat, f < fd ∧ owF X k f = true ∧ 3 ≤ ftN X f ∧ rp (u + i) = nI (fplF X fd f)) ∧ ∀ f : Nat, f < fd → owF X k f = true → 3 ≤ ftN X f → ∃ i : Nat, i < z ∧ rp (u + i) = nI (fplF X fd f)
theorem HTd.obr (P : PrF X dc fd) (R : RfP X dc fd rf rm rp) (H : HS om oc od id oa on idn fl rmm) (h : HTd X dc fd od oc os om oa cl on) : ∀ o : Nat, o < 3000 → Lvd od on o → ObR od on oc os om oa cl rf rm rp o := fun o ho lo => by
  have hd := P.2.2.1
  rcases h o ho lo with ⟨e0, so, q, p, e1, e2, e3, e4, e5, e6, e7⟩ | ⟨k, p, e1, e2, e3, e4, e5, e6, e7⟩
  · have b := HS.below H lo ho e3 e4 e5 e6
    have hso : so ≤ 1050 := by unfold baR baN at e2; omega
    exact Or.inl ⟨e0, so, q, p, e1, by omega, e3, e5, by omega, fun s3 i hi => (e7 i hi).ref s3⟩
  · have hq : cfF X k fd ≤ fd := cfF_le fd
    obtain ⟨u, z, r1, r2, r3, r4, _⟩ := R k e2 e3
    have hfd : cfF X k fd ≤ 3000 := by have := P.2.2.2.2.2; omega
    have b := HS.below H lo ho e4 hfd e5 e6
    refine Or.inr ⟨k, z, u, p, e1, by omega, r2, r1, r3, e5, by omega, fun i hi => ?_⟩
    obtain ⟨f, f1, f2, f3, f4⟩ := r4 i hi
    have l := P.lt e2 f1 f2
    exact ⟨fplF X fd f, f4, by omega, (e7 f f1 f2).ref f3⟩
/-- a new thing, or none, behind a sweep or none -/
theorem HTd.make (P : PrF X dc fd) (R : RfP X dc fd rf rm rp) (H : HS om oc od id oa on idn fl rmm) (H1 : HS om1 oc1 od1 id1 oa1 on1 idn1 fl1 rmm) (h : HTd X dc fd od oc os om oa cl on)
    (l : ∀ o : Nat, o < 3000 → (Lvd od1 on1 o ↔ (Lvd od on o ∧ ¬ sn o = 0) ∨ (0 < r ∧ o = r - 1)))
    (hc : ∀ o : Nat, o < 3000 → Lvd od on o → ¬ sn o = 0 → ∀ v : Int32, Chd oc os om oa cl rf rm rp o v → RfS sn v)
    (hr : 0 < r → oc1 = upd oc (r - 1) kk ∧ os1 = upd os (r - 1) so ∧ (¬ Lvd od on (r - 1) ∨ sn (r - 1) = 0)) (hm : 0 < r → ∃ v : Int32, om1 = upd om (r - 1) v) (h0 : r = 0 → oc1 = oc ∧ os1 = os ∧ om1 = om)
    (hk : ∀ o : Nat, o < 3000 → Lvd od on o → ¬ sn o = 0 → ∀ i q p p1 : Nat, om o = nI q → oa o = nI p → oa1 o = nI p1 → i < q → q ≤ 3000 → p ≤ 3000 → p1 ≤ 3000 → cl1 (p1 + i) = cl (p + i))
    (hn : 0 < r → ObT X dc fd od1 oc1 os1 om1 oa1 cl1 on1 (r - 1)) : HTd X dc fd od1 oc1 os1 om1 oa1 cl1 on1 := fun o ho lo => by
  by_cases q : 0 < r ∧ o = r - 1
  · rw [q.2]; exact hn q.1
  · obtain ⟨lo', so'⟩ := ((l o ho).mp lo).resolve_right q
    have ne : 0 < r → ¬ o = r - 1 := fun a b => q ⟨a, b⟩
    have rows : oc1 o = oc o ∧ os1 o = os o ∧ om1 o = om o := by
      rcases Nat.eq_zero_or_pos r with z | z
      · obtain ⟨a1, a2, a3⟩ := h0 z; rw [a1, a2, a3]; exact ⟨rfl, rfl, rfl⟩
      · obtain ⟨a1, a2, _⟩ := hr z
        obtain ⟨v, a3⟩ := hm z
        rw [a1, a2, a3]
        exact ⟨if_neg (ne z), if_neg (ne z), if_neg (ne z)⟩
    have pl : ∃ p1 : Nat, oa1 o = nI p1 ∧ p1 ≤ 3000 := by
      obtain ⟨j, j1, j2⟩ := lo
      obtain ⟨b, q, z1, z2, z3, z4, z5⟩ := H1.1 j j1
      have : b = o := (nI_eq (by omega) (by omega)).mp (z2.symm.trans j2)
      subst this
      have := HS.sm H1 j1 z2 z1 z3 z4
      exact ⟨_, z5, by omega⟩
    obtain ⟨p1, ep1, hp1⟩ := pl
    have mk : ∀ (v : Int32) (t : Nat), VTd od oc os (X 31) on dc v t → (3 ≤ t → RfS sn v) → VTd od1 oc1 os1 (X 31) on1 dc v t := fun v t a b => VTd.make l hr (fun z => ⟨(h0 z).1, (h0 z).2.1⟩) a b
    rcases h o ho lo' with ⟨e0, so, q, p, e1, e2, e3, e4, e5, e6, e7⟩ | ⟨k, p, e1, e2, e3, e4, e5, e6, e7⟩
    · refine Or.inl ⟨by rw [rows.1]; exact e0, so, q, p1, by rw [rows.2.1]; exact e1, e2, by rw [rows.2.2]; exact e3, e4, ep1, hp1, fun i hi => ?_⟩
      have hso : so ≤ 1050 := by have := P.2.2.1; unfold baR baN at e2; omega
      rw [hk o ho lo' so' i q p p1 e3 e5 ep1 hi e4 e6 hp1]
      exact mk _ _ (e7 i hi) (fun s3 => hc o ho lo' so' _ (Or.inl ⟨e0, so, q, p, i, e1, s3, by omega, e3, e5, hi, by omega, by omega, rfl⟩))
    · have hfd : cfF X k fd ≤ 620 := Nat.le_trans (cfF_le fd) P.2.2.2.2.2
      refine Or.inr ⟨k, p1, by rw [rows.1]; exact e1, e2, e3, by rw [rows.2.2]; exact e4, ep1, hp1, fun f hf ow => ?_⟩
      have lt := P.lt e2 hf ow
      rw [hk o ho lo' so' (fplF X fd f) (cfF X k fd) p p1 e4 e5 ep1 lt (by omega) e6 hp1]
      refine mk _ _ (e7 f hf ow) (fun s3 => ?_)
      obtain ⟨u, z, r1, r2, r3, _, r5⟩ := R k e2 e3
      obtain ⟨i, i1, i2⟩ := r5 f hf ow s3
      exact hc o ho lo' so' _ (Or.inr ⟨k, z, u, p, i, fplF X fd f, e1, by have := P.2.2.1; omega, r2, r1, e5, i1, by omega, by omega, by omega, i2, by omega, rfl⟩)
/-- cells of two things are apart -/
theorem HS.apart (H : HS om oc od id oa on idn fl rmm) {o b q qb p pb i j : Nat} (ho : o < 3000) (hb : b < 3000) (lo : Lvd od on o) (lb : Lvd od on b) (e1 : om o = nI q) (h1 : q ≤ 3000) (e2 : om b = nI qb) (h2 : qb ≤ 3000) (f1 : oa o = nI p) (g1 : p ≤ 3000) (f2 : oa b = nI pb) (g2 : pb ≤ 3000) (hi : i < q) (hj : j < qb) (hne : o ≠ b) : p + i ≠ pb + j := by
  obtain ⟨k, k1, k2⟩ := lo
  obtain ⟨m, m1, m2⟩ := lb
  obtain ⟨o', _, z1, z2, _, _, z5⟩ := H.1 k k1
  have : o' = o := (nI_eq (by omega) (by omega)).mp (z2.symm.trans k2)
  subst this
  obtain ⟨b', _, y1, y2, _, _, y5⟩ := H.1 m m1
  have : b' = b := (nI_eq (by omega) (by omega)).mp (y2.symm.trans m2)
  subst this
  have s1 := HS.sm H k1 k2 z1 e1 h1
  have s2 := HS.sm H m1 m2 y1 e2 h2
  have ep : p = smF om od k := (nI_eq (by omega) (by omega)).mp (f1.symm.trans z5)
  have eb : pb = smF om od m := (nI_eq (by omega) (by omega)).mp (f2.symm.trans y5)
  have a1 : smF om od (k + 1) = smF om od k + q := by show smF om od k + omN om od k = _; rw [omN_eq k2 (by omega) e1 (by omega)]
  have a2 : smF om od (m + 1) = smF om od m + qb := by show smF om od m + omN om od m = _; rw [omN_eq m2 (by omega) e2 (by omega)]
  rcases Nat.lt_or_ge k m with l | l
  · have := smF_mono (om := om) (od := od) (k + 1) m l; omega
  · by_cases w : k = m
    · rw [w] at k2
      exact absurd ((nI_eq (by omega) (by omega)).mp (k2.symm.trans m2)) hne
    · have := smF_mono (om := om) (od := od) (m + 1) k (by omega); omega
/-- a cell of a row is written -/
theorem HTd.setR (H : HS om oc od id oa on idn fl rmm) (P : PrF X dc fd) (h : HTd X dc fd od oc os om oa cl on) {o s q p i : Nat} {v : Int32} (ho : o < 3000) (lo : Lvd od on o) (ec : oc o = -1) (es : os o = nI s) (hs : s ≤ 3000) (e1 : om o = nI q) (h1 : q ≤ 3000) (f1 : oa o = nI p) (g1 : p ≤ 3000) (hi : i < q) (hv : VTd od oc os (X 31) on dc v s) : HTd X dc fd od oc os om oa (upd cl (p + i) v) on := fun b hb lb => by
  have hd := P.2.2.1
  rcases h b hb lb with ⟨e0, so, qb, pb, d1, d2, d3, d4, d5, d6, d7⟩ | ⟨k, pb, d1, d2, d3, d4, d5, d6, d7⟩
  · refine Or.inl ⟨e0, so, qb, pb, d1, d2, d3, d4, d5, d6, fun j hj => ?_⟩
    unfold upd
    by_cases w : pb + j = p + i
    · rw [if_pos w]
      by_cases y : o = b
      · subst y
        have hso : so ≤ 1050 := by unfold baR baN at d2; omega
        have : so = s := (nI_eq (by omega) (by omega)).mp (d1.symm.trans es)
        rw [this]; exact hv
      · exact absurd w.symm (HS.apart H ho hb lo lb e1 h1 d3 d4 f1 g1 d5 d6 hi hj y)
    · rw [if_neg w]; exact d7 j hj
  · have hfd : cfF X k fd ≤ 620 := Nat.le_trans (cfF_le fd) P.2.2.2.2.2
    refine Or.inr ⟨k, pb, d1, d2, d3, d4, d5, d6, fun f hf ow => ?_⟩
    unfold upd
    by_cases w : pb + fplF X fd f = p + i
    · exfalso
      by_cases y : o = b
      · subst y; rw [ec] at d1; exact nI_m1 (n := k) (by omega) d1.symm
      · exact HS.apart H ho hb lo lb e1 h1 d4 (by omega) f1 g1 d5 d6 hi (P.lt d2 hf ow) y w.symm
    · rw [if_neg w]; exact d7 f hf ow
/-- a field is written -/
theorem HTd.setF (H : HS om oc od id oa on idn fl rmm) (P : PrF X dc fd) (h : HTd X dc fd od oc os om oa cl on) {o k p f : Nat} {v : Int32} (ho : o < 3000) (lo : Lvd od on o) (ec : oc o = nI k) (hk : k < dc) (f1 : oa o = nI p) (g1 : p ≤ 3000) (hf : f < fd) (ow : owF X k f = true) (hv : VTd od oc os (X 31) on dc v (ftN X f)) : HTd X dc fd od oc os om oa (upd cl (p + fplF X fd f) v) on := fun b hb lb => by
  have hd := P.2.2.1
  have hfd : ∀ k : Nat, cfF X k fd ≤ 620 := fun k => Nat.le_trans (cfF_le fd) P.2.2.2.2.2
  have lt := P.lt hk hf ow
  have e1 : om o = nI (cfF X k fd) := by
    rcases h o ho lo with ⟨e0, _⟩ | ⟨k', _, d1, d2, _, d4, _⟩
    · rw [e0] at ec; exact absurd ec.symm (nI_m1 (by omega))
    · have : k' = k := (nI_eq (by omega) (by omega)).mp (d1.symm.trans ec)
      rw [← this]; exact d4
  have b1 := hfd k
  rcases h b hb lb with ⟨e0, so, qb, pb, d1, d2, d3, d4, d5, d6, d7⟩ | ⟨k2, pb, d1, d2, d3, d4, d5, d6, d7⟩
  · refine Or.inl ⟨e0, so, qb, pb, d1, d2, d3, d4, d5, d6, fun j hj => ?_⟩
    unfold upd
    by_cases w : pb + j = p + fplF X fd f
    · exfalso
      by_cases y : o = b
      · subst y; rw [ec] at e0; exact nI_m1 (n := k) (by omega) e0
      · exact HS.apart H ho hb lo lb e1 (by omega) d3 d4 f1 g1 d5 d6 lt hj y w.symm
    · rw [if_neg w]; exact d7 j hj
  · have b2 := hfd k2
    refine Or.inr ⟨k2, pb, d1, d2, d3, d4, d5, d6, fun f2 hf2 ow2 => ?_⟩
    unfold upd
    by_cases w : pb + fplF X fd f2 = p + fplF X fd f
    · rw [if_pos w]
      by_cases y : o = b
      · subst y
        have ek : k2 = k := (nI_eq (by omega) (by omega)).mp (d1.symm.trans ec)
        have ep : pb = p := (nI_eq (by omega) (by omega)).mp (d5.symm.trans f1)
        by_cases ef : f2 = f
        · rw [ef]; exact hv
        · rw [ek] at ow2 d3
          exact absurd (show fplF X fd f2 = fplF X fd f by omega) (fplF_ne P.1 P.2.1 hd P.2.2.2.1 hk d3 hf2 hf ow2 ow ef).1
      · exact absurd w.symm (HS.apart H ho hb lo lb e1 (by omega) d4 (by omega) f1 g1 d5 d6 lt (P.lt d2 hf2 ow2) y)
    · rw [if_neg w]; exact d7 f2 hf2 ow2
end H3
