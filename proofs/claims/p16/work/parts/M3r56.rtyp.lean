/-! what the look leaves: types of phrases (row 17) and what names mean (row 18), node by node -/
def Fit (da : Nat → Int32) (s t : Int32) : Prop := ∃ a b : Nat, s = nI a ∧ t = nI b ∧ a ≤ 2050 ∧ b ≤ 2050 ∧ fitF da a b = 1
def chN (X : Nat → Nat → Int32) (s j : Nat) : Nat := (X (11 + s) j).toNatClampNeg
def ftF (X : Nat → Nat → Int32) (f : Nat) : Int32 := X 21 (X 35 f).toNatClampNeg
def FldO (X : Nat → Nat → Int32) (dc k f : Nat) : Prop := X 32 f = nI k ∨ ∃ d : Nat, X 32 f = nI d ∧ d < dc ∧ X 31 (40 * d + k) = 1
def nmF (X : Nat → Nat → Int32) (j : Nat) : Int32 := X 5 (X 11 j).toNatClampNeg
def ArgP (X : Nat → Nat → Int32) (ty : Nat → Int32) (nd p0 q : Nat) (v : Int32) : Prop := ∀ i : Nat, i < q → ∃ c : Nat, itr (X 16) v i = nI c ∧ c < nd ∧ Fit (X 31) (ty c) (ytF X (p0 + i))
def CalP (X : Nat → Nat → Int32) (ty mn : Nat → Int32) (dc md nd k j : Nat) (t : Int32) : Prop := ∃ m q p0 : Nat, mn j = nI m ∧ m < md ∧ k < dc ∧ AnyQ X dc md k (nmF X j) (nI m) ∧ X 41 m = nI q ∧ X 40 m = nI p0 ∧ q ≤ 8 ∧ p0 + q ≤ 5000 ∧ ArgP X ty nd p0 q (X 13 j) ∧ itr (X 16) (X 13 j) q = -1 ∧ t = resF (X 39) (X 21) m
/-- one phrase, by its kind -/
def LTk (X : Nat → Nat → Int32) (dc fd md nd : Nat) (ty mn vt : Nat → Int32) (sc k j : Nat) : Nat → Int32 → Prop
  | 1, t => t = 1
  | 2, t => t = 2
  | 3, t => t = 2
  | 4, t => t = 3
  | 5, t => t = nI (10 + k)
  | 6, t => (∃ v : Nat, v < sc ∧ mn j = nI v ∧ t = vt v) ∨ ∃ f : Nat, f < fd ∧ mn j = -2 - nI f ∧ FldO X dc k f ∧ t = ftF X f
  | 7, t => CalP X ty mn dc md nd k j t
  | 8, t => ∃ s : Nat, X 29 k = nI s ∧ CalP X ty mn dc md nd s j t
  | 9, t => ∃ c : Nat, mn j = nI c ∧ c < dc ∧ X 26 c = 0 ∧ t = nI (10 + c)
  | 10, t => ty (chN X 1 j) = 1 ∧ ∃ y x : Nat, X 13 j = nI y ∧ X 21 y = nI x ∧ t = nI (1000 + x) ∧ y ≤ 6000 ∧ x ≤ 2050
  | 11, t => t = 1
  | 12, t => ∃ c f : Nat, ty (chN X 1 j) = nI (10 + c) ∧ c < dc ∧ X 26 c = 0 ∧ mn j = nI f ∧ f < fd ∧ FldO X dc c f ∧ t = ftF X f
  | 13, t => t = 1 ∧ ∃ x : Nat, ty (chN X 1 j) = nI (1000 + x) ∧ x ≤ 1050
  | 14, t => ∃ c : Nat, ty (chN X 1 j) = nI (10 + c) ∧ CalP X ty mn dc md nd c j t
  | 15, t => ty (chN X 2 j) = 1 ∧ ∃ x : Nat, ty (chN X 1 j) = nI (1000 + x) ∧ x ≤ 1050 ∧ t = nI x
  | 16, t => ty (chN X 1 j) = t
  | 17, t => ty (chN X 1 j) = t ∧ (t = 1 ∨ t = 2)
  | 18, t => (t = 1 ∨ t = 2) ∧ ¬ ty (chN X 1 j) = 0 ∧ ¬ ty (chN X 2 j) = 0
  | 19, t => t = 2 ∧ ty (chN X 1 j) = 2 ∧ ty (chN X 2 j) = 2
  | 20, t => t = 2 ∧ ty (chN X 1 j) = 2 ∧ ty (chN X 2 j) = 2
  | 21, t => t = 2 ∧ (∃ x : Nat, ty (chN X 1 j) = nI x ∧ 3 ≤ x ∧ x ≤ 2050) ∧ ∃ y x : Nat, X 13 j = nI y ∧ X 21 y = nI x ∧ 3 ≤ x ∧ y ≤ 6000 ∧ x ≤ 2050
  | 22, t => (∃ x : Nat, ty (chN X 1 j) = nI x ∧ 3 ≤ x ∧ x ≤ 2050) ∧ ∃ y x : Nat, X 13 j = nI y ∧ X 21 y = nI x ∧ 3 ≤ x ∧ t = nI x ∧ y ≤ 6000 ∧ x ≤ 2050
  | 23, t => ty (chN X 1 j) = 2 ∧ Fit (X 31) (ty (chN X 2 j)) t ∧ Fit (X 31) (ty (chN X 3 j)) t ∧ (ty (chN X 2 j) = t ∨ ty (chN X 3 j) = t)
  | _, _ => False
def LTE (X : Nat → Nat → Int32) (dc fd md nd : Nat) (ty mn vt : Nat → Int32) (sc k j : Nat) (t : Int32) : Prop := ∃ kk : Nat, X 9 j = nI kk ∧ kk ≤ 44 ∧ LTk X dc fd md nd ty mn vt sc k j kk t
section LK
variable {K : Nat → Int32} {T wr nd n k s dc fd md sc j kk : Nat} {X : Nat → Nat → Int32} {gh : Nat → Nat → Nat} {ty ty' mn mn' vt : Nat → Int32} {t : Int32}
/-- a child's place -/
theorem Fs2.kid (hF : Fs2 K T wr X gh nd) (hj : j < nd) (e : X 9 j = nI kk) (k4 : kk ≤ 44) (s1 : 1 ≤ s) (s4 : s ≤ 4) (hc : 100 ≤ cdOf kk s ∧ cdOf kk s < 200) (hnd : nd ≤ 12000) : ∃ c : Nat, X (11 + s) j = nI c ∧ c < nd ∧ pch X j c ∧ gh 1 c < gh 1 j ∧ kcl (cdOf kk s % 100) (X 9 c) = true ∧ chN X s j = c ∧ gh 0 c = 8 * j + s := by
  obtain ⟨k2, e2, _, k44, hs⟩ := hF.knd hj
  have ek : k2 = kk := (nI_eq (by omega) (by omega)).mp (e2.symm.trans e)
  subst ek
  rcases (hs s s1 s4).2.2.2 (by omega) (by omega) (by omega) (by omega) with ⟨_, z⟩ | ⟨c, z1, _, z2, z3, z4, z5, _⟩
  · omega
  · rw [if_neg (by omega)] at z3
    exact ⟨c, z1, z2, ⟨k2, s, e, k4, s1, s4, ⟨by omega, by omega, by omega, by omega⟩, Or.inl ⟨by omega, z1⟩⟩, z4, z5, by unfold chN; rw [z1, nI_cl (by omega)], z3⟩
/-- a list's members are children -/
theorem pch_list (e : X 9 j = nI kk) (k4 : kk ≤ 44) (s1 : 1 ≤ s) (s4 : s ≤ 4) (hc : 200 ≤ cdOf kk s) {i c : Nat} (h : itr (X 16) (X (11 + s) j) i = nI c) : pch X j c := ⟨kk, s, e, k4, s1, s4, ⟨by omega, by omega, by omega, by omega⟩, Or.inr ⟨hc, i, h⟩⟩
theorem ArgP.same {p0 q : Nat} (e : X 9 j = nI kk) (k4 : kk ≤ 44) (hc : 200 ≤ cdOf kk 2) (ht : ∀ i : Nat, i < nd → pch X j i → ty' i = ty i) (h : ArgP X ty nd p0 q (X 13 j)) : ArgP X ty' nd p0 q (X 13 j) := fun i hi => by
  obtain ⟨c, z1, z2, z3⟩ := h i hi
  exact ⟨c, z1, z2, by rw [ht c z2 (pch_list e k4 (s := 2) (by omega) (by omega) hc z1)]; exact z3⟩
theorem CalP.same (e : X 9 j = nI kk) (k4 : kk ≤ 44) (hc : 200 ≤ cdOf kk 2) (hm : mn' j = mn j) (ht : ∀ i : Nat, i < nd → pch X j i → ty' i = ty i) (h : CalP X ty mn dc md nd k j t) : CalP X ty' mn' dc md nd k j t := by
  obtain ⟨m, q, p0, a1, a2, a3, a4, a5, a6, a7, a8, a9, a10, a11⟩ := h
  exact ⟨m, q, p0, hm.trans a1, a2, a3, a4, a5, a6, a7, a8, a9.same e k4 hc ht, a10, a11⟩
theorem LTk.same (hF : Fs2 K T wr X gh nd) (hnd : nd ≤ 12000) (hj : j < nd) (e : X 9 j = nI kk) (hm : mn' j = mn j) (ht : ∀ i : Nat, i < nd → pch X j i → ty' i = ty i) (h : LTk X dc fd md nd ty mn vt sc k j kk t) : LTk X dc fd md nd ty' mn' vt sc k j kk t := by
  have kd : ∀ s : Nat, 1 ≤ s → s ≤ 4 → kk ≤ 44 → 100 ≤ cdOf kk s ∧ cdOf kk s < 200 → ty' (chN X s j) = ty (chN X s j) := fun s s1 s4 k4 hc => by
    obtain ⟨c, _, z2, z3, _, _, z6, _⟩ := hF.kid hj e k4 s1 s4 hc hnd
    rw [z6]; exact ht c z2 z3
  unfold LTk at h ⊢
  split at h
  all_goals first
    | exact h
    | exact h.elim
    | (obtain ⟨m, q, p0, a1, a⟩ := h; exact CalP.same e (by omega) (by decide) hm ht ⟨m, q, p0, a1, a⟩)
    | (rw [hm]; exact h)
    | (obtain ⟨z, z1, z2⟩ := h; exact ⟨z, z1, CalP.same e (by omega) (by decide) hm ht z2⟩)
    | (rw [kd 1 (by omega) (by omega) (by omega) (by decide), hm]; exact h)
    | (rw [kd 1 (by omega) (by omega) (by omega) (by decide)]; exact h)
    | (simp only [kd 1 (by omega) (by omega) (by omega) (by decide), hm]; exact h)
    | (simp only [kd 1 (by omega) (by omega) (by omega) (by decide)]; exact h)
    | (simp only [kd 1 (by omega) (by omega) (by omega) (by decide), kd 2 (by omega) (by omega) (by omega) (by decide)]; exact h)
    | (simp only [kd 1 (by omega) (by omega) (by omega) (by decide), kd 2 (by omega) (by omega) (by omega) (by decide), kd 3 (by omega) (by omega) (by omega) (by decide)]; exact h)
    | (obtain ⟨z, z1, z2⟩ := h; exact ⟨z, by rw [kd 1 (by omega) (by omega) (by omega) (by decide)]; exact z1, CalP.same e (by omega) (by decide) hm ht z2⟩)
theorem LTE.same (hF : Fs2 K T wr X gh nd) (hnd : nd ≤ 12000) (hj : j < nd) (hm : mn' j = mn j) (ht : ∀ i : Nat, i < nd → pch X j i → ty' i = ty i) (h : LTE X dc fd md nd ty mn vt sc k j t) : LTE X dc fd md nd ty' mn' vt sc k j t := by
  obtain ⟨kk, e, k4, h⟩ := h
  exact ⟨kk, e, k4, LTk.same hF hnd hj e hm ht h⟩
theorem sub.snoc : ∀ m n j c : Nat, c < 20000 → subP X m n j → pch X j c → sub X n c := by
  intro m
  induction m with
  | zero => intro n j c hc h g; have : n = j := h; subst this; exact sub.of hc g sub.rfl
  | succ m ih =>
    intro n j c hc h g
    rcases h with h | ⟨d, d1, d2, d3⟩
    · subst h; exact sub.of hc g sub.rfl
    · exact sub.of d1 d2 (ih d j c hc d3 g)
theorem sub.lt2 (hF : Fs2 K T wr X gh nd) (hnd : nd ≤ 12000) (hn : n < nd) (h : sub X n j) : j < nd ∧ (j ≠ n → gh 1 j < gh 1 n) := by
  obtain ⟨m, h⟩ := h
  obtain ⟨a, _, c⟩ := sub.lt hF hnd m n j hn h
  exact ⟨a, fun e => c (fun q => e q.symm)⟩
/-- all of a phrase -/
def Typ (X : Nat → Nat → Int32) (dc fd md nd : Nat) (ty mn vt : Nat → Int32) (sc k n : Nat) : Prop := ∀ j : Nat, sub X n j → LTE X dc fd md nd ty mn vt sc k j (ty j)
/-- all of it, n's own type aside -/
def Typ0 (X : Nat → Nat → Int32) (dc fd md nd : Nat) (ty mn vt : Nat → Int32) (sc k n : Nat) (t : Int32) : Prop := (∀ j : Nat, sub X n j → j ≠ n → LTE X dc fd md nd ty mn vt sc k j (ty j)) ∧ LTE X dc fd md nd ty mn vt sc k n t
theorem Typ0.st (hF : Fs2 K T wr X gh nd) (hnd : nd ≤ 12000) (hn : n < nd) (h : Typ0 X dc fd md nd ty mn vt sc k n t) : Typ X dc fd md nd (upd ty n t) mn vt sc k n := fun j hj => by
  obtain ⟨j1, j2⟩ := sub.lt2 hF hnd hn hj
  by_cases e : j = n
  · subst e
    rw [show upd ty j t j = t from if_pos rfl]
    exact h.2.same hF hnd hn rfl (fun i hi g => if_neg (fun q => by have := (pch_par hF hnd hn (by omega) g).2.2; rw [q] at this; omega))
  · rw [show upd ty n t j = ty j from if_neg e]
    exact (h.1 j hj e).same hF hnd j1 rfl (fun i hi g => if_neg (fun q => by have := (pch_par hF hnd j1 (by omega) g).2.2; have := j2 e; rw [q] at *; omega))
theorem Typ.frame (hF : Fs2 K T wr X gh nd) (hnd : nd ≤ 12000) (hn : n < nd) (h : Typ X dc fd md nd ty mn vt sc k n) (g : ∀ i : Nat, i < nd → sub X n i → ty' i = ty i ∧ mn' i = mn i) : Typ X dc fd md nd ty' mn' vt sc k n := fun j hj => by
  obtain ⟨j1, j2⟩ := sub.lt2 hF hnd hn hj
  rw [(g j j1 hj).1]
  refine (h j hj).same hF hnd j1 (g j j1 hj).2 (fun i hi q => (g i hi ?_).1)
  obtain ⟨m, hj⟩ := hj
  exact sub.snoc m n j i (by omega) hj q
theorem Typ0.of (h : ∀ c : Nat, c < 20000 → pch X n c → Typ X dc fd md nd ty mn vt sc k c) (g : LTE X dc fd md nd ty mn vt sc k n t) : Typ0 X dc fd md nd ty mn vt sc k n t := ⟨fun j hj e => by
  rcases hj.cases with z | ⟨c, c1, c2, c3⟩
  · exact absurd z.symm e
  · exact h c c1 c2 j c3, g⟩
/-- outside of n nothing has changed -/
def ChE (X : Nat → Nat → Int32) (nd n : Nat) (ty ty' mn mn' : Nat → Int32) : Prop := ∀ i : Nat, i < nd → ¬ sub X n i → ty' i = ty i ∧ mn' i = mn i
theorem ChE.rfl : ChE X nd n ty ty mn mn := fun _ _ _ => ⟨Eq.refl _, Eq.refl _⟩
variable {ty2 mn2 : Nat → Int32} {c d : Nat} {v : Int32}
theorem ChE.trans (h : ChE X nd n ty ty' mn mn') (g : ChE X nd n ty' ty2 mn' mn2) : ChE X nd n ty ty2 mn mn2 := fun i hi q => ⟨(g i hi q).1.trans (h i hi q).1, (g i hi q).2.trans (h i hi q).2⟩
theorem ChE.kid (h : ChE X nd c ty ty' mn mn') (hc : c < 20000) (g : pch X n c) : ChE X nd n ty ty' mn mn' := fun i hi q => h i hi (fun z => q (sub.of hc g z))
theorem ChE.setT (hc : sub X n c) : ChE X nd n ty (upd ty c v) mn mn := fun i _ q => ⟨if_neg (fun z => q (by rw [z]; exact hc)), Eq.refl _⟩
theorem ChE.setM (hc : sub X n c) : ChE X nd n ty ty mn (upd mn c v) := fun i _ q => ⟨Eq.refl _, if_neg (fun z => q (by rw [z]; exact hc))⟩
/-- a phrase beside another is as it was -/
theorem Typ.beside (hF : Fs2 K T wr X gh nd) (hnd : nd ≤ 12000) (hn : n < nd) (h : Typ X dc fd md nd ty mn vt sc k c) (hc : c < nd) (hd : d < nd) (pc : pch X n c) (pd : pch X n d) (hne : c ≠ d) (g : ChE X nd d ty ty' mn mn') : Typ X dc fd md nd ty' mn' vt sc k c := h.frame hF hnd hc (fun i hi q => g i hi (fun z => hne (sub.apart hF hnd hn (by omega) (by omega) pc pd q z)))
/-- n's own meaning -/
theorem Typ.mean (hF : Fs2 K T wr X gh nd) (hnd : nd ≤ 12000) (hn : n < nd) (h : Typ X dc fd md nd ty mn vt sc k c) (hc : c < nd) (pc : pch X n c) : Typ X dc fd md nd ty (upd mn n v) vt sc k c := h.frame hF hnd hc (fun i hi q => ⟨Eq.refl _, if_neg (fun z => by
  have h1 := (pch_par hF hnd hn (by omega) pc).2.2
  rw [z] at q
  obtain ⟨_, h2⟩ := sub.lt2 hF hnd hc q
  by_cases e : n = c
  · rw [e] at h1; omega
  · have := h2 e; omega)⟩)
/-- whose children are where -/
def nch (k s : Nat) : Bool := cdOf k s == 0 || cdOf k s == 50 || cdOf k s == 51 || cdOf k s == 60
theorem pch_at (e : X 9 n = nI kk) (k4 : kk ≤ 44) (h : pch X n c) : ∃ s : Nat, 1 ≤ s ∧ s ≤ 4 ∧ nch kk s = false ∧ ((cdOf kk s < 200 ∧ X (11 + s) n = nI c) ∨ (200 ≤ cdOf kk s ∧ ∃ i : Nat, itr (X 16) (X (11 + s) n) i = nI c)) := by
  obtain ⟨k2, s, e2, k24, s1, s4, h0, h1⟩ := h
  have : k2 = kk := (nI_eq (by omega) (by omega)).mp (e2.symm.trans e)
  subst this
  refine ⟨s, s1, s4, ?_, h1⟩
  unfold nch
  simp [h0.1, h0.2.1, h0.2.2.1, h0.2.2.2]
theorem kids0 (e : X 9 n = nI kk) (k4 : kk ≤ 44) (h : nch kk 1 = true ∧ nch kk 2 = true ∧ nch kk 3 = true ∧ nch kk 4 = true) {p : Nat → Prop} : ∀ c : Nat, c < 20000 → pch X n c → p c := fun c hc g => by
  obtain ⟨s, s1, s4, q, _⟩ := pch_at e k4 g
  rcases (show s = 1 ∨ s = 2 ∨ s = 3 ∨ s = 4 by omega) with z | z | z | z <;> subst z <;> simp_all
theorem kids {c1 c2 c3 : Nat} (e : X 9 n = nI kk) (k4 : kk ≤ 44) (b : c1 < 20000 ∧ c2 < 20000 ∧ c3 < 20000) (h1 : nch kk 1 = true ∨ (cdOf kk 1 < 200 ∧ X 12 n = nI c1)) (h2 : nch kk 2 = true ∨ (cdOf kk 2 < 200 ∧ X 13 n = nI c2)) (h3 : nch kk 3 = true ∨ (cdOf kk 3 < 200 ∧ X 14 n = nI c3)) (h4 : nch kk 4 = true) {p : Nat → Prop} (p1 : p c1) (p2 : p c2) (p3 : p c3) : ∀ c : Nat, c < 20000 → pch X n c → p c := fun c hc g => by
  obtain ⟨s, s1, s4, q, w⟩ := pch_at e k4 g
  have key : ∀ s c1 : Nat, c1 < 20000 → (cdOf kk s < 200 ∧ X (11 + s) n = nI c1) → ((cdOf kk s < 200 ∧ X (11 + s) n = nI c) ∨ (200 ≤ cdOf kk s ∧ ∃ i : Nat, itr (X 16) (X (11 + s) n) i = nI c)) → c = c1 := fun s c1 hc1 z w => by
    rcases w with w | w
    · exact (nI_eq (by omega) (by omega)).mp (w.2.symm.trans z.2)
    · omega
  rcases (show s = 1 ∨ s = 2 ∨ s = 3 ∨ s = 4 by omega) with z | z | z | z <;> subst z
  · rcases h1 with h1 | h1
    · rw [h1] at q; exact absurd q (by decide)
    · rw [key 1 c1 b.1 h1 w]; exact p1
  · rcases h2 with h2 | h2
    · rw [h2] at q; exact absurd q (by decide)
    · rw [key 2 c2 b.2.1 h2 w]; exact p2
  · rcases h3 with h3 | h3
    · rw [h3] at q; exact absurd q (by decide)
    · rw [key 3 c3 b.2.2 h3 w]; exact p3
  · rw [h4] at q; exact absurd q (by decide)
theorem kidsL {c1 : Nat} (e : X 9 n = nI kk) (k4 : kk ≤ 44) (b : c1 < 20000) (h1 : nch kk 1 = true ∨ (cdOf kk 1 < 200 ∧ X 12 n = nI c1)) (h2 : 200 ≤ cdOf kk 2) (h3 : nch kk 3 = true) (h4 : nch kk 4 = true) {p : Nat → Prop} (p1 : p c1) (p2 : ∀ i c : Nat, c < 20000 → itr (X 16) (X 13 n) i = nI c → p c) : ∀ c : Nat, c < 20000 → pch X n c → p c := fun c hc g => by
  obtain ⟨s, s1, s4, q, w⟩ := pch_at e k4 g
  rcases (show s = 1 ∨ s = 2 ∨ s = 3 ∨ s = 4 by omega) with z | z | z | z <;> subst z
  · rcases h1 with h1 | h1
    · rw [h1] at q; exact absurd q (by decide)
    · rcases w with w | w
      · have : c = c1 := (nI_eq (by omega) (by omega)).mp (w.2.symm.trans h1.2)
        rw [this]; exact p1
      · omega
  · rcases w with w | ⟨_, i, w⟩
    · omega
    · exact p2 i c hc w
  · rw [h3] at q; exact absurd q (by decide)
  · rw [h4] at q; exact absurd q (by decide)
/-- what the new ones mean stays -/
def mnN (X : Nat → Nat → Int32) (nd : Nat) (mn : Nat → Int32) : Prop := ∀ i : Nat, i < nd → X 9 i = 9 → mn i = X 18 i
theorem mnN.up (h : mnN X nd mn) (e : ¬ X 9 n = 9) : mnN X nd (upd mn n v) := fun i hi q => by
  rw [show upd mn n v i = mn i from if_neg (fun z => e (by rw [← z]; exact q))]; exact h i hi q
theorem Fit.of {da : Nat → Int32} {a b : Nat} (h : fitF da a b = 1) (h1 : a ≤ 2050) (h2 : b ≤ 2050) : Fit da (nI a) (nI b) := ⟨a, b, Eq.refl _, Eq.refl _, h1, h2, h⟩
theorem tyOK.tc {w : Int32} (h : tyOK dc w) (hd : dc ≤ 37) : ∃ x : Nat, w = nI x ∧ TyC dc x ∧ TyC dc (1000 + x) ∧ x ≤ 1050 ∧ 1 ≤ x := by
  obtain ⟨x, e, h⟩ := h
  refine ⟨x, e, ?_, ?_, ?_, ?_⟩ <;> unfold baN at h <;> (try unfold TyC) <;> omega
theorem TyC.cl {d : Nat} (h : d < dc) : TyC dc (10 + d) := by unfold TyC; omega
theorem TyC.dn {x : Nat} (h : TyC dc x) (h1 : 1000 ≤ x) (hd : dc ≤ 37) : TyC dc (x - 1000) := by unfold TyC at h ⊢; omega
/-- what a phrase beside another holds is as it was -/
theorem ChE.at (hF : Fs2 K T wr X gh nd) (hnd : nd ≤ 12000) (hn : n < nd) (hc : c < nd) (hd : d < nd) (pc : pch X n c) (pd : pch X n d) (hne : c ≠ d) (g : ChE X nd d ty ty' mn mn') : ty' c = ty c := (g c hc (fun z => hne (sub.apart hF hnd hn (by omega) (by omega) pc pd sub.rfl z))).1
/-- what is known of the text when the look begins -/
def St (B : Nat → Nat → Int32) (gh : Nat → Nat → Nat) (nd T nm wr lz dc fd md pr bk : Nat) : Prop := Fs2 (B 2) T wr B gh nd ∧ PS T nm wr lz dc fd md pr bk B ∧ bitsM (B 31) ∧ Rk (B 29) dc ∧ (∀ y : Nat, y < wr → tyOK dc (B 21 y)) ∧ (∀ i : Nat, i < nd → nwOK (B 9 i) (B 26) dc (B 18 i)) ∧ tkRow (B 19) wr T
theorem kcl1 {w : Int32} (h : kcl 1 w = true) (e : w = nI kk) (k4 : kk ≤ 44) : 1 ≤ kk ∧ kk ≤ 23 := by
  subst e
  have : ∀ q : Nat, q ≤ 44 → kcl 1 (nI q) = true → 1 ≤ q ∧ q ≤ 23 := by decide
  exact this kk k4 h
variable {c1 c2 c3 x y z f q : Nat}
theorem LT1 (e : X 9 j = nI 1) : LTE X dc fd md nd ty mn vt sc k j (nI 1) := ⟨1, e, by omega, (show nI 1 = 1 from Eq.refl _)⟩
theorem LT11 (e : X 9 j = nI 11) : LTE X dc fd md nd ty mn vt sc k j (nI 1) := ⟨11, e, by omega, (show nI 1 = 1 from Eq.refl _)⟩
theorem LT2 (e : X 9 j = nI 2) : LTE X dc fd md nd ty mn vt sc k j (nI 2) := ⟨2, e, by omega, (show nI 2 = 2 from Eq.refl _)⟩
theorem LT3 (e : X 9 j = nI 3) : LTE X dc fd md nd ty mn vt sc k j (nI 2) := ⟨3, e, by omega, (show nI 2 = 2 from Eq.refl _)⟩
theorem LT4 (e : X 9 j = nI 4) : LTE X dc fd md nd ty mn vt sc k j (nI 3) := ⟨4, e, by omega, (show nI 3 = 3 from Eq.refl _)⟩
theorem LT5 (e : X 9 j = nI 5) : LTE X dc fd md nd ty mn vt sc k j (nI (10 + k)) := ⟨5, e, by omega, (show nI (10 + k) = nI (10 + k) from Eq.refl _)⟩
theorem LT6v (e : X 9 j = nI 6) (h1 : x < sc) (h2 : mn j = nI x) (h3 : t = vt x) : LTE X dc fd md nd ty mn vt sc k j t := ⟨6, e, by omega, (show _ ∨ _ from Or.inl ⟨x, h1, h2, h3⟩)⟩
theorem LT6f (e : X 9 j = nI 6) (h1 : f < fd) (h2 : mn j = -2 - nI f) (h3 : FldO X dc k f) (h4 : t = ftF X f) : LTE X dc fd md nd ty mn vt sc k j t := ⟨6, e, by omega, (show _ ∨ _ from Or.inr ⟨f, h1, h2, h3, h4⟩)⟩
theorem LT7 (e : X 9 j = nI 7) (h1 : CalP X ty mn dc md nd k j t) : LTE X dc fd md nd ty mn vt sc k j t := ⟨7, e, by omega, (show CalP X ty mn dc md nd k j t from h1)⟩
theorem LT8 (e : X 9 j = nI 8) (h0 : X 29 k = nI x) (h1 : CalP X ty mn dc md nd x j t) : LTE X dc fd md nd ty mn vt sc k j t := ⟨8, e, by omega, (show ∃ s : Nat, X 29 k = nI s ∧ CalP X ty mn dc md nd s j t from ⟨x, h0, h1⟩)⟩
theorem LT9 (e : X 9 j = nI 9) (h0 : mn j = nI x) (h1 : x < dc) (h2 : X 26 x = 0) : LTE X dc fd md nd ty mn vt sc k j (nI (10 + x)) := ⟨9, e, by omega, (show ∃ c : Nat, mn j = nI c ∧ c < dc ∧ X 26 c = 0 ∧ nI (10 + x) = nI (10 + c) from ⟨x, h0, h1, h2, Eq.refl _⟩)⟩
theorem LT10 (e : X 9 j = nI 10) (g1 : chN X 1 j = c1) (h0 : ty c1 = 1) (h1 : X 13 j = nI y) (h2 : X 21 y = nI x) (h5 : y ≤ 6000 ∧ x ≤ 2050) : LTE X dc fd md nd ty mn vt sc k j (nI (1000 + x)) := ⟨10, e, by omega, (show ty (chN X 1 j) = 1 ∧ ∃ y z : Nat, X 13 j = nI y ∧ X 21 y = nI z ∧ nI (1000 + x) = nI (1000 + z) ∧ y ≤ 6000 ∧ z ≤ 2050 from ⟨by rw [g1]; exact h0, y, x, h1, h2, Eq.refl _, h5⟩)⟩
theorem LT12 (e : X 9 j = nI 12) (g1 : chN X 1 j = c1) (h0 : ty c1 = nI (10 + x)) (h1 : x < dc) (h2 : X 26 x = 0) (h3 : mn j = nI f) (h4 : f < fd) (h5 : FldO X dc x f) (h6 : t = ftF X f) : LTE X dc fd md nd ty mn vt sc k j t := ⟨12, e, by omega, (show ∃ c f : Nat, ty (chN X 1 j) = nI (10 + c) ∧ c < dc ∧ X 26 c = 0 ∧ mn j = nI f ∧ f < fd ∧ FldO X dc c f ∧ t = ftF X f from ⟨x, f, by rw [g1]; exact h0, h1, h2, h3, h4, h5, h6⟩)⟩
theorem LT13 (e : X 9 j = nI 13) (g1 : chN X 1 j = c1) (h0 : ty c1 = nI x) (h1 : 1000 ≤ x) (h2 : x ≤ 2050) : LTE X dc fd md nd ty mn vt sc k j (nI 1) := ⟨13, e, by omega, (show nI 1 = 1 ∧ ∃ z : Nat, ty (chN X 1 j) = nI (1000 + z) ∧ z ≤ 1050 from ⟨Eq.refl _, x - 1000, by rw [g1, h0, show 1000 + (x - 1000) = x by omega], by omega⟩)⟩
theorem LT14 (e : X 9 j = nI 14) (g1 : chN X 1 j = c1) (h0 : ty c1 = nI (10 + x)) (h1 : CalP X ty mn dc md nd x j t) : LTE X dc fd md nd ty mn vt sc k j t := ⟨14, e, by omega, (show ∃ c : Nat, ty (chN X 1 j) = nI (10 + c) ∧ CalP X ty mn dc md nd c j t from ⟨x, by rw [g1]; exact h0, h1⟩)⟩
theorem LT15 (e : X 9 j = nI 15) (g1 : chN X 1 j = c1) (g2 : chN X 2 j = c2) (h0 : ty c1 = nI x) (h1 : 1000 ≤ x) (h2 : x ≤ 2050) (h3 : ty c2 = 1) : LTE X dc fd md nd ty mn vt sc k j (nI (x - 1000)) := ⟨15, e, by omega, (show ty (chN X 2 j) = 1 ∧ ∃ z : Nat, ty (chN X 1 j) = nI (1000 + z) ∧ z ≤ 1050 ∧ nI (x - 1000) = nI z from ⟨by rw [g2]; exact h3, x - 1000, by rw [g1, h0, show 1000 + (x - 1000) = x by omega], by omega, Eq.refl _⟩)⟩
theorem LT16 (e : X 9 j = nI 16) (g1 : chN X 1 j = c1) (h0 : ty c1 = t) : LTE X dc fd md nd ty mn vt sc k j t := ⟨16, e, by omega, (show ty (chN X 1 j) = t from (by rw [g1]; exact h0))⟩
theorem LT17 (e : X 9 j = nI 17) (g1 : chN X 1 j = c1) (h0 : ty c1 = t) (h1 : t = 1 ∨ t = 2) : LTE X dc fd md nd ty mn vt sc k j t := ⟨17, e, by omega, (show ty (chN X 1 j) = t ∧ (t = 1 ∨ t = 2) from ⟨by rw [g1]; exact h0, h1⟩)⟩
theorem LT18 (e : X 9 j = nI 18) (g1 : chN X 1 j = c1) (g2 : chN X 2 j = c2) (h0 : ty c1 = nI x) (h1 : 1 ≤ x ∧ x ≤ 2050) (h2 : ty c2 = nI y) (h3 : 1 ≤ y ∧ y ≤ 2050) (h4 : t = 1 ∨ t = 2) : LTE X dc fd md nd ty mn vt sc k j t := ⟨18, e, by omega, (show (t = 1 ∨ t = 2) ∧ ¬ ty (chN X 1 j) = 0 ∧ ¬ ty (chN X 2 j) = 0 from ⟨h4, fun w => by rw [g1, h0] at w; have := (nI_eq (a := x) (b := 0) (by omega) (by omega)).mp w; omega, fun w => by rw [g2, h2] at w; have := (nI_eq (a := y) (b := 0) (by omega) (by omega)).mp w; omega⟩)⟩
theorem LT19 (e : X 9 j = nI 19) (g1 : chN X 1 j = c1) (g2 : chN X 2 j = c2) (h0 : ty c1 = 2) (h1 : ty c2 = 2) : LTE X dc fd md nd ty mn vt sc k j (nI 2) := ⟨19, e, by omega, (show nI 2 = 2 ∧ ty (chN X 1 j) = 2 ∧ ty (chN X 2 j) = 2 from ⟨Eq.refl _, by rw [g1]; exact h0, by rw [g2]; exact h1⟩)⟩
theorem LT20 (e : X 9 j = nI 20) (g1 : chN X 1 j = c1) (g2 : chN X 2 j = c2) (h0 : ty c1 = 2) (h1 : ty c2 = 2) : LTE X dc fd md nd ty mn vt sc k j (nI 2) := ⟨20, e, by omega, (show nI 2 = 2 ∧ ty (chN X 1 j) = 2 ∧ ty (chN X 2 j) = 2 from ⟨Eq.refl _, by rw [g1]; exact h0, by rw [g2]; exact h1⟩)⟩
theorem LT21 (e : X 9 j = nI 21) (g1 : chN X 1 j = c1) (h0 : ty c1 = nI x) (h1 : 3 ≤ x ∧ x ≤ 2050) (h2 : X 13 j = nI y) (h3 : X 21 y = nI z) (h4 : 3 ≤ z) (h5 : y ≤ 6000 ∧ z ≤ 2050) : LTE X dc fd md nd ty mn vt sc k j (nI 2) := ⟨21, e, by omega, (show nI 2 = 2 ∧ (∃ x : Nat, ty (chN X 1 j) = nI x ∧ 3 ≤ x ∧ x ≤ 2050) ∧ ∃ y x : Nat, X 13 j = nI y ∧ X 21 y = nI x ∧ 3 ≤ x ∧ y ≤ 6000 ∧ x ≤ 2050 from ⟨Eq.refl _, ⟨x, by rw [g1]; exact h0, h1⟩, y, z, h2, h3, h4, h5⟩)⟩
theorem LT22 (e : X 9 j = nI 22) (g1 : chN X 1 j = c1) (h0 : ty c1 = nI x) (h1 : 3 ≤ x ∧ x ≤ 2050) (h2 : X 13 j = nI y) (h3 : X 21 y = nI z) (h4 : 3 ≤ z) (h5 : y ≤ 6000 ∧ z ≤ 2050) : LTE X dc fd md nd ty mn vt sc k j (nI z) := ⟨22, e, by omega, (show (∃ x : Nat, ty (chN X 1 j) = nI x ∧ 3 ≤ x ∧ x ≤ 2050) ∧ ∃ y x : Nat, X 13 j = nI y ∧ X 21 y = nI x ∧ 3 ≤ x ∧ nI z = nI x ∧ y ≤ 6000 ∧ x ≤ 2050 from ⟨⟨x, by rw [g1]; exact h0, h1⟩, y, z, h2, h3, h4, Eq.refl _, h5⟩)⟩
theorem LT23 (e : X 9 j = nI 23) (g1 : chN X 1 j = c1) (g2 : chN X 2 j = c2) (g3 : chN X 3 j = c3) (h0 : ty c1 = 2) (h1 : Fit (X 31) (ty c2) t) (h2 : Fit (X 31) (ty c3) t) (h3 : ty c2 = t ∨ ty c3 = t) : LTE X dc fd md nd ty mn vt sc k j t := ⟨23, e, by omega, (show ty (chN X 1 j) = 2 ∧ Fit (X 31) (ty (chN X 2 j)) t ∧ Fit (X 31) (ty (chN X 3 j)) t ∧ (ty (chN X 2 j) = t ∨ ty (chN X 3 j) = t) from ⟨by rw [g1]; exact h0, by rw [g2]; exact h1, by rw [g3]; exact h2, by rw [g2, g3]; exact h3⟩)⟩
/-- what the arguments of a call leave -/
def ChLr (X : Nat → Nat → Int32) (nd n : Nat) (ty ty' mn mn' : Nat → Int32) : Prop := ∀ i : Nat, i < nd → i ≠ n → (∀ z c : Nat, c < 20000 → itr (X 16) (X 13 n) z = nI c → ¬ sub X c i) → ty' i = ty i ∧ mn' i = mn i
theorem ChLr.rfl : ChLr X nd n ty ty mn mn := fun _ _ _ _ => ⟨Eq.refl _, Eq.refl _⟩
theorem ChLr.trans (h : ChLr X nd n ty ty' mn mn') (g : ChLr X nd n ty' ty2 mn' mn2) : ChLr X nd n ty ty2 mn mn2 := fun i hi q w => ⟨(g i hi q w).1.trans (h i hi q w).1, (g i hi q w).2.trans (h i hi q w).2⟩
theorem ChLr.mem {z : Nat} (h : ChE X nd c ty ty' mn mn') (hc : c < 20000) (e : itr (X 16) (X 13 n) z = nI c) : ChLr X nd n ty ty' mn mn' := fun i hi _ w => h i hi (w z c hc e)
theorem ChLr.own : ChLr X nd n ty ty mn (upd mn n v) := fun i _ q _ => ⟨Eq.refl _, if_neg q⟩
theorem ChLr.che (h : ChLr X nd n ty ty' mn mn') (e : X 9 n = nI kk) (k4 : kk ≤ 44) (hc : 200 ≤ cdOf kk 2) : ChE X nd n ty ty' mn mn' := fun i hi q => h i hi (fun w => q (by rw [w]; exact sub.rfl)) (fun z c hc' w g => q (sub.of hc' (pch_list e k4 (s := 2) (by omega) (by omega) hc w) g))
theorem list_par (hF : Fs2 K T wr X gh nd) (hnd : nd ≤ 12000) (hn : n < nd) (e : X 9 n = nI kk) (k4 : kk ≤ 44) (hc : 200 ≤ cdOf kk 2) {z : Nat} (hz : c < 20000) (w : itr (X 16) (X 13 n) z = nI c) : c < nd ∧ gh 0 c = 8 * n + 5 ∧ gh 1 c < gh 1 n ∧ pch X n c ∧ kcl (cdOf kk 2 % 100) (X 9 c) = true ∨ ¬ cdOf kk 2 = 201 := by
  by_cases e1 : cdOf kk 2 = 201
  · refine Or.inl ?_
    have pc := pch_list e k4 (s := 2) (by omega) (by omega) hc w
    obtain ⟨p1, p2, p3⟩ := pch_par hF hnd hn hz pc
    obtain ⟨k2, e2, _, k44, hs⟩ := hF.knd hn
    have ek : k2 = kk := (nI_eq (by omega) (by omega)).mp (e2.symm.trans e)
    subst ek
    rcases (hs 2 (by omega) (by omega)).2.2.2 (by omega) (by omega) (by omega) (by omega) with ⟨y, _⟩ | ⟨d, y1, _, y2, y3, y4, y5, _⟩
    · rw [itr_m1 (k := 0) y z (Nat.zero_le _)] at w; exact absurd w.symm (nI_m1 (by omega))
    · rw [if_pos hc] at y3
      have key : ∀ i c : Nat, c < 20000 → itr (X 16) (X 13 n) i = nI c → lcl (X 9 c) = lcl (X 9 d) := by
        intro i
        induction i with
        | zero => intro c hc e; have : d = c := (nI_eq (by omega) (by omega)).mp (y1.symm.trans e); rw [this]
        | succ i ih =>
          intro c hc e
          rcases itr_ln hF.lnr (Or.inr ⟨d, y1, y2⟩) (by omega) i with u | ⟨q, u1, _, u2⟩
          · rw [itr_m1 u (i + 1) (by omega)] at e; exact absurd e.symm (nI_m1 (by omega))
          · rw [itr_s u1 (by omega)] at e
            rcases (hF q u2).2.2.1 with u | ⟨j, w1, w2, w3, w4, w5, w6, w7⟩
            · rw [u] at e; exact absurd e.symm (nI_m1 (by omega))
            · have : j = c := (nI_eq (by omega) (by omega)).mp (w1.symm.trans e)
              rw [← this, w7]; exact ih q (by omega) u1
      obtain ⟨k3, e3, k31, k34, _⟩ := hF.knd p1
      obtain ⟨k5, e5, k51, k54, _⟩ := hF.knd y2
      have l1 := key z c hz w
      rw [e1] at y5 ⊢
      rw [e3, e5] at l1
      rw [e5] at y5
      rw [e3]
      have dec : ∀ q : Nat, q ≤ 44 → kcl (201 % 100) (nI q) = true → lcl (nI q) = 1 := by decide
      have dec2 : ∀ q : Nat, q ≤ 44 → 1 ≤ q → lcl (nI q) = 1 → kcl (201 % 100) (nI q) = true := by decide
      refine ⟨p1, ?_, p3, pc, dec2 k3 k34 k31 (l1.trans (dec k5 k54 y5))⟩
      have := (itr_par hF hnd y1 y2 z c hz w).2
      rw [this, y3]
  · exact Or.inr e1
end LK
def PlookAt (l : Launch) (G : pT) (z9 : Nat) : Prop := ∀ (h0 : Nat) (a : Nat → Nat) (F : Nat → Int32) (B : Nat → Nat → Int32) (n9 : Nat) (fa : Nat) (sc : Nat) (k9 : Nat) (nd : Nat) (T : Nat) (nm : Nat) (wr : Nat) (lz : Nat) (dc : Nat) (fd : Nat) (md : Nat) (pr : Nat) (bk : Nat) (gh : Nat → Nat → Nat) (dn : Int32) (wt : Int32) (wf : Int32) (nc : Nat → Int32) (ty : Nat → Int32) (mn : Nat → Int32) (vn : Nat → Int32) (vt : Nat → Int32), (St B gh nd T nm wr lz dc fd md pr bk) → (nd ≤ 12000 ∧ T ≤ 5000 ∧ wr ≤ 5000 ∧ 7 ≤ dc ∧ dc ≤ 37 ∧ fd ≤ 620 ∧ md ≤ 920 ∧ pr ≤ 5000) → (n9 < nd) → (gh 1 n9 < z9) → (fa ≤ 15) → (sc ≤ 30) → (7 ≤ k9 ∧ k9 < dc) → (∀ i : Nat, i < nd → ¬ B 9 i = 44 → nc i = B 14 i) → (mnN B nd mn) → (∀ i : Nat, i < sc → tyOK dc (vt i)) → (kcl 1 (B 9 n9) = true) → PM l G pX0 yX12_lookAt cX12_lookAt 3 (some .int) ({ frames := (4 * z9 + 10), cells := 0, slots := 0, locals := (160 * z9 + 1400) }) [.ref h0, .int (nI n9)] (mW G h0 a (upd (upd (upd (upd (upd (upd (upd (upd F 15 (nI fa)) 44 (nI fd)) 49 (nI md)) 73 (nI sc)) 74 (nI k9)) 77 dn) 78 wt) 79 wf) (updA (updA (updA (updA (updA B 14 nc) 17 ty) 18 mn) 48 vn) 49 vt)) (fun (v : Option Value) (u : Nat × Nat × Int32 × Int32 × Int32 × Int32 × (Nat → Int32) × (Nat → Int32)) => v = some (.int (nI u.1)) ∧ (fa ≤ u.2.1) ∧ (u.2.1 ≤ 15) ∧ (TyC dc u.1) ∧ (u.1 ≤ 2050) ∧ (ChE B nd n9 ty u.2.2.2.2.2.2.1 mn u.2.2.2.2.2.2.2) ∧ (mnN B nd u.2.2.2.2.2.2.2) ∧ (If (u.2.1 = 0) (Typ0 B dc fd md nd u.2.2.2.2.2.2.1 u.2.2.2.2.2.2.2 vt sc k9 n9 (nI u.1)))) (fun u => (mW G h0 a (upd (upd (upd (upd (upd (upd (upd (upd (upd F 15 (nI u.2.1)) 16 u.2.2.1) 44 (nI fd)) 49 (nI md)) 73 (nI sc)) 74 (nI k9)) 77 u.2.2.2.1) 78 u.2.2.2.2.1) 79 u.2.2.2.2.2.1) (updA (updA (updA (updA (updA B 14 nc) 17 u.2.2.2.2.2.2.1) 18 u.2.2.2.2.2.2.2) 48 vn) 49 vt)))
def Plook (l : Launch) (G : pT) (z9 : Nat) : Prop := ∀ (h0 : Nat) (a : Nat → Nat) (F : Nat → Int32) (B : Nat → Nat → Int32) (n9 : Nat) (fa : Nat) (sc : Nat) (k9 : Nat) (nd : Nat) (T : Nat) (nm : Nat) (wr : Nat) (lz : Nat) (dc : Nat) (fd : Nat) (md : Nat) (pr : Nat) (bk : Nat) (gh : Nat → Nat → Nat) (dn : Int32) (wt : Int32) (wf : Int32) (nc : Nat → Int32) (ty : Nat → Int32) (mn : Nat → Int32) (vn : Nat → Int32) (vt : Nat → Int32), (St B gh nd T nm wr lz dc fd md pr bk) → (nd ≤ 12000 ∧ T ≤ 5000 ∧ wr ≤ 5000 ∧ 7 ≤ dc ∧ dc ≤ 37 ∧ fd ≤ 620 ∧ md ≤ 920 ∧ pr ≤ 5000) → (n9 < nd) → (gh 1 n9 < z9) → (fa ≤ 15) → (sc ≤ 30) → (7 ≤ k9 ∧ k9 < dc) → (∀ i : Nat, i < nd → ¬ B 9 i = 44 → nc i = B 14 i) → (mnN B nd mn) → (∀ i : Nat, i < sc → tyOK dc (vt i)) → (kcl 1 (B 9 n9) = true) → PM l G pX0 yX12_look cX12_look 3 (some .int) ({ frames := (4 * z9 + 11), cells := 0, slots := 0, locals := (160 * z9 + 1440) }) [.ref h0, .int (nI n9)] (mW G h0 a (upd (upd (upd (upd (upd (upd (upd (upd F 15 (nI fa)) 44 (nI fd)) 49 (nI md)) 73 (nI sc)) 74 (nI k9)) 77 dn) 78 wt) 79 wf) (updA (updA (updA (updA (updA B 14 nc) 17 ty) 18 mn) 48 vn) 49 vt)) (fun (v : Option Value) (u : Nat × Nat × Int32 × Int32 × Int32 × Int32 × (Nat → Int32) × (Nat → Int32)) => v = some (.int (nI u.1)) ∧ (fa ≤ u.2.1) ∧ (u.2.1 ≤ 15) ∧ (TyC dc u.1) ∧ (u.1 ≤ 2050) ∧ (ChE B nd n9 ty u.2.2.2.2.2.2.1 mn u.2.2.2.2.2.2.2) ∧ (mnN B nd u.2.2.2.2.2.2.2) ∧ (If (u.2.1 = 0) (Typ B dc fd md nd u.2.2.2.2.2.2.1 u.2.2.2.2.2.2.2 vt sc k9 n9)) ∧ (u.2.2.2.2.2.2.1 n9 = nI u.1)) (fun u => (mW G h0 a (upd (upd (upd (upd (upd (upd (upd (upd (upd F 15 (nI u.2.1)) 16 u.2.2.1) 44 (nI fd)) 49 (nI md)) 73 (nI sc)) 74 (nI k9)) 77 u.2.2.2.1) 78 u.2.2.2.2.1) 79 u.2.2.2.2.2.1) (updA (updA (updA (updA (updA B 14 nc) 17 u.2.2.2.2.2.2.1) 18 u.2.2.2.2.2.2.2) 48 vn) 49 vt)))
def Pwants (l : Launch) (G : pT) (z9 : Nat) : Prop := ∀ (h0 : Nat) (a : Nat → Nat) (F : Nat → Int32) (B : Nat → Nat → Int32) (n9 : Nat) (fa : Nat) (sc : Nat) (k9 : Nat) (nd : Nat) (T : Nat) (nm : Nat) (wr : Nat) (lz : Nat) (dc : Nat) (fd : Nat) (md : Nat) (pr : Nat) (bk : Nat) (gh : Nat → Nat → Nat) (dn : Int32) (wt : Int32) (wf : Int32) (nc : Nat → Int32) (ty : Nat → Int32) (mn : Nat → Int32) (vn : Nat → Int32) (vt : Nat → Int32) (ta : Nat), (St B gh nd T nm wr lz dc fd md pr bk) → (nd ≤ 12000 ∧ T ≤ 5000 ∧ wr ≤ 5000 ∧ 7 ≤ dc ∧ dc ≤ 37 ∧ fd ≤ 620 ∧ md ≤ 920 ∧ pr ≤ 5000) → (n9 < nd) → (gh 1 n9 < z9) → (fa ≤ 15) → (sc ≤ 30) → (7 ≤ k9 ∧ k9 < dc) → (∀ i : Nat, i < nd → ¬ B 9 i = 44 → nc i = B 14 i) → (mnN B nd mn) → (∀ i : Nat, i < sc → tyOK dc (vt i)) → (kcl 1 (B 9 n9) = true) → (ta ≤ 2050) → PM l G pX0 yX12_wants cX12_wants 4 none ({ frames := (4 * z9 + 12), cells := 0, slots := 0, locals := (160 * z9 + 1480) }) [.ref h0, .int (nI n9), .int (nI ta)] (mW G h0 a (upd (upd (upd (upd (upd (upd (upd (upd F 15 (nI fa)) 44 (nI fd)) 49 (nI md)) 73 (nI sc)) 74 (nI k9)) 77 dn) 78 wt) 79 wf) (updA (updA (updA (updA (updA B 14 nc) 17 ty) 18 mn) 48 vn) 49 vt)) (fun (v : Option Value) (u : Nat × Int32 × Int32 × Int32 × Int32 × (Nat → Int32) × (Nat → Int32)) => v = none ∧ (fa ≤ u.1) ∧ (u.1 ≤ 15) ∧ (ChE B nd n9 ty u.2.2.2.2.2.1 mn u.2.2.2.2.2.2) ∧ (mnN B nd u.2.2.2.2.2.2) ∧ (If (u.1 = 0) (Typ B dc fd md nd u.2.2.2.2.2.1 u.2.2.2.2.2.2 vt sc k9 n9 ∧ u.2.2.2.2.2.1 n9 = nI ta))) (fun u => (mW G h0 a (upd (upd (upd (upd (upd (upd (upd (upd (upd F 15 (nI u.1)) 16 u.2.1) 44 (nI fd)) 49 (nI md)) 73 (nI sc)) 74 (nI k9)) 77 u.2.2.1) 78 u.2.2.2.1) 79 u.2.2.2.2.1) (updA (updA (updA (updA (updA B 14 nc) 17 u.2.2.2.2.2.1) 18 u.2.2.2.2.2.2) 48 vn) 49 vt)))
set_option maxHeartbeats 2000000 in
set_option maxRecDepth 100000 in
/-- judge(good, what, token), 15 at most -/
theorem R_judgeL (l : Launch) (G : pT) (h0 : Nat) (a : Nat → Nat) (F : Nat → Int32) (B : Nat → Nat → Int32) (gd : Nat) (x : Nat) (i : Nat) (fa : Nat) (hgd : gd ≤ 1) (hi : i ≤ 5000) (hfa : fa ≤ 15) (hx9 : 0 < x ∧ x ≤ 15) : PM l G pX0 yX12_judge cX12_judge 4 (some .boolean) ({ frames := 3, cells := 0, slots := 0, locals := 82 }) [.ref h0, .int (nI gd), .int (nI x), .int (nI i)] (mW G h0 a (upd F 15 (nI fa)) B) (fun (v : Option Value) (u : Nat × Nat × Int32) => v = some (.int (nI u.1)) ∧ (u.1 ≤ 1) ∧ (fa ≤ u.2.1) ∧ (u.2.1 ≤ 15) ∧ (u.2.1 + 15 * u.1 ≤ 15) ∧ (1 ≤ u.1 + u.2.1) ∧ (1 ≤ gd + u.2.1) ∧ (u.2.1 ≤ fa + 15 * (1 - gd))) (fun u => (mW G h0 a (upd (upd F 15 (nI u.2.1)) 16 u.2.2) B)) := by
  intro sz
  refine Met.ofW (cc := cX12_judge) (maxL := 4) (ret := (some .boolean)) (by decide) rfl ?_
  intro p e s m args below meth c s₁ B9 hml hv
  obtain ⟨rfl, hsz, hP, hD0, hE, hX⟩ := hv
  have hx := B9.exec
  have hb := B9.bytes
  have hr := B9.returns
  have hts := atoms_spec (ws := Cond.code yX12_judge cX12_judge 4 (some .boolean) :: pw) B9.pre
  have hq : ∀ w ∈ pw, w.before _ s = true := fun w h => hts w (List.mem_cons_of_mem _ h)
  have hown : s.vm.findClass RX12 = some m.cls := findClass_of_methodNamed B9.named
  have hlocks := B9.notSynchronized
  subst hsz
  have hD := hD0.self (sz := s.heap.size)
  have hA : ∀ q : Nat, s.heap.size ≤ q → va_A (mW G h0 a (upd F 15 (nI fa)) B) s.heap.size q := fun q h => Or.inr h
  have hP : va_P G.1 pCl (mW G h0 a (upd F 15 (nI fa)) B) s.heap := hP
  generalize va_A (mW G h0 a (upd F 15 (nI fa)) B) s.heap.size = A at hD hE hA ⊢
  have hS : va_S A s.heap s.heap [] := va_S.rf
  have hl := lv_entry ([.ref h0, .int (nI gd), .int (nI x), .int (nI i)]) (n := 4) (Nat.le_of_ble_eq_true rfl)
  rw [lg_entry_eq]
  generalize (lg_sl ([.ref h0, .int (nI gd), .int (nI x), .int (nI i)]) ++ List.replicate (4 - (lg_sl ([.ref h0, .int (nI gd), .int (nI x), .int (nI i)])).length) Slot.unset).toArray = ls at hl ⊢
  have hl : lv_has ls 4 [(0, .ref h0), (1, .int (nI gd)), (2, .int (nI x)), (3, .int (nI i))] := hl
  refine lv_aload_n hx hb dX12_judge_0 rfl (lv_at hl 0 rfl) ?_
  refine r_get (v := .int (nI fa)) hx hb hown hq hE hP 15 350 tFX12_15 (by decide) pw_1594 rfl dX12_judge_1 ?_
  refine lv_if_ne (tgt := 17) hx hb dX12_judge_4 (by decide) (fun c1 => ?_) (fun c1 => ?_)
  · have n2 : ¬ (fa = 0) := fun h9 => c1 ((nI_eq (a := fa) (b := 0) (by omega) (by omega)).mpr h9)
    refine lv_aload_n hx hb dX12_judge_17 rfl (lv_at hl 0 rfl) ?_
    refine r_get (v := .int (nI fa)) hx hb hown hq hE hP 15 350 tFX12_15 (by decide) pw_1594 rfl dX12_judge_18 ?_
    refine lv_if_ne (tgt := 28) hx hb dX12_judge_21 (by decide) (fun c3 => ?_) (fun c3 => ?_)
    · have n4 : ¬ (fa = 0) := fun h9 => c3 ((nI_eq (a := fa) (b := 0) (by omega) (by omega)).mpr h9)
      refine lv_iconst (v := 0) hx hb dX12_judge_28 (by decide) ?_
      have hz5 : 0 ≤ 1 := (by omega)
      have hz6 : fa ≤ fa := (by omega)
      have hz7 : fa ≤ 15 := (by omega)
      have hz8 : fa + 15 * 0 ≤ 15 := (by omega)
      have hz9 : 1 ≤ 0 + fa := (by omega)
      have hz10 : 1 ≤ gd + fa := (by omega)
      have hz11 : fa ≤ fa + 15 * (1 - gd) := (by omega)
      have hP : va_P G.1 pCl (mW G h0 a (upd (upd F 15 (nI fa)) 16 (F 16)) B) _ := mW_to (F := F) (l1 := [(15, (nI fa))]) (l2 := [(15, (nI fa)), (16, (F 16))]) (V := [(nI fa), (nI fa), (F 16)]) rfl rfl rfl hP
      have hD : va_D A (mW G h0 a (upd (upd F 15 (nI fa)) 16 (F 16)) B) := mW_D hD
      exact W.zret (v := 0) hx hb hr rfl (fun t9 ht9 hW9 => ⟨⟨_, (0, fa, (F 16)), rfl, ⟨rfl, hz5, hz6, hz7, hz8, hz9, hz10, hz11⟩, by rw [ht9]; exact hP, hD⟩, hS.F ht9⟩) hS.2.2 dX12_judge_29
    · have n12 : fa = 0 := (nI_eq (a := fa) (b := 0) (by omega) (by omega)).mp c3
      refine lv_iconst (v := 1) hx hb dX12_judge_24 (by decide) ?_
      refine lv_goto (tgt := 29) hx hb dX12_judge_25 (by decide) ?_
      have hz13 : 1 ≤ 1 := (by omega)
      have hz14 : fa ≤ fa := (by omega)
      have hz15 : fa ≤ 15 := (by omega)
      have hz16 : fa + 15 * 1 ≤ 15 := (by omega)
      have hz17 : 1 ≤ 1 + fa := (by omega)
      have hz18 : 1 ≤ gd + fa := (by omega)
      have hz19 : fa ≤ fa + 15 * (1 - gd) := (by omega)
      have hP : va_P G.1 pCl (mW G h0 a (upd (upd F 15 (nI fa)) 16 (F 16)) B) _ := mW_to (F := F) (l1 := [(15, (nI fa))]) (l2 := [(15, (nI fa)), (16, (F 16))]) (V := [(nI fa), (nI fa), (F 16)]) rfl rfl rfl hP
      have hD : va_D A (mW G h0 a (upd (upd F 15 (nI fa)) 16 (F 16)) B) := mW_D hD
      exact W.zret (v := 1) hx hb hr rfl (fun t9 ht9 hW9 => ⟨⟨_, (1, fa, (F 16)), rfl, ⟨rfl, hz13, hz14, hz15, hz16, hz17, hz18, hz19⟩, by rw [ht9]; exact hP, hD⟩, hS.F ht9⟩) hS.2.2 dX12_judge_29
  · have n20 : fa = 0 := (nI_eq (a := fa) (b := 0) (by omega) (by omega)).mp c1
    refine lv_iload_n hx hb dX12_judge_7 rfl (lv_at hl 1 rfl) ?_
    refine lv_if_ne (tgt := 17) hx hb dX12_judge_8 (by decide) (fun c21 => ?_) (fun c21 => ?_)
    · have n22 : ¬ (gd = 0) := fun h9 => c21 ((nI_eq (a := gd) (b := 0) (by omega) (by omega)).mpr h9)
      refine lv_aload_n hx hb dX12_judge_17 rfl (lv_at hl 0 rfl) ?_
      refine r_get (v := .int (nI fa)) hx hb hown hq hE hP 15 350 tFX12_15 (by decide) pw_1594 rfl dX12_judge_18 ?_
      refine lv_if_ne (tgt := 28) hx hb dX12_judge_21 (by decide) (fun c23 => ?_) (fun c23 => ?_)
      · have n24 : ¬ (fa = 0) := fun h9 => c23 ((nI_eq (a := fa) (b := 0) (by omega) (by omega)).mpr h9)
        refine lv_iconst (v := 0) hx hb dX12_judge_28 (by decide) ?_
        have hz25 : 0 ≤ 1 := (by omega)
        have hz26 : fa ≤ fa := (by omega)
        have hz27 : fa ≤ 15 := (by omega)
        have hz28 : fa + 15 * 0 ≤ 15 := (by omega)
        have hz29 : 1 ≤ 0 + fa := (by omega)
        have hz30 : 1 ≤ gd + fa := (by omega)
        have hz31 : fa ≤ fa + 15 * (1 - gd) := (by omega)
        have hP : va_P G.1 pCl (mW G h0 a (upd (upd F 15 (nI fa)) 16 (F 16)) B) _ := mW_to (F := F) (l1 := [(15, (nI fa))]) (l2 := [(15, (nI fa)), (16, (F 16))]) (V := [(nI fa), (nI fa), (F 16)]) rfl rfl rfl hP
        have hD : va_D A (mW G h0 a (upd (upd F 15 (nI fa)) 16 (F 16)) B) := mW_D hD
        exact W.zret (v := 0) hx hb hr rfl (fun t9 ht9 hW9 => ⟨⟨_, (0, fa, (F 16)), rfl, ⟨rfl, hz25, hz26, hz27, hz28, hz29, hz30, hz31⟩, by rw [ht9]; exact hP, hD⟩, hS.F ht9⟩) hS.2.2 dX12_judge_29
      · have n32 : fa = 0 := (nI_eq (a := fa) (b := 0) (by omega) (by omega)).mp c23
        refine lv_iconst (v := 1) hx hb dX12_judge_24 (by decide) ?_
        refine lv_goto (tgt := 29) hx hb dX12_judge_25 (by decide) ?_
        have hz33 : 1 ≤ 1 := (by omega)
        have hz34 : fa ≤ fa := (by omega)
        have hz35 : fa ≤ 15 := (by omega)
        have hz36 : fa + 15 * 1 ≤ 15 := (by omega)
        have hz37 : 1 ≤ 1 + fa := (by omega)
        have hz38 : 1 ≤ gd + fa := (by omega)
        have hz39 : fa ≤ fa + 15 * (1 - gd) := (by omega)
        have hP : va_P G.1 pCl (mW G h0 a (upd (upd F 15 (nI fa)) 16 (F 16)) B) _ := mW_to (F := F) (l1 := [(15, (nI fa))]) (l2 := [(15, (nI fa)), (16, (F 16))]) (V := [(nI fa), (nI fa), (F 16)]) rfl rfl rfl hP
        have hD : va_D A (mW G h0 a (upd (upd F 15 (nI fa)) 16 (F 16)) B) := mW_D hD
        exact W.zret (v := 1) hx hb hr rfl (fun t9 ht9 hW9 => ⟨⟨_, (1, fa, (F 16)), rfl, ⟨rfl, hz33, hz34, hz35, hz36, hz37, hz38, hz39⟩, by rw [ht9]; exact hP, hD⟩, hS.F ht9⟩) hS.2.2 dX12_judge_29
    · have n40 : gd = 0 := (nI_eq (a := gd) (b := 0) (by omega) (by omega)).mp c21
      refine lv_aload_n hx hb dX12_judge_11 rfl (lv_at hl 0 rfl) ?_
      refine lv_iload_n hx hb dX12_judge_12 rfl (lv_at hl 2 rfl) ?_
      refine lv_iload_n hx hb dX12_judge_13 rfl (lv_at hl 3 rfl) ?_
      have hP : va_P G.1 pCl (mW G h0 a (upd (upd F 15 (nI fa)) 15 (nI fa)) B) _ := mW_to (F := F) (l1 := [(15, (nI fa))]) (l2 := [(15, (nI fa)), (15, (nI fa))]) (V := [(nI fa), (nI fa), (nI fa)]) rfl rfl rfl hP
      have hD : va_D A (mW G h0 a (upd (upd F 15 (nI fa)) 15 (nI fa)) B) := mW_D hD
      refine pc_V0 (G := G) (As := [.int (nI x), .int (nI i)]) (rest := []) hx hb hml hown hq hE hX pX0_al hP hD hS hA hl.1 (R_badAt l G h0 a (upd F 15 (nI fa)) B x i fa (by omega) (by omega) (by omega)) (gV pw_1597 pw_1598 pw_1599 pw_1523 pw_1593) hV_X12_badAt 0 9 rfl rfl rfl rfl (Nat.le_of_ble_eq_true rfl) dX12_judge_14 ⟨Nat.le_of_ble_eq_true rfl, Nat.le_of_ble_eq_true rfl⟩ ⟨Nat.le_of_ble_eq_true rfl, Nat.le_of_ble_eq_true rfl⟩ (fun v43 u41 H locs hw42 hP hD hS => ?_)
      obtain ⟨fa44, pl45⟩ := u41
      obtain ⟨hw42, h46, h47, h48, h49⟩ := hw42
      replace h46 : fa ≤ fa44 := h46
      replace h47 : fa44 ≤ fa + x := h47
      replace h48 : 0 < fa44 := h48
      replace h49 : If (0 < fa) (fa44 = fa) := h49
      obtain rfl : v43 = none := hw42
      have hP : va_P G.1 pCl (mW G h0 a (upd (upd F 15 (nI fa44)) 16 pl45) B) _ := mW_to (F := F) (l1 := [(15, (nI fa)), (15, (nI fa44)), (16, pl45)]) (l2 := [(15, (nI fa44)), (16, pl45)]) (V := [(nI fa44), (nI fa44), pl45, (nI fa44), pl45]) rfl rfl rfl hP
      have hD : va_D A (mW G h0 a (upd (upd F 15 (nI fa44)) 16 pl45) B) := mW_D hD
      refine W.widen (k := 0) (n := 0) (Nat.le_of_ble_eq_true rfl) (Nat.le_of_ble_eq_true rfl) ?_
      refine W.eq (g2 := F0 m 17 ls []) rfl ?_
      refine lv_aload_n hx hb dX12_judge_17 rfl (lv_at hl 0 rfl) ?_
      refine r_get (v := .int (nI fa44)) hx hb hown hq hE hP 15 350 tFX12_15 (by decide) pw_1594 rfl dX12_judge_18 ?_
      refine lv_if_ne (tgt := 28) hx hb dX12_judge_21 (by decide) (fun c50 => ?_) (fun c50 => ?_)
      · have n51 : ¬ (fa44 = 0) := fun h9 => c50 ((nI_eq (a := fa44) (b := 0) (by omega) (by omega)).mpr h9)
        refine lv_iconst (v := 0) hx hb dX12_judge_28 (by decide) ?_
        have hz52 : 0 ≤ 1 := (by omega)
        have hz53 : fa ≤ fa44 := (by omega)
        have hz54 : fa44 ≤ 15 := (by omega)
        have hz55 : fa44 + 15 * 0 ≤ 15 := (by omega)
        have hz56 : 1 ≤ 0 + fa44 := (by omega)
        have hz57 : 1 ≤ gd + fa44 := (by omega)
        have hz58 : fa44 ≤ fa + 15 * (1 - gd) := (by omega)
        have hP : va_P G.1 pCl (mW G h0 a (upd (upd F 15 (nI fa44)) 16 pl45) B) _ := hP
        have hD : va_D A (mW G h0 a (upd (upd F 15 (nI fa44)) 16 pl45) B) := mW_D hD
        exact W.zret (v := 0) hx hb hr rfl (fun t9 ht9 hW9 => ⟨⟨_, (0, fa44, pl45), rfl, ⟨rfl, hz52, hz53, hz54, hz55, hz56, hz57, hz58⟩, by rw [ht9]; exact hP, hD⟩, hS.F ht9⟩) hS.2.2 dX12_judge_29
      · have n59 : fa44 = 0 := (nI_eq (a := fa44) (b := 0) (by omega) (by omega)).mp c50
        refine lv_iconst (v := 1) hx hb dX12_judge_24 (by decide) ?_
        refine lv_goto (tgt := 29) hx hb dX12_judge_25 (by decide) ?_
        have hz60 : 1 ≤ 1 := (by omega)
        have hz61 : fa ≤ fa44 := (by omega)
        have hz62 : fa44 ≤ 15 := (by omega)
        have hz63 : fa44 + 15 * 1 ≤ 15 := (by omega)
        have hz64 : 1 ≤ 1 + fa44 := (by omega)
        have hz65 : 1 ≤ gd + fa44 := (by omega)
        have hz66 : fa44 ≤ fa + 15 * (1 - gd) := (by omega)
        have hP : va_P G.1 pCl (mW G h0 a (upd (upd F 15 (nI fa44)) 16 pl45) B) _ := hP
        have hD : va_D A (mW G h0 a (upd (upd F 15 (nI fa44)) 16 pl45) B) := mW_D hD
        exact W.zret (v := 1) hx hb hr rfl (fun t9 ht9 hW9 => ⟨⟨_, (1, fa44, pl45), rfl, ⟨rfl, hz60, hz61, hz62, hz63, hz64, hz65, hz66⟩, by rw [ht9]; exact hP, hD⟩, hS.F ht9⟩) hS.2.2 dX12_judge_29
theorem dX12_behind_0 : decode cX12_behind 0 = .ok (.aload_n 0, 1) := by decide +kernel
theorem dX12_behind_1 : decode cX12_behind 1 = .ok (.aload_n 0, 1) := by decide +kernel
theorem dX12_behind_2 : decode cX12_behind 2 = .ok (.getfield 544, 3) := by decide +kernel
theorem dX12_behind_5 : decode cX12_behind 5 = .ok (.putfield 551, 3) := by decide +kernel
theorem dX12_behind_8 : decode cX12_behind 8 = .ok (.aload_n 0, 1) := by decide +kernel
theorem dX12_behind_9 : decode cX12_behind 9 = .ok (.aload_n 0, 1) := by decide +kernel
theorem dX12_behind_10 : decode cX12_behind 10 = .ok (.getfield 544, 3) := by decide +kernel
theorem dX12_behind_13 : decode cX12_behind 13 = .ok (.putfield 554, 3) := by decide +kernel
theorem dX12_behind_16 : decode cX12_behind 16 = .ok (.iload_n 1, 1) := by decide +kernel
theorem dX12_behind_17 : decode cX12_behind 17 = .ok (.ireturn, 1) := by decide +kernel
set_option maxHeartbeats 2000000 in
set_option maxRecDepth 100000 in
/-- behind(t) -/
theorem R_behind (l : Launch) (G : pT) (h0 : Nat) (a : Nat → Nat) (F : Nat → Int32) (B : Nat → Nat → Int32) (tt : Int32) (dn : Int32) : PM l G pX0 yX12_behind cX12_behind 2 (some .int) ({ frames := 2, cells := 0, slots := 0, locals := 60 }) [.ref h0, .int tt] (mW G h0 a (upd F 77 dn) B) (fun (v : Option Value) (u : Unit) => v = some (.int tt)) (fun u => (mW G h0 a (upd (upd (upd F 77 dn) 78 dn) 79 dn) B)) := by
  intro sz
  refine Met.ofW (cc := cX12_behind) (maxL := 2) (ret := (some .int)) (by decide) rfl ?_
  intro p e s m args below meth c s₁ B9 hml hv
  obtain ⟨rfl, hsz, hP, hD0, hE, hX⟩ := hv
  have hx := B9.exec
  have hb := B9.bytes
  have hr := B9.returns
  have hts := atoms_spec (ws := Cond.code yX12_behind cX12_behind 2 (some .int) :: pw) B9.pre
  have hq : ∀ w ∈ pw, w.before _ s = true := fun w h => hts w (List.mem_cons_of_mem _ h)
  have hown : s.vm.findClass RX12 = some m.cls := findClass_of_methodNamed B9.named
  have hlocks := B9.notSynchronized
  subst hsz
  have hD := hD0.self (sz := s.heap.size)
  have hA : ∀ q : Nat, s.heap.size ≤ q → va_A (mW G h0 a (upd F 77 dn) B) s.heap.size q := fun q h => Or.inr h
  have hP : va_P G.1 pCl (mW G h0 a (upd F 77 dn) B) s.heap := hP
  generalize va_A (mW G h0 a (upd F 77 dn) B) s.heap.size = A at hD hE hA ⊢
  have hS : va_S A s.heap s.heap [] := va_S.rf
  have hl := lv_entry ([.ref h0, .int tt]) (n := 2) (Nat.le_of_ble_eq_true rfl)
  rw [lg_entry_eq]
  generalize (lg_sl ([.ref h0, .int tt]) ++ List.replicate (2 - (lg_sl ([.ref h0, .int tt])).length) Slot.unset).toArray = ls at hl ⊢
  have hl : lv_has ls 2 [(0, .ref h0), (1, .int tt)] := hl
  refine lv_aload_n hx hb dX12_behind_0 rfl (lv_at hl 0 rfl) ?_
  refine lv_aload_n hx hb dX12_behind_1 rfl (lv_at hl 0 rfl) ?_
  refine r_get (v := .int dn) hx hb hown hq hE hP 77 544 tFX12_77 (by decide) pw_1796 rfl dX12_behind_2 ?_
  refine r_put (v := dn) (ty := .int) hx hb hown hq hE hP hD hS 78 551 tFX12_78 (by decide) pw_1805 (by decide) rfl rfl (ms_78 a _ _) dX12_behind_5 (fun H locs hP hD hS => ?_)
  refine lv_aload_n hx hb dX12_behind_8 rfl (lv_at hl 0 rfl) ?_
  refine lv_aload_n hx hb dX12_behind_9 rfl (lv_at hl 0 rfl) ?_
  refine r_get (v := .int dn) hx hb hown hq hE hP 77 544 tFX12_77 (by decide) pw_1796 rfl dX12_behind_10 ?_
  refine r_put (v := dn) (ty := .int) hx hb hown hq hE hP hD hS 79 554 tFX12_79 (by decide) pw_1806 (by decide) rfl rfl (ms_79 a _ _) dX12_behind_13 (fun H locs hP hD hS => ?_)
  refine lv_iload_n hx hb dX12_behind_16 rfl (lv_at hl 1 rfl) ?_
  have hP : va_P G.1 pCl (mW G h0 a (upd (upd (upd F 77 dn) 78 dn) 79 dn) B) _ := hP
  have hD : va_D A (mW G h0 a (upd (upd (upd F 77 dn) 78 dn) 79 dn) B) := mW_D hD
  exact W.iret (v := tt) hx hb hr (fun t9 ht9 hW9 => ⟨⟨_, (), rfl, rfl, by rw [ht9]; exact hP, hD⟩, hS.F ht9⟩) hS.2.2 dX12_behind_17
theorem hV_X12_lookAt : yX12_lookAt.cls = RX12 ∧ yX12_lookAt.cls ≠ "java/lang/invoke/MethodHandle" ∧ yX12_lookAt.cls ≠ "java/lang/invoke/VarHandle" ∧ (parseMethodDescriptor yX12_lookAt.desc).map (fun d => d.parameters.length) = some 1 := by decide +kernel
theorem hV_X12_look : yX12_look.cls = RX12 ∧ yX12_look.cls ≠ "java/lang/invoke/MethodHandle" ∧ yX12_look.cls ≠ "java/lang/invoke/VarHandle" ∧ (parseMethodDescriptor yX12_look.desc).map (fun d => d.parameters.length) = some 1 := by decide +kernel
theorem hV_X12_wants : yX12_wants.cls = RX12 ∧ yX12_wants.cls ≠ "java/lang/invoke/MethodHandle" ∧ yX12_wants.cls ≠ "java/lang/invoke/VarHandle" ∧ (parseMethodDescriptor yX12_wants.desc).map (fun d => d.parameters.length) = some 2 := by decide +kernel
theorem hV_X12_behind : yX12_behind.cls = RX12 ∧ yX12_behind.cls ≠ "java/lang/invoke/MethodHandle" ∧ yX12_behind.cls ≠ "java/lang/invoke/VarHandle" ∧ (parseMethodDescriptor yX12_behind.desc).map (fun d => d.parameters.length) = some 1 := by decide +kernel
