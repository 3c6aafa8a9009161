/-! what the look leaves at statements: the surroundings of each node (how many variables, loops around it, the variables' types) follow from the tree alone -/
abbrev En : Type := Nat × Nat × (Nat → Int32)
/-- behind a statement -/
def aft (X : Nat → Nat → Int32) (n : Nat) (e : En) : En := if X 9 n = 30 then (e.1 + 1, e.2.1, upd e.2.2 e.1 (X 21 (chN X 1 n))) else e
/-- ahead of the i-th of a list -/
def envL (X : Nat → Nat → Int32) (v : Int32) (e : En) : Nat → En
  | 0 => e
  | i + 1 => aft X (itr (X 16) v i).toNatClampNeg (envL X v e i)
def lup (e : En) : En := (e.1, e.2.1 + 1, e.2.2)
def forE (X : Nat → Nat → Int32) (n : Nat) (e : En) : En := if X 12 n = -1 then e else aft X (chN X 1 n) e
/-- ahead of a child -/
def cenv (X : Nat → Nat → Int32) (n : Nat) (e : En) : Nat → Nat → Nat → En
  | 30, _, _ => aft X n e
  | 31, _, i => envL X (X 12 n) e i
  | 35, 2, _ => lup e
  | 36, 1, _ => e
  | 36, 4, _ => lup (forE X n e)
  | 36, _, _ => forE X n e
  | 44, _, _ => (e.1 + 1, e.2.1, upd e.2.2 e.1 (10 + X 18 n))
  | _, _, _ => e
/-- one step down -/
def stp (X : Nat → Nat → Int32) (n : Nat) (e : En) (c : Nat) (e' : En) : Prop := ∃ kk s i : Nat, X 9 n = nI kk ∧ kk ≤ 44 ∧ 1 ≤ s ∧ s ≤ 4 ∧ c < 20000 ∧ nch kk s = false ∧ ((cdOf kk s < 200 ∧ X (11 + s) n = nI c) ∨ (200 ≤ cdOf kk s ∧ itr (X 16) (X (11 + s) n) i = nI c)) ∧ e' = cenv X n e kk s i
def EvP (X : Nat → Nat → Int32) : Nat → Nat → En → Nat → En → Prop
  | 0, n, e, j, e2 => n = j ∧ e = e2
  | h + 1, n, e, j, e2 => (n = j ∧ e = e2) ∨ ∃ c : Nat, ∃ e' : En, stp X n e c e' ∧ EvP X h c e' j e2
/-- from n down to j -/
def Ev (X : Nat → Nat → Int32) (n : Nat) (e : En) (j : Nat) (e2 : En) : Prop := ∃ h : Nat, EvP X h n e j e2
/-- one statement, by its kind -/
def LSk (X : Nat → Nat → Int32) (dc : Nat) (ty mn nc : Nat → Int32) (rs j : Nat) (e : En) : Nat → Prop
  | 30 => mn j = nI e.1 ∧ e.1 < 30 ∧ ∀ c : Nat, c < 20000 → X 13 j = nI c → Fit (X 31) (ty c) (X 21 (chN X 1 j))
  | 31 => mn j = nI e.1
  | 32 => Fit (X 31) (ty (chN X 2 j)) (ty (chN X 1 j))
  | 33 => True
  | 34 => ty (chN X 1 j) = 2
  | 35 => mn j = nI e.1 ∧ ty (chN X 1 j) = 2
  | 36 => mn j = nI e.1 ∧ ∀ c : Nat, c < 20000 → X 13 j = nI c → ty c = 2
  | 37 => (X 12 j = -1 → rs = 0) ∧ ∀ c : Nat, c < 20000 → X 12 j = nI c → Fit (X 31) (ty c) (nI rs)
  | 38 => 1 ≤ e.2.1
  | 39 => 1 ≤ e.2.1
  | 40 => ∃ d : Nat, ty (chN X 1 j) = nI (10 + d) ∧ d < dc ∧ X 26 d = 0
  | 41 => mn j = nI e.1
  | 42 => ty (chN X 1 j) = 1
  | 43 => True
  | 44 => mn j = nI e.1 ∧ e.1 < 30 ∧ nc j = X 18 j
  | _ => False
/-- one node -/
def LTX (X : Nat → Nat → Int32) (dc fd md nd : Nat) (ty mn nc : Nat → Int32) (k rs j : Nat) (e : En) : Prop := ∃ kk : Nat, X 9 j = nI kk ∧ kk ≤ 44 ∧ ((kk ≤ 23 ∧ LTk X dc fd md nd ty mn e.2.2 e.1 k j kk (ty j)) ∨ (24 ≤ kk ∧ LSk X dc ty mn nc rs j e kk))
/-- all of a statement -/
def TyS (X : Nat → Nat → Int32) (dc fd md nd : Nat) (ty mn nc : Nat → Int32) (k rs n : Nat) (e : En) : Prop := ∀ j : Nat, ∀ e' : En, Ev X n e j e' → LTX X dc fd md nd ty mn nc k rs j e'
section SK
variable {K : Nat → Int32} {T wr nd n k s dc fd md sc j kk rs c d : Nat} {X : Nat → Nat → Int32} {gh : Nat → Nat → Nat} {ty ty' mn mn' vt vt' nc nc' : Nat → Int32} {t v : Int32} {e e' e2 : En}
theorem stp.pch (h : stp X n e c e') : pch X n c ∧ c < 20000 := by
  obtain ⟨kk, s, i, h1, h2, h3, h4, h5, h6, h7, _⟩ := h
  have q : cdOf kk s ≠ 0 ∧ cdOf kk s ≠ 50 ∧ cdOf kk s ≠ 51 ∧ cdOf kk s ≠ 60 := by
    unfold nch at h6
    simp only [Bool.or_eq_false_iff, beq_eq_false_iff_ne] at h6
    exact ⟨h6.1.1.1, h6.1.1.2, h6.1.2, h6.2⟩
  exact ⟨⟨kk, s, h1, h2, h3, h4, q, h7.imp id (fun z => ⟨z.1, i, z.2⟩)⟩, h5⟩
theorem Ev.rfl : Ev X n e n e := ⟨0, Eq.refl _, Eq.refl _⟩
theorem Ev.step (a : stp X n e c e') (h : Ev X c e' j e2) : Ev X n e j e2 := by
  obtain ⟨m, h⟩ := h
  exact ⟨m + 1, Or.inr ⟨c, e', a, h⟩⟩
theorem Ev.cases (h : Ev X n e j e2) : (n = j ∧ e = e2) ∨ ∃ c : Nat, ∃ e' : En, stp X n e c e' ∧ Ev X c e' j e2 := by
  obtain ⟨m, h⟩ := h
  cases m with
  | zero => exact Or.inl h
  | succ m => exact h.imp id (fun ⟨c, e', a, b⟩ => ⟨c, e', a, m, b⟩)
theorem EvP.sub : ∀ m n : Nat, ∀ e : En, ∀ j : Nat, ∀ e' : En, EvP X m n e j e' → sub X n j := by
  intro m
  induction m with
  | zero => intro n e j e' h; rw [h.1]; exact sub.rfl
  | succ m ih =>
    intro n e j e' h
    rcases h with h | ⟨c, e1, a, b⟩
    · rw [h.1]; exact sub.rfl
    · exact sub.of a.pch.2 a.pch.1 (ih c e1 j e' b)
theorem Ev.sub (h : Ev X n e j e') : sub X n j := by
  obtain ⟨m, h⟩ := h
  exact EvP.sub m n e j e' h
theorem EvP.snoc : ∀ m n : Nat, ∀ e : En, ∀ j : Nat, ∀ e' : En, EvP X m n e j e' → ∀ c : Nat, ∀ e2 : En, stp X j e' c e2 → Ev X n e c e2 := by
  intro m
  induction m with
  | zero => intro n e j e' h c e2 g; rw [h.1, h.2]; exact Ev.step g Ev.rfl
  | succ m ih =>
    intro n e j e' h c e2 g
    rcases h with h | ⟨d, e1, a, b⟩
    · rw [h.1, h.2]; exact Ev.step g Ev.rfl
    · exact Ev.step a (ih d e1 j e' b c e2 g)
theorem Ev.snoc (h : Ev X n e j e') (g : stp X j e' c e2) : Ev X n e c e2 := by
  obtain ⟨m, h⟩ := h
  exact EvP.snoc m n e j e' h c e2 g
/-- a phrase: the surroundings are the same all over -/
theorem expr_kid (hF : Fs2 K T wr X gh nd) (hnd : nd ≤ 12000) (hn : n < nd) (hk : kcl 1 (X 9 n) = true) (h : stp X n e c e') : kcl 1 (X 9 c) = true ∧ e' = e ∧ c < nd := by
  obtain ⟨p1, p2⟩ := h.pch
  obtain ⟨q1, q2, q3⟩ := pch_par hF hnd hn p2 p1
  obtain ⟨kk, s, i, h1, h2, h3, h4, h5, h6, h7, h8⟩ := h
  have k23 := kcl1 hk h1 h2
  obtain ⟨k2, e2', _, k44, hs⟩ := hF.knd hn
  have ek : k2 = kk := (nI_eq (by omega) (by omega)).mp (e2'.symm.trans h1)
  subst ek
  have dec : ∀ q : Nat, q ≤ 23 → ∀ s : Nat, s ≤ 4 → 1 ≤ s → nch q s = false → cdOf q s = 101 ∨ (cdOf q s = 201 ∧ s = 2) := by decide
  have ee : e' = e := by
    rw [h8]
    unfold cenv
    split <;> first | rfl | omega
  rcases dec k2 k23.2 s h4 h3 h6 with w | ⟨w, w2⟩
  · obtain ⟨c', z1, z2, z3, z4, z5, z6, z7⟩ := hF.kid hn h1 h2 h3 h4 (by omega) hnd
    rcases h7 with h7 | h7
    · have : c = c' := (nI_eq (by omega) (by omega)).mp (h7.2.symm.trans z1)
      rw [this]; rw [w] at z5; exact ⟨z5, ee, z2⟩
    · omega
  · subst w2
    rcases h7 with h7 | h7
    · omega
    · rcases list_par hF hnd hn h1 h2 (by omega) p2 h7.2 with l | l
      · have := l.2.2.2.2; rw [w] at this; exact ⟨this, ee, l.1⟩
      · exact absurd w l
theorem EvP.expr (hF : Fs2 K T wr X gh nd) (hnd : nd ≤ 12000) : ∀ m n : Nat, ∀ e : En, ∀ j : Nat, ∀ e' : En, EvP X m n e j e' → n < nd → kcl 1 (X 9 n) = true → e' = e := by
  intro m
  induction m with
  | zero => intro n e j e' h _ _; exact h.2.symm
  | succ m ih =>
    intro n e j e' h hn hk
    rcases h with h | ⟨c, e1, a, b⟩
    · exact h.2.symm
    · obtain ⟨x1, x2, x3⟩ := expr_kid hF hnd hn hk a
      exact (ih c e1 j e' b x3 x1).trans x2
theorem Ev.expr (hF : Fs2 K T wr X gh nd) (hnd : nd ≤ 12000) (h : Ev X n e j e') : n < nd → kcl 1 (X 9 n) = true → e' = e := by
  obtain ⟨m, h⟩ := h
  exact EvP.expr hF hnd m n e j e' h
theorem LTk.env (hv : ∀ i : Nat, i < sc → vt i = vt' i) (h : LTk X dc fd md nd ty mn vt sc k j kk t) : LTk X dc fd md nd ty mn vt' sc k j kk t := by
  unfold LTk at h ⊢
  split at h
  all_goals first
    | exact h
    | exact h.imp (fun ⟨v, a, b, c⟩ => ⟨v, a, b, c.trans (hv v a)⟩) id
theorem TyS.ofTyp (hF : Fs2 K T wr X gh nd) (hnd : nd ≤ 12000) (hn : n < nd) (hk : kcl 1 (X 9 n) = true) (h : Typ X dc fd md nd ty mn vt e.1 k n) (hv : ∀ i : Nat, i < e.1 → vt i = e.2.2 i) : TyS X dc fd md nd ty mn nc k rs n e := fun j e' g => by
  have ee := g.expr hF hnd hn hk
  obtain ⟨kk, h1, h2, h3⟩ := h j g.sub
  subst ee
  refine ⟨kk, h1, h2, Or.inl ⟨?_, h3.env hv⟩⟩
  by_cases q : kk ≤ 23
  · exact q
  · unfold LTk at h3
    split at h3 <;> first | omega | exact h3.elim
theorem LSk.same (hF : Fs2 K T wr X gh nd) (hnd : nd ≤ 12000) (hj : j < nd) (e1 : X 9 j = nI kk) (hm : mn' j = mn j) (hc : nc' j = nc j) (ht : ∀ i : Nat, i < nd → pch X j i → ty' i = ty i) (h : LSk X dc ty mn nc rs j e kk) : LSk X dc ty' mn' nc' rs j e kk := by
  have kd : ∀ s : Nat, 1 ≤ s → s ≤ 4 → kk ≤ 44 → 100 ≤ cdOf kk s ∧ cdOf kk s < 200 → ty' (chN X s j) = ty (chN X s j) := fun s s1 s4 k4 hc => by
    obtain ⟨c, _, z2, z3, _, _, z6, _⟩ := hF.kid hj e1 k4 s1 s4 hc hnd
    rw [z6]; exact ht c z2 z3
  have kl : ∀ s c : Nat, 1 ≤ s → s ≤ 4 → kk ≤ 44 → (cdOf kk s = 1) → c < 20000 → X (11 + s) j = nI c → ty' c = ty c := fun s c s1 s4 k4 w hc q => by
    have p : pch X j c := ⟨kk, s, e1, k4, s1, s4, ⟨by omega, by omega, by omega, by omega⟩, Or.inl ⟨by omega, q⟩⟩
    exact ht c (pch_par hF hnd hj hc p).1 p
  unfold LSk at h ⊢
  split at h
  all_goals first
    | exact h
    | exact h.elim
    | (rw [hm]; exact h)
    | (rw [hm, hc]; exact h)
    | (refine ⟨by rw [hm]; exact h.1, h.2.1, fun c hc q => ?_⟩; rw [kl 2 c (by omega) (by omega) (by omega) (by decide) hc q]; exact h.2.2 c hc q)
    | (refine ⟨by rw [hm]; exact h.1, fun c hc q => ?_⟩; rw [kl 2 c (by omega) (by omega) (by omega) (by decide) hc q]; exact h.2 c hc q)
    | (refine ⟨h.1, fun c hc q => ?_⟩; rw [kl 1 c (by omega) (by omega) (by omega) (by decide) hc q]; exact h.2 c hc q)
    | (rw [kd 1 (by omega) (by omega) (by omega) (by decide), kd 2 (by omega) (by omega) (by omega) (by decide)]; exact h)
    | (rw [kd 1 (by omega) (by omega) (by omega) (by decide)]; exact h)
    | (rw [kd 1 (by omega) (by omega) (by omega) (by decide), hm]; exact h)
    | (simp only [kd 1 (by omega) (by omega) (by omega) (by decide)]; exact h)
/-- outside of n nothing has changed -/
def ChS (X : Nat → Nat → Int32) (nd n : Nat) (ty ty' mn mn' nc nc' : Nat → Int32) : Prop := ∀ i : Nat, i < nd → ¬ sub X n i → ty' i = ty i ∧ mn' i = mn i ∧ nc' i = nc i
variable {ty2 mn2 nc2 : Nat → Int32}
theorem ChS.rfl : ChS X nd n ty ty mn mn nc nc := fun _ _ _ => ⟨Eq.refl _, Eq.refl _, Eq.refl _⟩
theorem ChS.trans (h : ChS X nd n ty ty' mn mn' nc nc') (g : ChS X nd n ty' ty2 mn' mn2 nc' nc2) : ChS X nd n ty ty2 mn mn2 nc nc2 := fun i hi q => ⟨(g i hi q).1.trans (h i hi q).1, (g i hi q).2.1.trans (h i hi q).2.1, (g i hi q).2.2.trans (h i hi q).2.2⟩
theorem ChS.kid (h : ChS X nd c ty ty' mn mn' nc nc') (hc : c < 20000) (g : pch X n c) : ChS X nd n ty ty' mn mn' nc nc' := fun i hi q => h i hi (fun z => q (sub.of hc g z))
theorem ChS.ofE (h : ChE X nd n ty ty' mn mn') : ChS X nd n ty ty' mn mn' nc nc := fun i hi q => ⟨(h i hi q).1, (h i hi q).2, Eq.refl _⟩
theorem ChS.setM (hc : sub X n c) : ChS X nd n ty ty mn (upd mn c v) nc nc := fun i _ q => ⟨Eq.refl _, if_neg (fun z => q (by rw [z]; exact hc)), Eq.refl _⟩
theorem ChS.setT (hc : sub X n c) : ChS X nd n ty (upd ty c v) mn mn nc nc := fun i _ q => ⟨if_neg (fun z => q (by rw [z]; exact hc)), Eq.refl _, Eq.refl _⟩
theorem ChS.setC (hc : sub X n c) : ChS X nd n ty ty mn mn nc (upd nc c v) := fun i _ q => ⟨Eq.refl _, Eq.refl _, if_neg (fun z => q (by rw [z]; exact hc))⟩
theorem TyS.frame (hF : Fs2 K T wr X gh nd) (hnd : nd ≤ 12000) (hn : n < nd) (h : TyS X dc fd md nd ty mn nc k rs n e) (g : ∀ i : Nat, i < nd → sub X n i → ty' i = ty i ∧ mn' i = mn i ∧ nc' i = nc i) : TyS X dc fd md nd ty' mn' nc' k rs n e := fun j e' q => by
  obtain ⟨j1, _⟩ := sub.lt2 hF hnd hn q.sub
  obtain ⟨kk, h1, h2, h3⟩ := h j e' q
  obtain ⟨g1, g2, g3⟩ := g j j1 q.sub
  have gk : ∀ i : Nat, i < nd → pch X j i → ty' i = ty i := fun i hi w => by
    obtain ⟨m, z⟩ := q.sub
    exact (g i hi (sub.snoc m n j i (by omega) z w)).1
  refine ⟨kk, h1, h2, h3.imp (fun z => ⟨z.1, by rw [g1]; exact z.2.same hF hnd j1 h1 g2 gk⟩) (fun z => ⟨z.1, z.2.same hF hnd j1 h1 g2 g3 gk⟩)⟩
/-- a piece beside another is as it was -/
theorem TyS.beside (hF : Fs2 K T wr X gh nd) (hnd : nd ≤ 12000) (hn : n < nd) (h : TyS X dc fd md nd ty mn nc k rs c e) (hc : c < nd) (hd : d < nd) (pc : pch X n c) (pd : pch X n d) (hne : c ≠ d) (g : ChS X nd d ty ty' mn mn' nc nc') : TyS X dc fd md nd ty' mn' nc' k rs c e := h.frame hF hnd hc (fun i hi q => g i hi (fun z => hne (sub.apart hF hnd hn (by omega) (by omega) pc pd q z)))
theorem not_up (hF : Fs2 K T wr X gh nd) (hnd : nd ≤ 12000) (hn : n < nd) (hc : c < nd) (pc : pch X n c) : ¬ sub X c n := fun z => by
  have h1 := (pch_par hF hnd hn (by omega) pc).2.2
  obtain ⟨_, h2⟩ := sub.lt2 hF hnd hc z
  by_cases q : n = c
  · rw [q] at h1; omega
  · have := h2 q; omega
/-- n's own meaning -/
theorem TyS.mean (hF : Fs2 K T wr X gh nd) (hnd : nd ≤ 12000) (hn : n < nd) (h : TyS X dc fd md nd ty mn nc k rs c e) (hc : c < nd) (pc : pch X n c) : TyS X dc fd md nd ty (upd mn n v) nc k rs c e := h.frame hF hnd hc (fun i hi q => ⟨Eq.refl _, if_neg (fun z => not_up hF hnd hn hc pc (by rw [← z]; exact q)), Eq.refl _⟩)
theorem ChS.at (hF : Fs2 K T wr X gh nd) (hnd : nd ≤ 12000) (hn : n < nd) (hc : c < nd) (hd : d < nd) (pc : pch X n c) (pd : pch X n d) (hne : c ≠ d) (g : ChS X nd d ty ty' mn mn' nc nc') : ty' c = ty c := (g c hc (fun z => hne (sub.apart hF hnd hn (by omega) (by omega) pc pd sub.rfl z))).1
theorem ChS.own (hF : Fs2 K T wr X gh nd) (hnd : nd ≤ 12000) (hn : n < nd) (hc : c < nd) (pc : pch X n c) (g : ChS X nd c ty ty' mn mn' nc nc') : mn' n = mn n ∧ nc' n = nc n := (g n hn (not_up hF hnd hn hc pc)).2
theorem TyS.of (h : ∀ c : Nat, ∀ e' : En, stp X n e c e' → TyS X dc fd md nd ty mn nc k rs c e') (g : LTX X dc fd md nd ty mn nc k rs n e) : TyS X dc fd md nd ty mn nc k rs n e := fun j e' q => by
  rcases q.cases with ⟨q1, q2⟩ | ⟨c, e1, a, b⟩
  · rw [← q1, ← q2]; exact g
  · exact h c e1 a j e' b
/-- what may stand in a place -/
def slP (X : Nat → Nat → Int32) (n : Nat) (e : En) (P : Nat → En → Prop) (kk s : Nat) : Prop := nch kk s = true ∨ (cdOf kk s < 200 ∧ ∀ c : Nat, c < 20000 → X (11 + s) n = nI c → P c (cenv X n e kk s 0)) ∨ (200 ≤ cdOf kk s ∧ ∀ i c : Nat, c < 20000 → itr (X 16) (X (11 + s) n) i = nI c → P c (cenv X n e kk s i))
theorem cenv_0 {i : Nat} (h : cdOf kk s < 200) (h2 : nch kk s = false) (k4 : kk ≤ 44) (s4 : s ≤ 4) (s1 : 1 ≤ s) : cenv X n e kk s i = cenv X n e kk s 0 := by
  by_cases q : kk = 31
  · subst q
    have dec : ∀ s : Nat, s ≤ 4 → 1 ≤ s → cdOf 31 s < 200 → nch 31 s = true := by decide
    rw [dec s s4 s1 h] at h2; exact absurd h2 (by decide)
  · unfold cenv
    split <;> first | rfl | (exact absurd rfl q)
theorem steps {P : Nat → En → Prop} (e1 : X 9 n = nI kk) (k4 : kk ≤ 44) (h1 : slP X n e P kk 1) (h2 : slP X n e P kk 2) (h3 : slP X n e P kk 3) (h4 : slP X n e P kk 4) : ∀ c : Nat, ∀ e' : En, stp X n e c e' → P c e' := fun c e' h => by
  obtain ⟨k2, s, i, g1, g2, g3, g4, g5, g6, g7, g8⟩ := h
  have : k2 = kk := (nI_eq (by omega) (by omega)).mp (g1.symm.trans e1)
  subst this
  have key : slP X n e P k2 s := by
    rcases (show s = 1 ∨ s = 2 ∨ s = 3 ∨ s = 4 by omega) with z | z | z | z <;> subst z <;> assumption
  rw [g8]
  rcases key with q | ⟨q, w⟩ | ⟨q, w⟩
  · rw [q] at g6; exact absurd g6 (by decide)
  · rcases g7 with g7 | g7
    · rw [cenv_0 q g6 g2 g4 g3]; exact w c g5 g7.2
    · omega
  · rcases g7 with g7 | g7
    · omega
    · exact w i c g5 g7.2
theorem slP.no {P : Nat → En → Prop} (h : nch kk s = true) : slP X n e P kk s := Or.inl h
theorem slP.one {P : Nat → En → Prop} (h : cdOf kk s < 200) (hc : c < 20000) (g : X (11 + s) n = nI c) (p : P c (cenv X n e kk s 0)) : slP X n e P kk s := Or.inr (Or.inl ⟨h, fun d hd w => by
  have : c = d := (nI_eq (by omega) (by omega)).mp (g.symm.trans w)
  rw [← this]; exact p⟩)
theorem slP.none {P : Nat → En → Prop} (h : cdOf kk s < 200) (g : X (11 + s) n = -1) : slP X n e P kk s := Or.inr (Or.inl ⟨h, fun d hd w => absurd (g.symm.trans w).symm (nI_m1 (by omega))⟩)
theorem slP.list {P : Nat → En → Prop} (h : 200 ≤ cdOf kk s) (p : ∀ i c : Nat, c < 20000 → itr (X 16) (X (11 + s) n) i = nI c → P c (cenv X n e kk s i)) : slP X n e P kk s := Or.inr (Or.inr ⟨h, p⟩)
theorem LTX.st (h : X 9 j = nI kk) (h1 : 24 ≤ kk) (h2 : kk ≤ 44) (g : LSk X dc ty mn nc rs j e kk) : LTX X dc fd md nd ty mn nc k rs j e := ⟨kk, h, h2, Or.inr ⟨h1, g⟩⟩
/-- a catch not yet looked at names its class still -/
def mnC (X : Nat → Nat → Int32) (nd n : Nat) (mn : Nat → Int32) : Prop := ∀ i : Nat, i < nd → sub X n i → X 9 i = 44 → mn i = X 18 i
theorem mnC.kid (h : mnC X nd n mn) (hc : c < 20000) (pc : pch X n c) : mnC X nd c mn := fun i hi q w => h i hi (sub.of hc pc q) w
theorem mnC.beside (hF : Fs2 K T wr X gh nd) (hnd : nd ≤ 12000) (hn : n < nd) (h : mnC X nd c mn) (hc : c < nd) (hd : d < nd) (pc : pch X n c) (pd : pch X n d) (hne : c ≠ d) (g : ChS X nd d ty ty' mn mn' nc nc') : mnC X nd c mn' := fun i hi q w => (g i hi (fun z => hne (sub.apart hF hnd hn (by omega) (by omega) pc pd q z))).2.1.trans (h i hi q w)
theorem mnC.own (hF : Fs2 K T wr X gh nd) (hnd : nd ≤ 12000) (hn : n < nd) (h : mnC X nd c mn) (hc : c < nd) (pc : pch X n c) : mnC X nd c (upd mn n v) := fun i hi q w => by
  rw [show upd mn n v i = mn i from if_neg (fun z => not_up hF hnd hn hc pc (by rw [← z]; exact q))]; exact h i hi q w
end SK
section SK2
variable {K : Nat → Int32} {T wr nd n k s dc fd md sc j kk rs c d il i : Nat} {X : Nat → Nat → Int32} {gh : Nat → Nat → Nat} {ty ty' mn mn' vt vt' nc nc' ev : Nat → Int32} {t v : Int32} {e e' e2 : En}
theorem aft_no (h : ¬ X 9 n = 30) : aft X n e = e := if_neg h
theorem aft_y (h : X 9 n = 30) : aft X n e = (e.1 + 1, e.2.1, upd e.2.2 e.1 (X 21 (chN X 1 n))) := if_pos h
theorem aft_il : (aft X n e).2.1 = e.2.1 := by unfold aft; split <;> rfl
theorem envL_il : ∀ i : Nat, (envL X v e i).2.1 = e.2.1 := by
  intro i
  induction i with
  | zero => rfl
  | succ i ih => show (aft X _ _).2.1 = _; rw [aft_il]; exact ih
theorem envL_s (h : itr (X 16) v i = nI c) (hc : c < 2 ^ 31) : envL X v e (i + 1) = aft X c (envL X v e i) := by
  show aft X _ _ = _; rw [h, nI_cl hc]
theorem En.mk3 (h1 : sc = e.1) (h2 : il = e.2.1) : ((sc, il, e.2.2) : En) = e := by subst h1; subst h2; rfl
theorem kcl_no30 {w : Int32} {q : Nat} (hq : q = 3 ∨ q = 8 ∨ q = 10 ∨ q = 12 ∨ q = 13 ∨ q = 15 ∨ q = 1) (h : kcl q w = true) : ¬ w = 30 := fun e => by
  subst e
  rcases hq with z | z | z | z | z | z | z <;> subst z <;> exact absurd h (by decide)
/-- a list's members, also where it stands in another place -/
theorem list_par2 (hF : Fs2 K T wr X gh nd) (hnd : nd ≤ 12000) (hn : n < nd) (e : X 9 n = nI kk) (k4 : kk ≤ 44) (s1 : 1 ≤ s) (s4 : s ≤ 4) (hc : 200 ≤ cdOf kk s) {z : Nat} (hz : c < 20000) (w : itr (X 16) (X (11 + s) n) z = nI c) : c < nd ∧ gh 0 c = 8 * n + 5 ∧ gh 1 c < gh 1 n ∧ pch X n c := by
  have pc := pch_list e k4 s1 s4 hc w
  obtain ⟨p1, p2, p3⟩ := pch_par hF hnd hn hz pc
  obtain ⟨k2, e2, _, k44, hs⟩ := hF.knd hn
  have ek : k2 = kk := (nI_eq (by omega) (by omega)).mp (e2.symm.trans e)
  subst ek
  rcases (hs s s1 s4).2.2.2 (by omega) (by omega) (by omega) (by omega) with ⟨y, _⟩ | ⟨d, y1, _, y2, y3, y4, y5, _⟩
  · rw [itr_m1 (k := 0) y z (Nat.zero_le _)] at w; exact absurd w.symm (nI_m1 (by omega))
  · rw [if_pos hc] at y3
    have := (itr_par hF hnd y1 y2 z c hz w).2
    exact ⟨p1, this.trans y3, p3, pc⟩
theorem list_lcl (hF : Fs2 K T wr X gh nd) (hnd : nd ≤ 12000) (hn : n < nd) (e : X 9 n = nI kk) (k4 : kk ≤ 44) (s1 : 1 ≤ s) (s4 : s ≤ 4) (hc : 200 ≤ cdOf kk s) {z : Nat} (hz : c < 20000) (w : itr (X 16) (X (11 + s) n) z = nI c) : ∃ d : Nat, d < nd ∧ kcl (cdOf kk s % 100) (X 9 d) = true ∧ lcl (X 9 c) = lcl (X 9 d) := by
  obtain ⟨k2, e2, _, k44, hs⟩ := hF.knd hn
  have ek : k2 = kk := (nI_eq (by omega) (by omega)).mp (e2.symm.trans e)
  subst ek
  rcases (hs s s1 s4).2.2.2 (by omega) (by omega) (by omega) (by omega) with ⟨y, _⟩ | ⟨d, y1, _, y2, y3, y4, y5, _⟩
  · rw [itr_m1 (k := 0) y z (Nat.zero_le _)] at w; exact absurd w.symm (nI_m1 (by omega))
  · refine ⟨d, y2, y5, ?_⟩
    have key : ∀ i c : Nat, c < 20000 → itr (X 16) (X (11 + s) n) i = nI c → lcl (X 9 c) = lcl (X 9 d) := by
      intro i
      induction i with
      | zero => intro c hc e; have : d = c := (nI_eq (by omega) (by omega)).mp (y1.symm.trans e); rw [this]
      | succ i ih =>
        intro c hc e
        rcases itr_ln hF.lnr (Or.inr ⟨d, y1, y2⟩) (by omega) i with u | ⟨q, u1, _, u2⟩
        · rw [itr_m1 u (i + 1) (by omega)] at e; exact absurd e.symm (nI_m1 (by omega))
        · rw [itr_s u1 (by omega)] at e
          rcases (hF q u2).2.2.1 with u | ⟨j, w1, w2, w3, w4, w5, w6, w7⟩
          · rw [u] at e; exact absurd e.symm (nI_m1 (by omega))
          · have : j = c := (nI_eq (by omega) (by omega)).mp (w1.symm.trans e)
            rw [← this, w7]; exact ih q (by omega) u1
    exact key z c hz w
/-- a member of a block is a statement -/
theorem lst_st (hF : Fs2 K T wr X gh nd) (hnd : nd ≤ 12000) (hn : n < nd) (e : X 9 n = nI 31) {z : Nat} (hz : c < 20000) (w : itr (X 16) (X 12 n) z = nI c) : c < nd ∧ gh 0 c = 8 * n + 5 ∧ gh 1 c < gh 1 n ∧ pch X n c ∧ kcl 7 (X 9 c) = true := by
  obtain ⟨a1, a2, a3, a4⟩ := list_par2 hF hnd hn e (by omega) (s := 1) (by omega) (by omega) (by decide) hz w
  obtain ⟨d, d1, d2, d3⟩ := list_lcl hF hnd hn e (by omega) (s := 1) (by omega) (by omega) (by decide) hz w
  refine ⟨a1, a2, a3, a4, ?_⟩
  obtain ⟨k1, x1, x2, x3, _⟩ := hF.knd a1
  obtain ⟨k2, y1, y2, y3, _⟩ := hF.knd d1
  rw [y1] at d2 d3
  rw [x1] at d3 ⊢
  have dec : ∀ q : Nat, q ≤ 44 → kcl (cdOf 31 1 % 100) (nI q) = true → lcl (nI q) = 2 := by decide
  have dec2 : ∀ q : Nat, q ≤ 44 → 24 ≤ q → lcl (nI q) = 2 → q < 44 := by decide
  have dec3 : ∀ q : Nat, q ≤ 44 → lcl (nI q) = 2 → 24 ≤ q := by decide
  have l := d3.trans (dec k2 y3 d2)
  have k30 : 30 ≤ k1 := by
    have q1 := dec3 k1 x3 l
    have q3 := hF.kok a1 x1 x3
    omega
  have q2 := dec2 k1 x3 (dec3 k1 x3 l) l
  have dec4 : ∀ q : Nat, q ≤ 44 → 30 ≤ q → q < 44 → kcl 7 (nI q) = true := by decide
  exact dec4 k1 x3 k30 q2
end SK2
section SK3
variable {K : Nat → Int32} {T wr nd n k s dc fd md sc j kk rs c d il i sd : Nat} {X : Nat → Nat → Int32} {gh : Nat → Nat → Nat} {ty ty' mn mn' vt vt' nc nc' ev : Nat → Int32} {t v : Int32} {e e' e2 : En}
/-- a place that may be empty -/
theorem Fs2.kidO (hF : Fs2 K T wr X gh nd) (hj : j < nd) (e : X 9 j = nI kk) (k4 : kk ≤ 44) (s1 : 1 ≤ s) (s4 : s ≤ 4) (hc : cdOf kk s < 100 ∧ nch kk s = false) (hnd : nd ≤ 12000) : X (11 + s) j = -1 ∨ ∃ c : Nat, X (11 + s) j = nI c ∧ c < nd ∧ pch X j c ∧ gh 1 c < gh 1 j ∧ kcl (cdOf kk s % 100) (X 9 c) = true ∧ chN X s j = c ∧ gh 0 c = 8 * j + s := by
  obtain ⟨k2, e2, _, k44, hs⟩ := hF.knd hj
  have ek : k2 = kk := (nI_eq (by omega) (by omega)).mp (e2.symm.trans e)
  subst ek
  have q : cdOf k2 s ≠ 0 ∧ cdOf k2 s ≠ 50 ∧ cdOf k2 s ≠ 51 ∧ cdOf k2 s ≠ 60 := by
    have h6 := hc.2
    unfold nch at h6
    simp only [Bool.or_eq_false_iff, beq_eq_false_iff_ne] at h6
    exact ⟨h6.1.1.1, h6.1.1.2, h6.1.2, h6.2⟩
  rcases (hs s s1 s4).2.2.2 q.1 q.2.1 q.2.2.1 q.2.2.2 with ⟨z, _⟩ | ⟨c, z1, _, z2, z3, z4, z5, _⟩
  · exact Or.inl z
  · rw [if_neg (by omega)] at z3
    exact Or.inr ⟨c, z1, z2, ⟨k2, s, e, k4, s1, s4, q, Or.inl ⟨by omega, z1⟩⟩, z4, z5, by unfold chN; rw [z1, nI_cl (by omega)], z3⟩
theorem slP.map {P P' : Nat → En → Prop} (h : slP X n e P kk s) (f : ∀ c : Nat, ∀ e' : En, c < 20000 → ((cdOf kk s < 200 ∧ X (11 + s) n = nI c) ∨ (200 ≤ cdOf kk s ∧ ∃ i : Nat, itr (X 16) (X (11 + s) n) i = nI c)) → P c e' → P' c e') : slP X n e P' kk s := by
  rcases h with h | ⟨h, g⟩ | ⟨h, g⟩
  · exact Or.inl h
  · exact Or.inr (Or.inl ⟨h, fun c hc w => f c _ hc (Or.inl ⟨h, w⟩) (g c hc w)⟩)
  · exact Or.inr (Or.inr ⟨h, fun i c hc w => f c _ hc (Or.inr ⟨h, i, w⟩) (g i c hc w)⟩)
theorem slP.p0 (hF : Fs2 K T wr X gh nd) (hnd : nd ≤ 12000) (hn : n < nd) (e1 : X 9 n = nI kk) (k4 : kk ≤ 44) (s1 : 1 ≤ s) (s4 : s ≤ 4) (hc : c < 20000) (hq : nch kk s = false) (w : (cdOf kk s < 200 ∧ X (11 + s) n = nI c) ∨ (200 ≤ cdOf kk s ∧ ∃ i : Nat, itr (X 16) (X (11 + s) n) i = nI c)) : c < nd ∧ pch X n c ∧ gh 0 c = 8 * n + (if 200 ≤ cdOf kk s then 5 else s) := by
  have q : cdOf kk s ≠ 0 ∧ cdOf kk s ≠ 50 ∧ cdOf kk s ≠ 51 ∧ cdOf kk s ≠ 60 := by
    have h6 := hq
    unfold nch at h6
    simp only [Bool.or_eq_false_iff, beq_eq_false_iff_ne] at h6
    exact ⟨h6.1.1.1, h6.1.1.2, h6.1.2, h6.2⟩
  have p : pch X n c := ⟨kk, s, e1, k4, s1, s4, q, w⟩
  obtain ⟨p1, p2, p3⟩ := pch_par hF hnd hn hc p
  refine ⟨p1, p, ?_⟩
  rcases w with ⟨w1, w2⟩ | ⟨w1, i, w2⟩
  · obtain ⟨k2, e2, _, k44, hs⟩ := hF.knd hn
    have ek : k2 = kk := (nI_eq (by omega) (by omega)).mp (e2.symm.trans e1)
    subst ek
    rcases (hs s s1 s4).2.2.2 q.1 q.2.1 q.2.2.1 q.2.2.2 with ⟨z, _⟩ | ⟨c', z1, _, z2, z3, _⟩
    · exact absurd (z.symm.trans w2).symm (nI_m1 (by omega))
    · have : c' = c := (nI_eq (by omega) (by omega)).mp (z1.symm.trans w2)
      rw [← this]; exact z3
  · rw [if_pos w1]
    exact (list_par2 hF hnd hn e1 k4 s1 s4 w1 hc w2).2.1
theorem slP.beside (hF : Fs2 K T wr X gh nd) (hnd : nd ≤ 12000) (hn : n < nd) (e1 : X 9 n = nI kk) (k4 : kk ≤ 44) (s1 : 1 ≤ s) (s4 : s ≤ 4) (hd : d < nd) (pd : pch X n d) (gd : gh 0 d = 8 * n + sd) (hne : (if 200 ≤ cdOf kk s then 5 else s) ≠ sd) (g : ChS X nd d ty ty' mn mn' nc nc') (h : slP X n e (fun c e' => TyS X dc fd md nd ty mn nc k rs c e') kk s) : slP X n e (fun c e' => TyS X dc fd md nd ty' mn' nc' k rs c e') kk s := by
  by_cases q : nch kk s = true
  · exact Or.inl q
  · refine h.map (fun c e' hc w z => ?_)
    obtain ⟨a1, a2, a3⟩ := slP.p0 hF hnd hn e1 k4 s1 s4 hc (by simpa using q) w
    exact z.beside hF hnd hn a1 hd a2 pd (fun y => hne (by rw [y, gd] at a3; omega)) g
theorem slP.mean (hF : Fs2 K T wr X gh nd) (hnd : nd ≤ 12000) (hn : n < nd) (e1 : X 9 n = nI kk) (k4 : kk ≤ 44) (s1 : 1 ≤ s) (s4 : s ≤ 4) (h : slP X n e (fun c e' => TyS X dc fd md nd ty mn nc k rs c e') kk s) : slP X n e (fun c e' => TyS X dc fd md nd ty (upd mn n v) nc k rs c e') kk s := by
  by_cases q : nch kk s = true
  · exact Or.inl q
  · refine h.map (fun c e' hc w z => ?_)
    obtain ⟨a1, a2, a3⟩ := slP.p0 hF hnd hn e1 k4 s1 s4 hc (by simpa using q) w
    exact z.mean hF hnd hn a1 a2
theorem kcl_14_7 {w : Int32} (h : kcl 14 w = true) : kcl 7 w = true := by
  have z : w = 30 ∨ w = 32 := by simpa [kcl] using h
  rcases z with z | z <;> rw [z] <;> decide
theorem kcl_12 {w : Int32} (h : kcl 12 w = true) (e : w = nI kk) (k4 : kk ≤ 44) : kk = 6 ∨ kk = 12 ∨ kk = 15 := by
  subst e
  have : ∀ q : Nat, q ≤ 44 → kcl 12 (nI q) = true → q = 6 ∨ q = 12 ∨ q = 15 := by decide
  exact this kk k4 h
theorem kcl7 {w : Int32} (h : kcl 7 w = true) (e : w = nI kk) (k4 : kk ≤ 44) : 30 ≤ kk ∧ kk ≤ 43 := by
  subst e
  have : ∀ q : Nat, q ≤ 44 → kcl 7 (nI q) = true → 30 ≤ q ∧ q ≤ 43 := by decide
  exact this kk k4 h
theorem kcl12_1 {w : Int32} (h : kcl 12 w = true) : kcl 1 w = true := by
  have z : (w = 6 ∨ w = 12) ∨ w = 15 := by simpa [kcl] using h
  rcases z with (z | z) | z <;> rw [z] <;> decide
theorem kcl13_1 {w : Int32} (h : kcl 13 w = true) : kcl 1 w = true := by
  have z : (w = 7 ∨ w = 8) ∨ w = 14 := by simpa [kcl] using h
  rcases z with (z | z) | z <;> rw [z] <;> decide
theorem ncK.up (h : ∀ i : Nat, i < nd → ¬ X 9 i = 44 → nc i = X 14 i) (e : X 9 n = 44) : ∀ i : Nat, i < nd → ¬ X 9 i = 44 → upd nc n v i = X 14 i := fun i hi q => by
  rw [show upd nc n v i = nc i from if_neg (fun z => q (by rw [z]; exact e))]; exact h i hi q
end SK3
def PlookStatement (l : Launch) (G : pT) (z9 : Nat) : Prop := ∀ (h0 : Nat) (a : Nat → Nat) (F : Nat → Int32) (B : Nat → Nat → Int32) (n9 : Nat) (fa : Nat) (sc : Nat) (il : Nat) (k9 : Nat) (rs : Nat) (nd : Nat) (T : Nat) (nm : Nat) (wr : Nat) (lz : Nat) (dc : Nat) (fd : Nat) (md : Nat) (pr : Nat) (bk : Nat) (gh : Nat → Nat → Nat) (dn : Int32) (wt : Int32) (wf : Int32) (ab : Int32) (ac : Int32) (nc : Nat → Int32) (ty : Nat → Int32) (mn : Nat → Int32) (vn : Nat → Int32) (vt : Nat → Int32) (ev : Nat → Int32), (St B gh nd T nm wr lz dc fd md pr bk) → (nd ≤ 12000 ∧ T ≤ 5000 ∧ wr ≤ 5000 ∧ 7 ≤ dc ∧ dc ≤ 37 ∧ fd ≤ 620 ∧ md ≤ 920 ∧ pr ≤ 5000) → (n9 < nd) → (gh 1 n9 < z9) → (fa ≤ 15) → (sc ≤ 30) → (7 ≤ k9 ∧ k9 < dc) → (∀ i : Nat, i < nd → ¬ B 9 i = 44 → nc i = B 14 i) → (mnN B nd mn) → (il + z9 ≤ 1000) → (TyC dc rs) → (rs ≤ 2050) → (mnC B nd n9 mn) → (∀ i : Nat, i < sc → tyOK dc (vt i)) → (∀ i : Nat, i < sc → vt i = ev i) → (kcl 7 (B 9 n9) = true) → PM l G pX0 yX12_lookStatement cX12_lookStatement 4 none ({ frames := (4 * z9 + 14), cells := 0, slots := 0, locals := (160 * z9 + 1700) }) [.ref h0, .int (nI n9)] (mW G h0 a (upd (upd (upd (upd (upd (upd (upd (upd (upd (upd (upd (upd F 15 (nI fa)) 44 (nI fd)) 49 (nI md)) 73 (nI sc)) 74 (nI k9)) 75 (nI rs)) 76 (nI il)) 77 dn) 78 wt) 79 wf) 80 ab) 81 ac) (updA (updA (updA (updA (updA B 14 nc) 17 ty) 18 mn) 48 vn) 49 vt)) (fun (v : Option Value) (u : Nat × Nat × Int32 × Int32 × Int32 × Int32 × Int32 × Int32 × (Nat → Int32) × (Nat → Int32) × (Nat → Int32) × (Nat → Int32) × (Nat → Int32)) => v = none ∧ (fa ≤ u.1) ∧ (u.1 ≤ 15) ∧ (sc ≤ u.2.1) ∧ (u.2.1 ≤ 30) ∧ (ChS B nd n9 ty u.2.2.2.2.2.2.2.2.2.1 mn u.2.2.2.2.2.2.2.2.2.2.1 nc u.2.2.2.2.2.2.2.2.1) ∧ (mnN B nd u.2.2.2.2.2.2.2.2.2.2.1) ∧ (∀ i : Nat, i < nd → ¬ (B) 9 i = 44 → u.2.2.2.2.2.2.2.2.1 i = (B) 14 i) ∧ (∀ i : Nat, i < sc → u.2.2.2.2.2.2.2.2.2.2.2.2 i = vt i) ∧ (If (u.1 = 0) (TyS B dc fd md nd u.2.2.2.2.2.2.2.2.2.1 u.2.2.2.2.2.2.2.2.2.2.1 u.2.2.2.2.2.2.2.2.1 k9 rs n9 (sc, il, ev) ∧ u.2.1 = (aft B n9 (sc, il, ev)).1 ∧ ∀ i : Nat, i < u.2.1 → u.2.2.2.2.2.2.2.2.2.2.2.2 i = (aft B n9 (sc, il, ev)).2.2 i ∧ tyOK dc (u.2.2.2.2.2.2.2.2.2.2.2.2 i)))) (fun u => (mW G h0 a (upd (upd (upd (upd (upd (upd (upd (upd (upd (upd (upd (upd (upd F 15 (nI u.1)) 16 u.2.2.1) 44 (nI fd)) 49 (nI md)) 73 (nI u.2.1)) 74 (nI k9)) 75 (nI rs)) 76 (nI il)) 77 u.2.2.2.1) 78 u.2.2.2.2.1) 79 u.2.2.2.2.2.1) 80 u.2.2.2.2.2.2.1) 81 u.2.2.2.2.2.2.2.1) (updA (updA (updA (updA (updA B 14 u.2.2.2.2.2.2.2.2.1) 17 u.2.2.2.2.2.2.2.2.2.1) 18 u.2.2.2.2.2.2.2.2.2.2.1) 48 u.2.2.2.2.2.2.2.2.2.2.2.1) 49 u.2.2.2.2.2.2.2.2.2.2.2.2)))
theorem dX12_condition_0 : decode cX12_condition 0 = .ok (.aload_n 0, 1) := by decide +kernel
theorem dX12_condition_1 : decode cX12_condition 1 = .ok (.iload_n 1, 1) := by decide +kernel
theorem dX12_condition_2 : decode cX12_condition 2 = .ok (.invokevirtual 548, 3) := by decide +kernel
theorem dX12_condition_5 : decode cX12_condition 5 = .ok (.istore_n 2, 1) := by decide +kernel
theorem dX12_condition_6 : decode cX12_condition 6 = .ok (.aload_n 0, 1) := by decide +kernel
theorem dX12_condition_7 : decode cX12_condition 7 = .ok (.getfield 62, 3) := by decide +kernel
theorem dX12_condition_10 : decode cX12_condition 10 = .ok (.iload_n 1, 1) := by decide +kernel
theorem dX12_condition_11 : decode cX12_condition 11 = .ok (.iload_n 2, 1) := by decide +kernel
theorem dX12_condition_12 : decode cX12_condition 12 = .ok (.iastore, 1) := by decide +kernel
theorem dX12_condition_13 : decode cX12_condition 13 = .ok (.aload_n 0, 1) := by decide +kernel
theorem dX12_condition_14 : decode cX12_condition 14 = .ok (.iload_n 2, 1) := by decide +kernel
theorem dX12_condition_15 : decode cX12_condition 15 = .ok (.iconst 2, 1) := by decide +kernel
theorem dX12_condition_16 : decode cX12_condition 16 = .ok (.if_icmp .ne 7, 3) := by decide +kernel
theorem dX12_condition_23 : decode cX12_condition 23 = .ok (.iconst 0, 1) := by decide +kernel
theorem dX12_condition_24 : decode cX12_condition 24 = .ok (.bipush 11, 2) := by decide +kernel
theorem dX12_condition_26 : decode cX12_condition 26 = .ok (.aload_n 0, 1) := by decide +kernel
theorem dX12_condition_27 : decode cX12_condition 27 = .ok (.getfield 41, 3) := by decide +kernel
theorem dX12_condition_30 : decode cX12_condition 30 = .ok (.iload_n 1, 1) := by decide +kernel
theorem dX12_condition_31 : decode cX12_condition 31 = .ok (.iaload, 1) := by decide +kernel
theorem dX12_condition_32 : decode cX12_condition 32 = .ok (.invokevirtual 540, 3) := by decide +kernel
theorem dX12_condition_35 : decode cX12_condition 35 = .ok (.pop, 1) := by decide +kernel
theorem dX12_condition_36 : decode cX12_condition 36 = .ok (.return_, 1) := by decide +kernel
theorem dX12_condition_19 : decode cX12_condition 19 = .ok (.iconst 1, 1) := by decide +kernel
theorem dX12_condition_20 : decode cX12_condition 20 = .ok (.goto 4, 3) := by decide +kernel
set_option maxHeartbeats 6000000 in
set_option maxRecDepth 100000 in
/-- condition(e) -/
theorem L_condition (l : Launch) (G : pT) (h0 : Nat) (a : Nat → Nat) (F : Nat → Int32) (B : Nat → Nat → Int32) (n9 : Nat) (z9 : Nat) (fa : Nat) (sc : Nat) (k9 : Nat) (nd : Nat) (T : Nat) (nm : Nat) (wr : Nat) (lz : Nat) (dc : Nat) (fd : Nat) (md : Nat) (pr : Nat) (bk : Nat) (gh : Nat → Nat → Nat) (dn : Int32) (wt : Int32) (wf : Int32) (nc : Nat → Int32) (ty : Nat → Int32) (mn : Nat → Int32) (vn : Nat → Int32) (vt : Nat → Int32) (hst : St B gh nd T nm wr lz dc fd md pr bk) (hnm : nd ≤ 12000 ∧ T ≤ 5000 ∧ wr ≤ 5000 ∧ 7 ≤ dc ∧ dc ≤ 37 ∧ fd ≤ 620 ∧ md ≤ 920 ∧ pr ≤ 5000) (hn9 : n9 < nd) (hz : gh 1 n9 < z9) (hfa : fa ≤ 15) (hsc : sc ≤ 30) (hk9 : 7 ≤ k9 ∧ k9 < dc) (hnc : ∀ i : Nat, i < nd → ¬ B 9 i = 44 → nc i = B 14 i) (hmn : mnN B nd mn) (hvt : ∀ i : Nat, i < sc → tyOK dc (vt i)) (hkc : kcl 1 (B 9 n9) = true) : PM l G pX0 yX12_condition cX12_condition 3 none ({ frames := (4 * z9 + 11), cells := 0, slots := 0, locals := (160 * z9 + 1440) }) [.ref h0, .int (nI n9)] (mW G h0 a (upd (upd (upd (upd (upd (upd (upd (upd F 15 (nI fa)) 44 (nI fd)) 49 (nI md)) 73 (nI sc)) 74 (nI k9)) 77 dn) 78 wt) 79 wf) (updA (updA (updA (updA (updA B 14 nc) 17 ty) 18 mn) 48 vn) 49 vt)) (fun (v : Option Value) (u : Nat × Int32 × Int32 × Int32 × Int32 × (Nat → Int32) × (Nat → Int32)) => v = none ∧ (fa ≤ u.1) ∧ (u.1 ≤ 15) ∧ (ChE B nd n9 ty u.2.2.2.2.2.1 mn u.2.2.2.2.2.2) ∧ (mnN B nd u.2.2.2.2.2.2) ∧ (If (u.1 = 0) (Typ B dc fd md nd u.2.2.2.2.2.1 u.2.2.2.2.2.2 vt sc k9 n9 ∧ u.2.2.2.2.2.1 n9 = 2))) (fun u => (mW G h0 a (upd (upd (upd (upd (upd (upd (upd (upd (upd F 15 (nI u.1)) 16 u.2.1) 44 (nI fd)) 49 (nI md)) 73 (nI sc)) 74 (nI k9)) 77 u.2.2.1) 78 u.2.2.2.1) 79 u.2.2.2.2.1) (updA (updA (updA (updA (updA B 14 nc) 17 u.2.2.2.2.2.1) 18 u.2.2.2.2.2.2) 48 vn) 49 vt))) := by
  intro sz
  refine Met.ofW (cc := cX12_condition) (maxL := 3) (ret := none) (by decide) rfl ?_
  intro p e s m args below meth c s₁ B9 hml hv
  obtain ⟨rfl, hsz, hP, hD0, hE, hX⟩ := hv
  have hx := B9.exec
  have hb := B9.bytes
  have hr := B9.returns
  have hts := atoms_spec (ws := Cond.code yX12_condition cX12_condition 3 none :: pw) B9.pre
  have hq : ∀ w ∈ pw, w.before _ s = true := fun w h => hts w (List.mem_cons_of_mem _ h)
  have hown : s.vm.findClass RX12 = some m.cls := findClass_of_methodNamed B9.named
  have hlocks := B9.notSynchronized
  subst hsz
  have hD := hD0.self (sz := s.heap.size)
  have hA : ∀ q : Nat, s.heap.size ≤ q → va_A (mW G h0 a (upd (upd (upd (upd (upd (upd (upd (upd F 15 (nI fa)) 44 (nI fd)) 49 (nI md)) 73 (nI sc)) 74 (nI k9)) 77 dn) 78 wt) 79 wf) (updA (updA (updA (updA (updA B 14 nc) 17 ty) 18 mn) 48 vn) 49 vt)) s.heap.size q := fun q h => Or.inr h
  have hP : va_P G.1 pCl (mW G h0 a (upd (upd (upd (upd (upd (upd (upd (upd F 15 (nI fa)) 44 (nI fd)) 49 (nI md)) 73 (nI sc)) 74 (nI k9)) 77 dn) 78 wt) 79 wf) (updA (updA (updA (updA (updA B 14 nc) 17 ty) 18 mn) 48 vn) 49 vt)) s.heap := hP
  generalize va_A (mW G h0 a (upd (upd (upd (upd (upd (upd (upd (upd F 15 (nI fa)) 44 (nI fd)) 49 (nI md)) 73 (nI sc)) 74 (nI k9)) 77 dn) 78 wt) 79 wf) (updA (updA (updA (updA (updA B 14 nc) 17 ty) 18 mn) 48 vn) 49 vt)) s.heap.size = A at hD hE hA ⊢
  have hS : va_S A s.heap s.heap [] := va_S.rf
  have hl := lv_entry ([.ref h0, .int (nI n9)]) (n := 3) (Nat.le_of_ble_eq_true rfl)
  rw [lg_entry_eq]
  generalize (lg_sl ([.ref h0, .int (nI n9)]) ++ List.replicate (3 - (lg_sl ([.ref h0, .int (nI n9)])).length) Slot.unset).toArray = ls at hl ⊢
  have hl : lv_has ls 3 [(0, .ref h0), (1, .int (nI n9))] := hl
  have hF := hst.1
  have hPS := hst.2.1
  have hBI := hst.2.2.1
  have hRK := hst.2.2.2.1
  have hTY := hst.2.2.2.2.1
  have hNW := hst.2.2.2.2.2.1
  have hTK := hst.2.2.2.2.2.2
  refine lv_aload_n hx hb dX12_condition_0 rfl (lv_at hl 0 rfl) ?_
  refine lv_iload_n hx hb dX12_condition_1 rfl (lv_at hl 1 rfl) ?_
  have hP : va_P G.1 pCl (mW G h0 a (upd (upd (upd (upd (upd (upd (upd (upd (upd (upd (upd (upd (upd (upd (upd (upd F 15 (nI fa)) 44 (nI fd)) 49 (nI md)) 73 (nI sc)) 74 (nI k9)) 77 dn) 78 wt) 79 wf) 15 (nI fa)) 44 (nI fd)) 49 (nI md)) 73 (nI sc)) 74 (nI k9)) 77 dn) 78 wt) 79 wf) (updA (updA (updA (updA (updA B 14 nc) 17 ty) 18 mn) 48 vn) 49 vt)) _ := mW_to (F := F) (l1 := [(15, (nI fa)), (44, (nI fd)), (49, (nI md)), (73, (nI sc)), (74, (nI k9)), (77, dn), (78, wt), (79, wf)]) (l2 := [(15, (nI fa)), (44, (nI fd)), (49, (nI md)), (73, (nI sc)), (74, (nI k9)), (77, dn), (78, wt), (79, wf), (15, (nI fa)), (44, (nI fd)), (49, (nI md)), (73, (nI sc)), (74, (nI k9)), (77, dn), (78, wt), (79, wf)]) (V := [(nI fa), (nI fd), (nI md), (nI sc), (nI k9), dn, wt, wf, (nI fa), (nI fd), (nI md), (nI sc), (nI k9), dn, wt, wf, (nI fa), (nI fd), (nI md), (nI sc), (nI k9), dn, wt, wf]) rfl rfl rfl hP
  have hD : va_D A (mW G h0 a (upd (upd (upd (upd (upd (upd (upd (upd (upd (upd (upd (upd (upd (upd (upd (upd F 15 (nI fa)) 44 (nI fd)) 49 (nI md)) 73 (nI sc)) 74 (nI k9)) 77 dn) 78 wt) 79 wf) 15 (nI fa)) 44 (nI fd)) 49 (nI md)) 73 (nI sc)) 74 (nI k9)) 77 dn) 78 wt) 79 wf) (updA (updA (updA (updA (updA B 14 nc) 17 ty) 18 mn) 48 vn) 49 vt)) := mW_D hD
  refine pc_V0 (G := G) (As := [.int (nI n9)]) (rest := []) hx hb hml hown hq hE hX pX0_al hP hD hS hA hl.1 ((LK_all l G z9).1 h0 a (upd (upd (upd (upd (upd (upd (upd (upd F 15 (nI fa)) 44 (nI fd)) 49 (nI md)) 73 (nI sc)) 74 (nI k9)) 77 dn) 78 wt) 79 wf) B n9 fa sc k9 nd T nm wr lz dc fd md pr bk gh dn wt wf nc ty mn vn vt hst hnm hn9 (by omega) (by omega) (by omega) hk9 hnc hmn hvt hkc) (gV pw_1815 pw_1816 pw_1817 pw_1523 pw_1831) hV_X12_lookAt 0 9 rfl rfl rfl rfl (Nat.le_of_ble_eq_true rfl) dX12_condition_2 ⟨Nat.le_of_ble_eq_true rfl, Nat.le_of_ble_eq_true rfl⟩ ⟨(by show (4 * z9 + 10) + 1 ≤ (4 * z9 + 11); omega), (by show 8 + (3 + 11) + (160 * z9 + 1400) ≤ (160 * z9 + 1440); omega)⟩ (fun v3 u1 H locs hw2 hP hD hS => ?_)
  obtain ⟨r4, fa5, pl6, dn7, wt8, wf9, ty10, mn11⟩ := u1
  obtain ⟨hw2, h12, h13, h14, h15, h16, h17, h18⟩ := hw2
  replace h12 : fa ≤ fa5 := h12
  replace h13 : fa5 ≤ 15 := h13
  replace h14 : TyC dc r4 := h14
  replace h15 : r4 ≤ 2050 := h15
  replace h16 : ChE B nd n9 ty ty10 mn mn11 := h16
  replace h17 : mnN B nd mn11 := h17
  replace h18 : If (fa5 = 0) (Typ0 B dc fd md nd ty10 mn11 vt sc k9 n9 (nI r4)) := h18
  obtain rfl : v3 = some (.int (nI r4)) := hw2
  have hP : va_P G.1 pCl (mW G h0 a (upd (upd (upd (upd (upd (upd (upd (upd (upd F 15 (nI fa5)) 16 pl6) 44 (nI fd)) 49 (nI md)) 73 (nI sc)) 74 (nI k9)) 77 dn7) 78 wt8) 79 wf9) (updA (updA (updA (updA (updA B 14 nc) 17 ty10) 18 mn11) 48 vn) 49 vt)) _ := mW_to (F := F) (l1 := [(15, (nI fa)), (44, (nI fd)), (49, (nI md)), (73, (nI sc)), (74, (nI k9)), (77, dn), (78, wt), (79, wf), (15, (nI fa5)), (16, pl6), (44, (nI fd)), (49, (nI md)), (73, (nI sc)), (74, (nI k9)), (77, dn7), (78, wt8), (79, wf9)]) (l2 := [(15, (nI fa5)), (16, pl6), (44, (nI fd)), (49, (nI md)), (73, (nI sc)), (74, (nI k9)), (77, dn7), (78, wt8), (79, wf9)]) (V := [(nI fa5), (nI fd), (nI md), (nI sc), (nI k9), dn7, wt8, wf9, (nI fa5), pl6, (nI fd), (nI md), (nI sc), (nI k9), dn7, wt8, wf9, (nI fa5), pl6, (nI fd), (nI md), (nI sc), (nI k9), dn7, wt8, wf9]) rfl rfl rfl hP
  have hD : va_D A (mW G h0 a (upd (upd (upd (upd (upd (upd (upd (upd (upd F 15 (nI fa5)) 16 pl6) 44 (nI fd)) 49 (nI md)) 73 (nI sc)) 74 (nI k9)) 77 dn7) 78 wt8) 79 wf9) (updA (updA (updA (updA (updA B 14 nc) 17 ty10) 18 mn11) 48 vn) 49 vt)) := mW_D hD
  refine W.widen (k := 0) (n := 0) (Nat.le_of_ble_eq_true rfl) (Nat.le_of_ble_eq_true rfl) ?_
  refine W.eq (g2 := F0 m 5 ls [.int (nI r4)]) rfl ?_
  refine lv_istore_n (lv' := [(2, .int (nI r4)), (0, .ref h0), (1, .int (nI n9))]) hx hb dX12_condition_5 rfl hl (by decide) rfl (fun ls hl => ?_)
  refine lv_aload_n hx hb dX12_condition_6 rfl (lv_at hl 1 rfl) ?_
  refine r_get (v := .ref (a 17)) hx hb hown hq hE hP 25 62 tFX12_25 (by decide) pw_1447 rfl dX12_condition_7 ?_
  refine lv_iload_n hx hb dX12_condition_10 rfl (lv_at hl 2 rfl) ?_
  refine lv_iload_n hx hb dX12_condition_11 rfl (lv_at hl 0 rfl) ?_
  refine r_sti (f := ty10) (j := n9) hx hb hE hP hD hS 17 (ma_17 G a _) rfl (mas_17 G a _) (by omega) (by decide) dX12_condition_12 (fun H locs hP hD hS => ?_)
  have hch19 : ChE B nd n9 ty (upd ty10 n9 (nI r4)) mn mn11 := (ChE.trans h16 (ChE.setT sub.rfl))
  refine lv_aload_n hx hb dX12_condition_13 rfl (lv_at hl 1 rfl) ?_
  refine lv_iload_n hx hb dX12_condition_14 rfl (lv_at hl 0 rfl) ?_
  refine lv_iconst (v := 2) hx hb dX12_condition_15 (by decide) ?_
  refine lv_icmp_ne (tgt := 23) hx hb dX12_condition_16 (by decide) (fun c20 => ?_) (fun c20 => ?_)
  · have n21 : ¬ (r4 = 2) := fun h9 => c20 ((nI_eq (a := r4) (b := 2) (by omega) (by omega)).mpr h9)
    refine lv_iconst (v := 0) hx hb dX12_condition_23 (by decide) ?_
    refine lv_bipush (v := 11) hx hb dX12_condition_24 (by decide) ?_
    refine lv_aload_n hx hb dX12_condition_26 rfl (lv_at hl 1 rfl) ?_
    refine r_get (v := .ref (a 10)) hx hb hown hq hE hP 18 41 tFX12_18 (by decide) pw_1440 rfl dX12_condition_27 ?_
    refine lv_iload_n hx hb dX12_condition_30 rfl (lv_at hl 2 rfl) ?_
    refine r_ldi (f := (B 10)) (j := n9) hx hb hE hP 10 (ma_10 G a _) rfl (by omega) (by decide) dX12_condition_31 ?_
    obtain ⟨⟨t22, e23, h24⟩, -⟩ := hF n9 hn9
    refine lv_topi (fun x25 e26 => ?_)
    obtain rfl : x25 = nI t22 := e26.trans e23
    have hP : va_P G.1 pCl (mW G h0 a (upd (upd (upd (upd (upd (upd (upd (upd (upd (upd F 15 (nI fa5)) 16 pl6) 44 (nI fd)) 49 (nI md)) 73 (nI sc)) 74 (nI k9)) 77 dn7) 78 wt8) 79 wf9) 15 (nI fa5)) (updA (updA (updA (updA (updA B 14 nc) 17 (upd ty10 n9 (nI r4))) 18 mn11) 48 vn) 49 vt)) _ := mW_to (F := F) (l1 := [(15, (nI fa5)), (16, pl6), (44, (nI fd)), (49, (nI md)), (73, (nI sc)), (74, (nI k9)), (77, dn7), (78, wt8), (79, wf9)]) (l2 := [(15, (nI fa5)), (16, pl6), (44, (nI fd)), (49, (nI md)), (73, (nI sc)), (74, (nI k9)), (77, dn7), (78, wt8), (79, wf9), (15, (nI fa5))]) (V := [(nI fa5), pl6, (nI fd), (nI md), (nI sc), (nI k9), dn7, wt8, wf9, (nI fa5), pl6, (nI fd), (nI md), (nI sc), (nI k9), dn7, wt8, wf9, (nI fa5)]) rfl rfl (show (updA (updA (updA (updA (updA (updA B 14 nc) 17 ty10) 18 mn11) 48 vn) 49 vt) 17 (upd ty10 n9 (nI r4))) = (updA (updA (updA (updA (updA B 14 nc) 17 (upd ty10 n9 (nI r4))) 18 mn11) 48 vn) 49 vt) from updsA_eq2 (F := B) (l1 := [(14, nc), (17, ty10), (18, mn11), (48, vn), (49, vt), (17, (upd ty10 n9 (nI r4)))]) (l2 := [(14, nc), (17, (upd ty10 n9 (nI r4))), (18, mn11), (48, vn), (49, vt)]) (V := [nc, (upd ty10 n9 (nI r4)), mn11, vn, vt, (upd ty10 n9 (nI r4)), nc, (upd ty10 n9 (nI r4)), mn11, vn, vt]) rfl rfl) hP
    have hD : va_D A (mW G h0 a (upd (upd (upd (upd (upd (upd (upd (upd (upd (upd F 15 (nI fa5)) 16 pl6) 44 (nI fd)) 49 (nI md)) 73 (nI sc)) 74 (nI k9)) 77 dn7) 78 wt8) 79 wf9) 15 (nI fa5)) (updA (updA (updA (updA (updA B 14 nc) 17 (upd ty10 n9 (nI r4))) 18 mn11) 48 vn) 49 vt)) := mW_D hD
    refine pc_V0 (G := G) (As := [.int (nI 0), .int (nI 11), .int (nI t22)]) (rest := []) hx hb hml hown hq hE hX pX0_al hP hD hS hA hl.1 (R_judgeL l G h0 a (upd (upd (upd (upd (upd (upd (upd (upd (upd F 15 (nI fa5)) 16 pl6) 44 (nI fd)) 49 (nI md)) 73 (nI sc)) 74 (nI k9)) 77 dn7) 78 wt8) 79 wf9) (updA (updA (updA (updA (updA B 14 nc) 17 (upd ty10 n9 (nI r4))) 18 mn11) 48 vn) 49 vt) 0 11 t22 fa5 (by omega) (by omega) (by omega) (by omega)) (gV pw_1798 pw_1799 pw_1800 pw_1523 pw_1793) hV_X12_judge 0 9 rfl rfl rfl rfl (Nat.le_of_ble_eq_true rfl) dX12_condition_32 ⟨Nat.le_of_ble_eq_true rfl, Nat.le_of_ble_eq_true rfl⟩ ⟨(by show 3 + 1 ≤ (4 * z9 + 11); omega), (by show 8 + (4 + 11) + 82 ≤ (160 * z9 + 1440); omega)⟩ (fun v29 u27 H locs hw28 hP hD hS => ?_)
    obtain ⟨r30, fa31, pl32⟩ := u27
    obtain ⟨hw28, h33, h34, h35, h36, h37, h38, h39⟩ := hw28
    replace h33 : r30 ≤ 1 := h33
    replace h34 : fa5 ≤ fa31 := h34
    replace h35 : fa31 ≤ 15 := h35
    replace h36 : fa31 + 15 * r30 ≤ 15 := h36
    replace h37 : 1 ≤ r30 + fa31 := h37
    replace h38 : 1 ≤ 0 + fa31 := h38
    replace h39 : fa31 ≤ fa5 + 15 * (1 - 0) := h39
    obtain rfl : v29 = some (.int (nI r30)) := hw28
    have hP : va_P G.1 pCl (mW G h0 a (upd (upd (upd (upd (upd (upd (upd (upd (upd F 15 (nI fa31)) 16 pl32) 44 (nI fd)) 49 (nI md)) 73 (nI sc)) 74 (nI k9)) 77 dn7) 78 wt8) 79 wf9) (updA (updA (updA (updA (updA B 14 nc) 17 (upd ty10 n9 (nI r4))) 18 mn11) 48 vn) 49 vt)) _ := mW_to (F := F) (l1 := [(15, (nI fa5)), (16, pl6), (44, (nI fd)), (49, (nI md)), (73, (nI sc)), (74, (nI k9)), (77, dn7), (78, wt8), (79, wf9), (15, (nI fa31)), (16, pl32)]) (l2 := [(15, (nI fa31)), (16, pl32), (44, (nI fd)), (49, (nI md)), (73, (nI sc)), (74, (nI k9)), (77, dn7), (78, wt8), (79, wf9)]) (V := [(nI fa31), pl32, (nI fd), (nI md), (nI sc), (nI k9), dn7, wt8, wf9, (nI fa31), pl32, (nI fa31), pl32, (nI fd), (nI md), (nI sc), (nI k9), dn7, wt8, wf9]) rfl rfl rfl hP
    have hD : va_D A (mW G h0 a (upd (upd (upd (upd (upd (upd (upd (upd (upd F 15 (nI fa31)) 16 pl32) 44 (nI fd)) 49 (nI md)) 73 (nI sc)) 74 (nI k9)) 77 dn7) 78 wt8) 79 wf9) (updA (updA (updA (updA (updA B 14 nc) 17 (upd ty10 n9 (nI r4))) 18 mn11) 48 vn) 49 vt)) := mW_D hD
    refine W.widen (k := 0) (n := 0) (Nat.le_of_ble_eq_true rfl) (Nat.le_of_ble_eq_true rfl) ?_
    refine W.eq (g2 := F0 m 35 ls [.int (nI r30)]) rfl ?_
    refine lv_pop hx hb dX12_condition_35 rfl ?_
    have hz40 : fa ≤ fa31 := (by omega)
    have hz41 : fa31 ≤ 15 := (by omega)
    have hz42 : ChE B nd n9 ty (upd ty10 n9 (nI r4)) mn mn11 := hch19
    have hz43 : mnN B nd mn11 := h17
    have hz44 : If (fa31 = 0) (Typ B dc fd md nd (upd ty10 n9 (nI r4)) mn11 vt sc k9 n9 ∧ (upd ty10 n9 (nI r4)) n9 = 2) := (fun e => absurd e (by omega))
    have hP : va_P G.1 pCl (mW G h0 a (upd (upd (upd (upd (upd (upd (upd (upd (upd F 15 (nI fa31)) 16 pl32) 44 (nI fd)) 49 (nI md)) 73 (nI sc)) 74 (nI k9)) 77 dn7) 78 wt8) 79 wf9) (updA (updA (updA (updA (updA B 14 nc) 17 (upd ty10 n9 (nI r4))) 18 mn11) 48 vn) 49 vt)) _ := hP
    have hD : va_D A (mW G h0 a (upd (upd (upd (upd (upd (upd (upd (upd (upd F 15 (nI fa31)) 16 pl32) 44 (nI fd)) 49 (nI md)) 73 (nI sc)) 74 (nI k9)) 77 dn7) 78 wt8) 79 wf9) (updA (updA (updA (updA (updA B 14 nc) 17 (upd ty10 n9 (nI r4))) 18 mn11) 48 vn) 49 vt)) := mW_D hD
    exact W.vret hx hb hr (fun t9 ht9 hW9 => ⟨⟨_, (fa31, pl32, dn7, wt8, wf9, (upd ty10 n9 (nI r4)), mn11), rfl, ⟨rfl, hz40, hz41, hz42, hz43, hz44⟩, by rw [ht9]; exact hP, hD⟩, hS.F ht9⟩) hS.2.2 dX12_condition_36
  · have n45 : r4 = 2 := (nI_eq (a := r4) (b := 2) (by omega) (by omega)).mp c20
    refine lv_iconst (v := 1) hx hb dX12_condition_19 (by decide) ?_
    refine lv_goto (tgt := 24) hx hb dX12_condition_20 (by decide) ?_
    refine lv_bipush (v := 11) hx hb dX12_condition_24 (by decide) ?_
    refine lv_aload_n hx hb dX12_condition_26 rfl (lv_at hl 1 rfl) ?_
    refine r_get (v := .ref (a 10)) hx hb hown hq hE hP 18 41 tFX12_18 (by decide) pw_1440 rfl dX12_condition_27 ?_
    refine lv_iload_n hx hb dX12_condition_30 rfl (lv_at hl 2 rfl) ?_
    refine r_ldi (f := (B 10)) (j := n9) hx hb hE hP 10 (ma_10 G a _) rfl (by omega) (by decide) dX12_condition_31 ?_
    obtain ⟨⟨t46, e47, h48⟩, -⟩ := hF n9 hn9
    refine lv_topi (fun x49 e50 => ?_)
    obtain rfl : x49 = nI t46 := e50.trans e47
    have hP : va_P G.1 pCl (mW G h0 a (upd (upd (upd (upd (upd (upd (upd (upd (upd (upd F 15 (nI fa5)) 16 pl6) 44 (nI fd)) 49 (nI md)) 73 (nI sc)) 74 (nI k9)) 77 dn7) 78 wt8) 79 wf9) 15 (nI fa5)) (updA (updA (updA (updA (updA B 14 nc) 17 (upd ty10 n9 (nI r4))) 18 mn11) 48 vn) 49 vt)) _ := mW_to (F := F) (l1 := [(15, (nI fa5)), (16, pl6), (44, (nI fd)), (49, (nI md)), (73, (nI sc)), (74, (nI k9)), (77, dn7), (78, wt8), (79, wf9)]) (l2 := [(15, (nI fa5)), (16, pl6), (44, (nI fd)), (49, (nI md)), (73, (nI sc)), (74, (nI k9)), (77, dn7), (78, wt8), (79, wf9), (15, (nI fa5))]) (V := [(nI fa5), pl6, (nI fd), (nI md), (nI sc), (nI k9), dn7, wt8, wf9, (nI fa5), pl6, (nI fd), (nI md), (nI sc), (nI k9), dn7, wt8, wf9, (nI fa5)]) rfl rfl (show (updA (updA (updA (updA (updA (updA B 14 nc) 17 ty10) 18 mn11) 48 vn) 49 vt) 17 (upd ty10 n9 (nI r4))) = (updA (updA (updA (updA (updA B 14 nc) 17 (upd ty10 n9 (nI r4))) 18 mn11) 48 vn) 49 vt) from updsA_eq2 (F := B) (l1 := [(14, nc), (17, ty10), (18, mn11), (48, vn), (49, vt), (17, (upd ty10 n9 (nI r4)))]) (l2 := [(14, nc), (17, (upd ty10 n9 (nI r4))), (18, mn11), (48, vn), (49, vt)]) (V := [nc, (upd ty10 n9 (nI r4)), mn11, vn, vt, (upd ty10 n9 (nI r4)), nc, (upd ty10 n9 (nI r4)), mn11, vn, vt]) rfl rfl) hP
    have hD : va_D A (mW G h0 a (upd (upd (upd (upd (upd (upd (upd (upd (upd (upd F 15 (nI fa5)) 16 pl6) 44 (nI fd)) 49 (nI md)) 73 (nI sc)) 74 (nI k9)) 77 dn7) 78 wt8) 79 wf9) 15 (nI fa5)) (updA (updA (updA (updA (updA B 14 nc) 17 (upd ty10 n9 (nI r4))) 18 mn11) 48 vn) 49 vt)) := mW_D hD
    refine pc_V0 (G := G) (As := [.int (nI 1), .int (nI 11), .int (nI t46)]) (rest := []) hx hb hml hown hq hE hX pX0_al hP hD hS hA hl.1 (R_judgeL l G h0 a (upd (upd (upd (upd (upd (upd (upd (upd (upd F 15 (nI fa5)) 16 pl6) 44 (nI fd)) 49 (nI md)) 73 (nI sc)) 74 (nI k9)) 77 dn7) 78 wt8) 79 wf9) (updA (updA (updA (updA (updA B 14 nc) 17 (upd ty10 n9 (nI r4))) 18 mn11) 48 vn) 49 vt) 1 11 t46 fa5 (by omega) (by omega) (by omega) (by omega)) (gV pw_1798 pw_1799 pw_1800 pw_1523 pw_1793) hV_X12_judge 0 9 rfl rfl rfl rfl (Nat.le_of_ble_eq_true rfl) dX12_condition_32 ⟨Nat.le_of_ble_eq_true rfl, Nat.le_of_ble_eq_true rfl⟩ ⟨(by show 3 + 1 ≤ (4 * z9 + 11); omega), (by show 8 + (4 + 11) + 82 ≤ (160 * z9 + 1440); omega)⟩ (fun v53 u51 H locs hw52 hP hD hS => ?_)
    obtain ⟨r54, fa55, pl56⟩ := u51
    obtain ⟨hw52, h57, h58, h59, h60, h61, h62, h63⟩ := hw52
    replace h57 : r54 ≤ 1 := h57
    replace h58 : fa5 ≤ fa55 := h58
    replace h59 : fa55 ≤ 15 := h59
    replace h60 : fa55 + 15 * r54 ≤ 15 := h60
    replace h61 : 1 ≤ r54 + fa55 := h61
    replace h62 : 1 ≤ 1 + fa55 := h62
    replace h63 : fa55 ≤ fa5 + 15 * (1 - 1) := h63
    obtain rfl : v53 = some (.int (nI r54)) := hw52
    have hP : va_P G.1 pCl (mW G h0 a (upd (upd (upd (upd (upd (upd (upd (upd (upd F 15 (nI fa55)) 16 pl56) 44 (nI fd)) 49 (nI md)) 73 (nI sc)) 74 (nI k9)) 77 dn7) 78 wt8) 79 wf9) (updA (updA (updA (updA (updA B 14 nc) 17 (upd ty10 n9 (nI r4))) 18 mn11) 48 vn) 49 vt)) _ := mW_to (F := F) (l1 := [(15, (nI fa5)), (16, pl6), (44, (nI fd)), (49, (nI md)), (73, (nI sc)), (74, (nI k9)), (77, dn7), (78, wt8), (79, wf9), (15, (nI fa55)), (16, pl56)]) (l2 := [(15, (nI fa55)), (16, pl56), (44, (nI fd)), (49, (nI md)), (73, (nI sc)), (74, (nI k9)), (77, dn7), (78, wt8), (79, wf9)]) (V := [(nI fa55), pl56, (nI fd), (nI md), (nI sc), (nI k9), dn7, wt8, wf9, (nI fa55), pl56, (nI fa55), pl56, (nI fd), (nI md), (nI sc), (nI k9), dn7, wt8, wf9]) rfl rfl rfl hP
    have hD : va_D A (mW G h0 a (upd (upd (upd (upd (upd (upd (upd (upd (upd F 15 (nI fa55)) 16 pl56) 44 (nI fd)) 49 (nI md)) 73 (nI sc)) 74 (nI k9)) 77 dn7) 78 wt8) 79 wf9) (updA (updA (updA (updA (updA B 14 nc) 17 (upd ty10 n9 (nI r4))) 18 mn11) 48 vn) 49 vt)) := mW_D hD
    refine W.widen (k := 0) (n := 0) (Nat.le_of_ble_eq_true rfl) (Nat.le_of_ble_eq_true rfl) ?_
    refine W.eq (g2 := F0 m 35 ls [.int (nI r54)]) rfl ?_
    refine lv_pop hx hb dX12_condition_35 rfl ?_
    have hz64 : fa ≤ fa55 := (by omega)
    have hz65 : fa55 ≤ 15 := (by omega)
    have hz66 : ChE B nd n9 ty (upd ty10 n9 (nI r4)) mn mn11 := hch19
    have hz67 : mnN B nd mn11 := h17
    have hz68 : If (fa55 = 0) (Typ B dc fd md nd (upd ty10 n9 (nI r4)) mn11 vt sc k9 n9 ∧ (upd ty10 n9 (nI r4)) n9 = 2) := (fun e => ⟨(fun e => Typ0.st hF (by omega) hn9 (h18 e)) (by omega), upd_eq.trans (by rw [show r4 = 2 by omega]; rfl)⟩)
    have hP : va_P G.1 pCl (mW G h0 a (upd (upd (upd (upd (upd (upd (upd (upd (upd F 15 (nI fa55)) 16 pl56) 44 (nI fd)) 49 (nI md)) 73 (nI sc)) 74 (nI k9)) 77 dn7) 78 wt8) 79 wf9) (updA (updA (updA (updA (updA B 14 nc) 17 (upd ty10 n9 (nI r4))) 18 mn11) 48 vn) 49 vt)) _ := hP
    have hD : va_D A (mW G h0 a (upd (upd (upd (upd (upd (upd (upd (upd (upd F 15 (nI fa55)) 16 pl56) 44 (nI fd)) 49 (nI md)) 73 (nI sc)) 74 (nI k9)) 77 dn7) 78 wt8) 79 wf9) (updA (updA (updA (updA (updA B 14 nc) 17 (upd ty10 n9 (nI r4))) 18 mn11) 48 vn) 49 vt)) := mW_D hD
    exact W.vret hx hb hr (fun t9 ht9 hW9 => ⟨⟨_, (fa55, pl56, dn7, wt8, wf9, (upd ty10 n9 (nI r4)), mn11), rfl, ⟨rfl, hz64, hz65, hz66, hz67, hz68⟩, by rw [ht9]; exact hP, hD⟩, hS.F ht9⟩) hS.2.2 dX12_condition_36
theorem hV_X12_lookStatement : yX12_lookStatement.cls = RX12 ∧ yX12_lookStatement.cls ≠ "java/lang/invoke/MethodHandle" ∧ yX12_lookStatement.cls ≠ "java/lang/invoke/VarHandle" ∧ (parseMethodDescriptor yX12_lookStatement.desc).map (fun d => d.parameters.length) = some 1 := by decide +kernel
theorem hV_X12_condition : yX12_condition.cls = RX12 ∧ yX12_condition.cls ≠ "java/lang/invoke/MethodHandle" ∧ yX12_condition.cls ≠ "java/lang/invoke/VarHandle" ∧ (parseMethodDescriptor yX12_condition.desc).map (fun d => d.parameters.length) = some 1 := by decide +kernel
