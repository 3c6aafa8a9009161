/-! names: parents, and who stands above whom -/
/-- what the parser knows of Decls -/
def DcY (K : PK) (dr nd : Nat) : Prop := ∀ k : Nat, k < nd → ∀ d : Nat, K.2.2.2.2.1 dr k = some d → (¬ K.2.1 18 d = 0 → lsz K (K.2.2.1 8 d) = 0) ∧ (k < 7 → lsz K (K.2.2.1 8 d) = 0 ∧ lsz K (K.2.2.1 9 d) = 0)
def DoA (K : PK) (dr nd : Nat) (x : Int32) (o : Option Nat) : Prop := ∀ k e : Nat, k < nd → x = nI k → K.2.2.2.2.1 dr k = some e → o = some e
def PaX (K : PK) (dr nd k : Nat) : Prop := ∀ j d : Nat, j < k → j < nd → K.2.2.2.2.1 dr j = some d → ((j = 0 ∨ ¬ K.2.1 18 d = 0) → K.2.2.1 10 d = none) ∧ (1 ≤ j → K.2.1 18 d = 0 → ∃ i p : Nat, i < nd ∧ K.2.2.2.2.1 dr i = some p ∧ K.2.2.1 10 d = some p ∧ K.2.1 18 p = 0)
/-- one of the parents -/
def AnP (K : PK) : Nat → Nat → Nat → Prop
  | 0, _, _ => False
  | n + 1, d, e => ∃ p : Nat, K.2.2.1 10 d = some p ∧ (p = e ∨ AnP K n p e)
/-- who stands above: Object, an interface, or one of the parents -/
def CAb (K : PK) (dr nd : Nat) (ab : Nat → Int64) (k : Nat) : Prop := ∀ j b d e : Nat, j < k → j < nd → b < nd → bitL (ab j) b → K.2.2.2.2.1 dr j = some d → K.2.2.2.2.1 dr b = some e → b = 0 ∨ ¬ K.2.1 18 e = 0 ∨ (K.2.1 18 d = 0 ∧ ∃ n : Nat, AnP K n d e)
theorem sh_all : ∀ i : Nat, i < 64 → ∀ b : Nat, b < 64 → ((1 : Int64) <<< ((nI i).toInt64 &&& 63)).toBitVec.getLsbD b = true → b = i := by decide +kernel
theorem bitL_shu {i b : Nat} (hi : i < 64) (h : bitL ((1 : Int64) <<< ((nI i).toInt64 &&& 63)) b) : b = i := by
  have hb : b < 64 := Classical.byContradiction (fun z => by
    unfold bitL at h
    rw [BitVec.getLsbD_of_ge _ _ (by omega)] at h
    exact absurd h (by decide))
  exact sh_all i hi b hb h
section GN9
variable {G : pT} {K K1 : PK} {g : Nat → Nat → Nat} {dr nd d e p q k i j m n n2 : Nat} {ab : Nat → Int64} {v : Int64} {x r : Int32} {w : Option Nat}
theorem LkX.fdx (h : LkX K K1) (z : FdX K1 dr nd x r) : FdX K dr nd x r := by
  unfold FdX at z
  rw [h.2.2.2.1] at z
  have hi : ∀ p : Nat, K1.2.1 16 p = K.2.1 16 p := fun p => h.2.1 16 p
  rcases z with ⟨q1, q2⟩ | ⟨k, d, q1, q2, q3, q4, q5⟩
  · exact Or.inl ⟨q1, fun k d hk he => by rw [← hi d]; exact q2 k d hk he⟩
  · exact Or.inr ⟨k, d, q1, q2, q3, by rw [← hi d]; exact q4, fun j e hj he => by rw [← hi e]; exact q5 j e hj he⟩
theorem AnP.same (h : ∀ z : Nat, K1.2.2.1 10 z = K.2.2.1 10 z) : ∀ {n d : Nat}, AnP K n d e → AnP K1 n d e
  | 0, _, z => z.elim
  | n + 1, d, z => by
    obtain ⟨p, z1, z2⟩ := z
    refine ⟨p, (h d).trans z1, ?_⟩
    rcases z2 with z2 | z2
    · exact Or.inl z2
    · exact Or.inr (AnP.same h z2)
theorem AnP.kL9 (h : AnP K n d e) : AnP (kL K q v) n d e := AnP.same (K := K) (K1 := kL K q v) (fun _ => rfl) h
theorem AnP.putC (h : K.2.2.1 10 q = none) : ∀ {n d : Nat}, AnP K n d e → AnP (kC K 10 q w) n d e
  | 0, _, z => z.elim
  | n + 1, d, z => by
    obtain ⟨p, z1, z2⟩ := z
    have hne : ¬ d = q := fun y => by rw [y, h] at z1; cases z1
    refine ⟨p, (kC_ne hne).trans z1, ?_⟩
    rcases z2 with z2 | z2
    · exact Or.inl z2
    · exact Or.inr (AnP.putC h z2)
theorem AnP.trans (h2 : AnP K n2 p e) : ∀ {n d : Nat}, AnP K n d p → ∃ n3 : Nat, AnP K n3 d e
  | 0, _, z => z.elim
  | n + 1, d, z => by
    obtain ⟨y, z1, z2⟩ := z
    rcases z2 with z2 | z2
    · subst z2
      exact ⟨n2 + 1, y, z1, Or.inr h2⟩
    · obtain ⟨n3, z3⟩ := AnP.trans h2 z2
      exact ⟨n3 + 1, y, z1, Or.inr z3⟩
theorem CAb.start (h : Bi0 ab 1) : CAb K dr nd ab 1 := fun j b d e hj _ _ hb _ _ => by
  have z : j = 0 := by omega
  rw [z, h.1] at hb
  exact absurd hb bitL_zero
theorem CAb.all (h : CAb K dr nd ab k) (hk : nd ≤ k) : CAb K dr nd ab nd := fun j b d e hj => h j b d e (by omega)
theorem CAb.kL (h : CAb K dr nd ab k) : CAb (_root_.Jvm.Pilot.@@N@@.kL K q v) dr nd (upL ab k v) k := fun j b d e hj hj2 hb hbit he1 he2 => by
  rw [upL_ne (by omega)] at hbit
  rcases h j b d e hj hj2 hb hbit he1 he2 with z | z | ⟨z1, n, z2⟩
  · exact Or.inl z
  · exact Or.inr (Or.inl z)
  · exact Or.inr (Or.inr ⟨z1, n, AnP.kL9 z2⟩)
theorem CAb.kC (h : CAb K dr nd ab k) (hn : K.2.2.1 10 q = none) : CAb (_root_.Jvm.Pilot.@@N@@.kC K 10 q w) dr nd ab k := fun j b d e hj hj2 hb hbit he1 he2 => by
  rcases h j b d e hj hj2 hb hbit he1 he2 with z | z | ⟨z1, n, z2⟩
  · exact Or.inl z
  · exact Or.inr (Or.inl z)
  · exact Or.inr (Or.inr ⟨z1, n, AnP.putC hn z2⟩)
theorem CAb.one (h : CAb K dr nd (upL ab k 1) k) : CAb K dr nd (upL ab k 1) (k + 1) := fun j b d e hj hj2 hb hbit he1 he2 => by
  by_cases z : j = k
  · subst z
    rw [upL_eq] at hbit
    exact Or.inl (bitL_one hbit)
  · exact h j b d e (by omega) hj2 hb hbit he1 he2
/-- bits of k anew -/
theorem CAb.put (h : CAb K dr nd ab k) (hn : ∀ b e : Nat, b < nd → bitL v b → K.2.2.2.2.1 dr b = some e → b = 0 ∨ ¬ K.2.1 18 e = 0 ∨ (K.2.1 18 d = 0 ∧ ∃ n : Nat, AnP K n d e)) (he : K.2.2.2.2.1 dr k = some d) (hm : k ≤ m) (hh : ∀ j b d e : Nat, j < m → ¬ j = k → j < nd → b < nd → bitL (ab j) b → K.2.2.2.2.1 dr j = some d → K.2.2.2.2.1 dr b = some e → b = 0 ∨ ¬ K.2.1 18 e = 0 ∨ (K.2.1 18 d = 0 ∧ ∃ n : Nat, AnP K n d e)) : CAb (_root_.Jvm.Pilot.@@N@@.kL K q v) dr nd (upL ab k v) m := fun j b d2 e hj hj2 hb hbit he1 he2 => by
  have g9 : b = 0 ∨ ¬ K.2.1 18 e = 0 ∨ (K.2.1 18 d2 = 0 ∧ ∃ n : Nat, AnP K n d2 e) := by
    by_cases z : j = k
    · subst z
      rw [upL_eq] at hbit
      have ed : d = d2 := Option.some.inj (he.symm.trans he1)
      subst ed
      exact hn b e hb hbit he2
    · rw [upL_ne z] at hbit
      exact hh j b d2 e hj z hj2 hb hbit he1 he2
  rcases g9 with z | z | ⟨z1, n, z2⟩
  · exact Or.inl z
  · exact Or.inr (Or.inl z)
  · exact Or.inr (Or.inr ⟨z1, n, AnP.kL9 z2⟩)
theorem CAb.par (h : CAb K dr nd ab k) (he : K.2.2.2.2.1 dr k = some d) (hc : K.2.2.1 10 d = some p) (hp : K.2.2.2.2.1 dr i = some p) (_hk : k < nd) (hi : i < nd) (hnd : nd ≤ 37) (_hr : DcR K g dr nd) (hb : ∀ b : Nat, bitL v b → b = 0 ∨ b = i) (h18 : K.2.1 18 d = 0) : CAb (_root_.Jvm.Pilot.@@N@@.kL K q v) dr nd (upL ab k v) (k + 1) :=
  CAb.put h (fun b e _ hbit he2 => by
    rcases hb b hbit with z | z
    · exact Or.inl z
    · subst z
      have ep : p = e := Option.some.inj (hp.symm.trans he2)
      exact Or.inr (Or.inr ⟨h18, 1, p, hc, Or.inl ep⟩)) he (by omega) (fun j b d e hj hne => h j b d e (by omega))
theorem CAb.lis (h : CAb K dr nd ab (k + 1)) (he : K.2.2.2.2.1 dr k = some d) (hq : K.2.2.2.2.1 dr i = some e) (he18 : ¬ K.2.1 18 e = 0) (hb : ∀ b : Nat, bitL v b → bitL (ab k) b ∨ b = i) (hk : k < nd) : CAb (_root_.Jvm.Pilot.@@N@@.kL K q v) dr nd (upL ab k v) (k + 1) :=
  CAb.put (k := k) (fun j b d e hj => h j b d e (by omega)) (fun b e2 hb2 hbit he2 => by
    rcases hb b hbit with z | z
    · exact h k b d e2 (by omega) hk hb2 z he he2
    · subst z
      have ep : e = e2 := Option.some.inj (hq.symm.trans he2)
      exact Or.inr (Or.inl (by rw [← ep]; exact he18))) he (by omega) (fun j b d e hj hne => h j b d e hj)
theorem CAb.hit (h : CAb K dr nd ab nd) (hr : DcR K g dr nd) (hb0 : Bi0 ab 7) (hk : k < nd) (hm : m < nd) (hbt : bitL (ab k) m) : CAb (_root_.Jvm.Pilot.@@N@@.kL K q v) dr nd (upL ab k (ab k ||| ab m)) nd := by
  obtain ⟨dk, hk1, _⟩ := hr k hk
  obtain ⟨dm, hm1, _⟩ := hr m hm
  intro j b d2 e hj hj2 hb hbit he1 he2
  have g9 : b = 0 ∨ ¬ K.2.1 18 e = 0 ∨ (K.2.1 18 d2 = 0 ∧ ∃ n : Nat, AnP K n d2 e) := by
    by_cases z : j = k
    · subst z
      have ed : dk = d2 := Option.some.inj (hk1.symm.trans he1)
      subst ed
      rw [upL_eq, bitL_or] at hbit
      rcases hbit with w | w
      · exact h j b dk e hj hj2 hb w he1 he2
      · rcases h m b dm e hm hm hb w hm1 he2 with x1 | x1 | ⟨x1, n1, x2⟩
        · exact Or.inl x1
        · exact Or.inr (Or.inl x1)
        · rcases h j m dk dm hj hj2 hm hbt he1 hm1 with y | y | ⟨y1, n2, y2⟩
          · rw [y, hb0.1] at w
            exact absurd w bitL_zero
          · exact absurd x1 y
          · exact Or.inr (Or.inr ⟨y1, AnP.trans x2 y2⟩)
    · rw [upL_ne z] at hbit
      exact h j b d2 e hj hj2 hb hbit he1 he2
  rcases g9 with z | z | ⟨z1, n, z2⟩
  · exact Or.inl z
  · exact Or.inr (Or.inl z)
  · exact Or.inr (Or.inr ⟨z1, n, AnP.kL9 z2⟩)
theorem PaX.start (h : PaN K dr nd) : PaX K dr nd 1 := fun j d hj hj2 he => ⟨fun _ => (h j hj2 d he).1, fun h1 => absurd h1 (by omega)⟩
theorem PaX.all (h : PaX K dr nd k) (hk : nd ≤ k) : PaX K dr nd nd := fun j d hj => h j d (by omega)
theorem PaX.nul (h : PaX K dr nd k) (he : K.2.2.2.2.1 dr k = some d) (hn : K.2.2.1 10 d = none) (hi : ¬ K.2.1 18 d = 0) : PaX K dr nd (k + 1) := fun j d2 hj hj2 he2 => by
  by_cases z : j = k
  · subst z
    have ed : d = d2 := Option.some.inj (he.symm.trans he2)
    subst ed
    exact ⟨fun _ => hn, fun _ y => absurd y hi⟩
  · exact h j d2 (by omega) hj2 he2
theorem PaX.put (h : PaX K dr nd k) (hr : DcR K g dr nd) (hnd : nd ≤ 37) (hk : k < nd) (he : K.2.2.2.2.1 dr k = some d) (hi : i < nd) (hp : K.2.2.2.2.1 dr i = some p) (hc : K.2.1 18 p = 0) (h1 : 1 ≤ k) (hd : K.2.1 18 d = 0) : PaX (_root_.Jvm.Pilot.@@N@@.kC K 10 d (some p)) dr nd (k + 1) := fun j d2 hj hj2 he2 => by
  by_cases z : j = k
  · subst z
    have ed : d = d2 := Option.some.inj (he.symm.trans he2)
    subst ed
    refine ⟨fun y => ?_, fun _ _ => ⟨i, p, hi, hp, kC_eq, hc⟩⟩
    rcases y with y | y
    · omega
    · exact absurd hd y
  · have hne : ¬ d2 = d := fun y => z (hr.uniq (by omega) (by omega) hj2 hk he2 (by rw [y]; exact he))
    have z2 := h j d2 (by omega) hj2 he2
    have e1 : (_root_.Jvm.Pilot.@@N@@.kC K 10 d (some p)).2.2.1 10 d2 = K.2.2.1 10 d2 := kC_ne hne
    rw [e1]
    exact z2
end GN9
