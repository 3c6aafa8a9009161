def upL (ab : Nat → Int64) (k : Nat) (v : Int64) : Nat → Int64 := fun i => if i = k then v else ab i
/-- the bits above, by the Decls' numbers -/
def AbF (K : PK) (dr nd : Nat) (ab : Nat → Int64) : Prop := ∀ k : Nat, k < nd → ∀ d : Nat, K.2.2.2.2.1 dr k = some d → K.2.2.2.1 d = ab k
/-- a parent is a Decl above -/
def PaB (K : PK) (dr nd : Nat) (ab : Nat → Int64) : Prop := ∀ j : Nat, j < nd → ∀ d p : Nat, K.2.2.2.2.1 dr j = some d → K.2.2.1 10 d = some p → ∃ i : Nat, i < nd ∧ K.2.2.2.2.1 dr i = some p ∧ bitL (ab j) i
def PaU (K : PK) (dr nd k : Nat) : Prop := ∀ j : Nat, j < nd → k ≤ j → ∀ d : Nat, K.2.2.2.2.1 dr j = some d → K.2.2.1 10 d = none
def Bi0 (ab : Nat → Int64) (k : Nat) : Prop := ab 0 = 0 ∧ ∀ j b : Nat, 1 ≤ j → j < 7 → j < k → bitL (ab j) b → b = 0
/-- closed by way of those before m -/
def WCl (ab : Nat → Int64) (nd m : Nat) : Prop := ∀ j a b : Nat, j < m → a < nd → b < nd → bitL (ab a) j → bitL (ab j) b → bitL (ab a) b
/-- within a round -/
def WMd (ab ab2 : Nat → Int64) (nd m k : Nat) : Prop := ∀ a b : Nat, a < nd → b < nd → (bitL (ab2 a) b ↔ bitL (ab a) b ∨ (a < k ∧ bitL (ab a) m ∧ bitL (ab m) b))
section LK
variable {G : pT} {K K1 : PK} {g : Nat → Nat → Nat} {q d p o ax pq dr ml nd nm cp s k m j i : Nat} {it : Nat → Nat} {ab ab2 ab0 : Nat → Int64} {v y : Int64}
theorem upL_eq : upL ab k v k = v := if_pos rfl
theorem upL_ne (h : ¬ i = k) : upL ab k v i = ab i := if_neg h
theorem kL_eq : (kL K q v).2.2.2.1 q = v := if_pos rfl
theorem kL_ne (h : ¬ p = q) : (kL K q v).2.2.2.1 p = K.2.2.2.1 p := if_neg h
theorem DcR.uniq (h : DcR K g dr nd) (hk9 : k < 2 ^ 31) (hj9 : j < 2 ^ 31) (hk : k < nd) (hj : j < nd) (e1 : K.2.2.2.2.1 dr k = some d) (e2 : K.2.2.2.2.1 dr j = some d) : k = j := by
  obtain ⟨d1, a1, _, a3, _⟩ := h k hk
  obtain ⟨d2, b1, _, b3, _⟩ := h j hj
  rw [e1] at a1; cases a1
  rw [e2] at b1; cases b1
  exact (nI_eq (a := k) (b := j) hk9 hj9).mp (a3.symm.trans b3)
theorem WPr.kL (h : WPr G K g) (hq : ¬ g 5 q = 2) : WPr G (kL K q v) g := by
  obtain ⟨w1, w2, w3, w4⟩ := h
  refine ⟨w1, w2, fun p hp => ?_, w4⟩
  obtain ⟨z1, z2, z3, z4, z5, z6, z7⟩ := w3 p hp
  refine ⟨z1, z2, z3, z4, z5, z6, fun hg => ?_⟩
  have hn : ¬ p = q := fun z => hq (by rw [← z]; exact hg)
  exact ⟨(kL_ne hn).trans (z7 hg).1, (z7 hg).2⟩
theorem PgT.kL (h : PgT G K g ax pq dr ml nd nm cp it s) : PgT G (kL K q v) g ax pq dr ml nd nm cp it s := h
theorem WPr.par {w : Option Nat} (h : WPr G K g) (hq : ¬ g 5 q = 2) (hd : ∀ d : Nat, w = some d → K.1 d = 4) : WPr G (kC K 10 q w) g := by
  obtain ⟨w1, w2, w3, w4⟩ := h
  have c : ∀ f p : Nat, ¬ f = 10 → (kC K 10 q w).2.2.1 f p = K.2.2.1 f p := fun f p hf => kC_of hf
  refine ⟨fun p hp hl => ?_, fun p hp => ?_, fun p hp => ?_, fun p hp => ?_⟩
  · obtain ⟨a1, a2, a3, a4, a5⟩ := w1 p hp hl
    refine ⟨Shp.of (fun f hf => c f p (by omega)) a1, fun f y hf hy => ?_, fun y hy => ?_, a4, a5⟩
    · rw [c f p (by omega)] at hy; exact a2 f y hf hy
    · rw [c 4 p (by omega)] at hy; exact a3 y hy
  · obtain ⟨n, it, cap, ⟨b1, b2, b3, b4⟩, h2⟩ := w2 p hp
    refine ⟨n, it, cap, ⟨b1, b2, b3, ?_⟩, h2⟩
    rw [c 13 p (by decide)]
    rcases b4 with z | ⟨e9, a1, a2, a3, z⟩
    · exact Or.inl z
    · exact Or.inr ⟨e9, a1, a2, (c 17 e9 (by decide)).trans a3, z⟩
  · obtain ⟨z1, z2, z3, z4, z5, z6, z7⟩ := w3 p hp
    unfold DcO
    rw [c 8 p (by decide), c 9 p (by decide), c 11 p (by decide), c 12 p (by decide)]
    by_cases e : p = q
    · subst e
      refine ⟨z1, z2, z3, z4, fun d hd9 => ?_, z6, fun hg => absurd hg hq⟩
      rw [kC_eq] at hd9
      exact hd d hd9
    · rw [kC_ne e]
      exact ⟨z1, z2, z3, z4, z5, z6, z7⟩
  · obtain ⟨z1, z2, z3⟩ := w4 p hp
    unfold MtO
    rw [c 6 p (by decide), c 5 p (by decide), c 7 p (by decide)]
    exact ⟨z1, z2, z3⟩
theorem AbF.kL (h : AbF K dr nd ab) (hr : DcR K g dr nd) (hnd : nd ≤ 37) (hk : k < nd) (he : K.2.2.2.2.1 dr k = some d) : AbF (_root_.Jvm.Pilot.@@N@@.kL K d v) dr nd (upL ab k v) := fun j hj e hje => by
  by_cases z : j = k
  · subst z
    rw [show K.2.2.2.2.1 dr j = some e from hje] at he; cases he
    rw [upL_eq]; exact kL_eq
  · rw [upL_ne z, kL_ne (fun w => z (hr.uniq (by omega) (by omega) hj hk hje (by rw [w]; exact he)))]
    exact h j hj e hje
theorem AbF.kC {w : Option Nat} (h : AbF K dr nd ab) : AbF (_root_.Jvm.Pilot.@@N@@.kC K 10 q w) dr nd ab := h
/-- a bit more, or all new where there is no parent -/
theorem PaB.or (h : PaB K dr nd ab) (hv : (∀ b : Nat, bitL (ab k) b → bitL v b) ∨ ∀ d : Nat, K.2.2.2.2.1 dr k = some d → K.2.2.1 10 d = none) : PaB (kL K q v) dr nd (upL ab k v) := fun j hj d p he hp => by
  obtain ⟨i, i1, i2, i3⟩ := h j hj d p he hp
  refine ⟨i, i1, i2, ?_⟩
  by_cases z : j = k
  · subst z
    rw [upL_eq]
    rcases hv with w | w
    · exact w i i3
    · have hp2 : K.2.2.1 10 d = some p := hp
      rw [w d he] at hp2; cases hp2
  · rw [upL_ne z]; exact i3
/-- the parent is written, its bit stands -/
theorem PaB.par (h : PaB K dr nd ab) (hr : DcR K g dr nd) (hnd : nd ≤ 37) (hk : k < nd) (he : K.2.2.2.2.1 dr k = some d) (hi : i < nd) (hp : K.2.2.2.2.1 dr i = some p) (hb : bitL v i) : PaB (_root_.Jvm.Pilot.@@N@@.kL (_root_.Jvm.Pilot.@@N@@.kC K 10 d (some p)) d v) dr nd (upL ab k v) := fun j hj e p9 he9 hp9 => by
  by_cases z : j = k
  · subst z
    rw [show K.2.2.2.2.1 dr j = some e from he9] at he; cases he
    have hp8 : (_root_.Jvm.Pilot.@@N@@.kC K 10 d (some p)).2.2.1 10 d = some p9 := hp9
    rw [kC_eq] at hp8; cases hp8
    exact ⟨i, hi, hp, by rw [upL_eq]; exact hb⟩
  · have hne : ¬ e = d := fun w => z (hr.uniq (by omega) (by omega) hj hk he9 (by rw [w]; exact he))
    have hp8 : (_root_.Jvm.Pilot.@@N@@.kC K 10 d (some p)).2.2.1 10 e = some p9 := hp9
    rw [kC_ne hne] at hp8
    obtain ⟨i', i1, i2, i3⟩ := h j hj e p9 he9 hp8
    exact ⟨i', i1, i2, by rw [upL_ne z]; exact i3⟩
theorem PaB.nul (h : PaB K dr nd ab) : PaB (_root_.Jvm.Pilot.@@N@@.kC K 10 d none) dr nd ab := fun j hj e p9 he9 hp9 => by
  by_cases z : e = d
  · rw [z, show (_root_.Jvm.Pilot.@@N@@.kC K 10 d none).2.2.1 10 d = none from kC_eq] at hp9; cases hp9
  · rw [show (_root_.Jvm.Pilot.@@N@@.kC K 10 d none).2.2.1 10 e = K.2.2.1 10 e from kC_ne z] at hp9
    exact h j hj e p9 he9 hp9
theorem PaU.kL (h : PaU K dr nd k) : PaU (_root_.Jvm.Pilot.@@N@@.kL K q v) dr nd k := h
theorem PaU.kC {w : Option Nat} (h : PaU K dr nd k) (hr : DcR K g dr nd) (hnd : nd ≤ 37) (hk : k < nd) (he : K.2.2.2.2.1 dr k = some d) : PaU (_root_.Jvm.Pilot.@@N@@.kC K 10 d w) dr nd (k + 1) := fun j hj hkj e he9 => by
  have hne : ¬ e = d := fun z => by have w9 := hr.uniq (by omega) (by omega) hj hk he9 (by rw [z]; exact he); omega
  rw [show (_root_.Jvm.Pilot.@@N@@.kC K 10 d w).2.2.1 10 e = K.2.2.1 10 e from kC_ne hne]
  exact h j hj (by omega) e he9
theorem PaU.up (h : PaU K dr nd k) : PaU K dr nd (k + 1) := fun j hj hkj => h j hj (by omega)
theorem Bi0.up (h : Bi0 ab k) (hk : 1 ≤ k) (hv : k < 7 → ∀ b : Nat, bitL v b → b = 0) : Bi0 (upL ab k v) (k + 1) := ⟨(upL_ne (by omega)).trans h.1, fun j b h1 h2 h3 hb => by
  by_cases z : j = k
  · subst z; rw [upL_eq] at hb; exact hv h2 b hb
  · rw [upL_ne z] at hb
    exact h.2 j b h1 h2 (by omega) hb⟩
theorem Bi0.or (h : Bi0 ab k) (hj : 7 ≤ j) : Bi0 (upL ab j v) k := ⟨(upL_ne (by omega)).trans h.1, fun i b h1 h2 h3 hb => by
  rw [upL_ne (by omega)] at hb
  exact h.2 i b h1 h2 h3 hb⟩
theorem WMd.start : WMd ab ab nd m 0 := fun a b _ _ => ⟨Or.inl, fun z => z.elim id (fun z => absurd z.1 (by omega))⟩
theorem WMd.line (h : WMd ab ab2 nd m k) (hm : m < nd) {b : Nat} (hb : b < nd) : bitL (ab2 m) b ↔ bitL (ab m) b := by
  rw [h m b hm hb]
  exact ⟨fun z => z.elim id (fun z => z.2.2), Or.inl⟩
theorem WMd.col (h : WMd ab ab2 nd m k) (hm : m < nd) (hk : k < nd) : bitL (ab2 k) m ↔ bitL (ab k) m := by
  rw [h k m hk hm]
  exact ⟨fun z => z.elim id (fun z => absurd z.1 (by omega)), Or.inl⟩
theorem WMd.hit (h : WMd ab ab2 nd m k) (hm : m < nd) (hk : k < nd) (h1 : bitL (ab2 k) m) : WMd ab (upL ab2 k (ab2 k ||| ab2 m)) nd m (k + 1) := fun a b ha hb => by
  have h0 := (h.col hm hk).mp h1
  by_cases z : a = k
  · subst z
    rw [upL_eq, bitL_or, h.line hm hb, h a b ha hb]
    constructor
    · rintro ((w | w) | w)
      · exact Or.inl w
      · exact absurd w.1 (by omega)
      · exact Or.inr ⟨by omega, h0, w⟩
    · rintro (w | w)
      · exact Or.inl (Or.inl w)
      · exact Or.inr w.2.2
  · rw [upL_ne z, h a b ha hb]
    constructor
    · rintro (w | w)
      · exact Or.inl w
      · exact Or.inr ⟨by omega, w.2⟩
    · rintro (w | w)
      · exact Or.inl w
      · exact Or.inr ⟨by omega, w.2⟩
theorem WMd.miss (h : WMd ab ab2 nd m k) (hm : m < nd) (hk : k < nd) (h1 : ¬ bitL (ab2 k) m) : WMd ab ab2 nd m (k + 1) := fun a b ha hb => by
  rw [h a b ha hb]
  constructor
  · rintro (w | w)
    · exact Or.inl w
    · exact Or.inr ⟨by omega, w.2⟩
  · rintro (w | w)
    · exact Or.inl w
    · by_cases z : a = k
      · subst z; exact absurd ((h.col hm hk).mpr w.2.1) h1
      · exact Or.inr ⟨by omega, w.2⟩
theorem WCl.step (h : WCl ab nd m) (g9 : WMd ab ab2 nd m nd) (hm : m < nd) : WCl ab2 nd (m + 1) := fun j p q hj hp hq z1 z2 => by
  have G9 : ∀ x y : Nat, x < nd → y < nd → (bitL (ab2 x) y ↔ bitL (ab x) y ∨ (bitL (ab x) m ∧ bitL (ab m) y)) := fun x y hx hy => by
    rw [g9 x y hx hy]
    exact ⟨fun z => z.imp id (fun z => z.2), fun z => z.imp id (fun z => ⟨hx, z⟩)⟩
  have hj' : j < nd := by omega
  rw [G9 p q hp hq]
  rw [G9 p j hp hj'] at z1
  rw [G9 j q hj' hq] at z2
  by_cases e : j = m
  · subst e
    have y1 : bitL (ab p) j := z1.elim id (fun z => z.1)
    have y2 : bitL (ab j) q := z2.elim id (fun z => z.2)
    exact Or.inr ⟨y1, y2⟩
  · have jk : j < m := by omega
    rcases z1 with z1 | ⟨z1, z1'⟩
    · rcases z2 with z2 | ⟨z2, z2'⟩
      · exact Or.inl (h j p q jk hp hq z1 z2)
      · exact Or.inr ⟨h j p m jk hp hm z1 z2, z2'⟩
    · rcases z2 with z2 | ⟨z2, z2'⟩
      · exact Or.inr ⟨z1, h j m q jk hm hq z1' z2⟩
      · exact Or.inr ⟨z1, z2'⟩
theorem Bi0.hit (h : Bi0 ab2 7) (hm : m < 64) (hk : bitL (ab2 k) m) : Bi0 (upL ab2 k (ab2 k ||| ab2 m)) 7 := by
  have hk0 : ¬ k = 0 := fun z => by rw [z, h.1] at hk; exact bitL_zero hk
  refine ⟨(upL_ne (by omega)).trans h.1, fun j b h1 h2 h3 hb => ?_⟩
  by_cases z : j = k
  · subst z
    rw [upL_eq, bitL_or] at hb
    rcases hb with w | w
    · exact h.2 j b h1 h2 h3 w
    · rw [h.2 j m h1 h2 h3 hk, h.1] at w
      exact absurd w bitL_zero
  · rw [upL_ne z] at hb
    exact h.2 j b h1 h2 h3 hb
/-- how many bits -/
def cntB (x : Int64) : Nat → Nat
  | 0 => 0
  | n + 1 => cntB x n + (if x.toBitVec.getLsbD n = true then 1 else 0)
theorem cntB_le {x : Int64} : ∀ n : Nat, cntB x n ≤ n := by
  intro n
  induction n with
  | zero => exact Nat.le_refl _
  | succ n ih =>
    show cntB x n + (if x.toBitVec.getLsbD n = true then 1 else 0) ≤ n + 1
    split <;> omega
theorem cntB_mono {x y : Int64} : ∀ n : Nat, (∀ b : Nat, b < n → bitL x b → bitL y b) → cntB x n ≤ cntB y n := by
  intro n
  induction n with
  | zero => intro _; exact Nat.le_refl _
  | succ n ih =>
    intro h
    have a := ih (fun b hb => h b (by omega))
    show cntB x n + (if x.toBitVec.getLsbD n = true then 1 else 0) ≤ cntB y n + (if y.toBitVec.getLsbD n = true then 1 else 0)
    by_cases e : x.toBitVec.getLsbD n = true
    · have e2 : y.toBitVec.getLsbD n = true := h n (by omega) e
      rw [if_pos e, if_pos e2]; omega
    · rw [if_neg e]; omega
theorem cntB_lt {x y : Int64} {z : Nat} : ∀ n : Nat, (∀ b : Nat, b < n → bitL x b → bitL y b) → z < n → bitL y z → ¬ bitL x z → cntB x n < cntB y n := by
  intro n
  induction n with
  | zero => intro _ h; omega
  | succ n ih =>
    intro h hz h1 h2
    show cntB x n + (if x.toBitVec.getLsbD n = true then 1 else 0) < cntB y n + (if y.toBitVec.getLsbD n = true then 1 else 0)
    by_cases e : z = n
    · subst e
      have a := cntB_mono (x := x) (y := y) z (fun b hb => h b (by omega))
      have e1 : y.toBitVec.getLsbD z = true := h1
      have e2 : ¬ x.toBitVec.getLsbD z = true := h2
      rw [if_neg e2, if_pos e1]; omega
    · have a := ih (fun b hb => h b (by omega)) (by omega) h1 h2
      by_cases w : x.toBitVec.getLsbD n = true
      · have e2 : y.toBitVec.getLsbD n = true := h n (by omega) w
        rw [if_pos w, if_pos e2]; omega
      · rw [if_neg w]; omega
/-- parents are lower, where nobody stands above himself -/
theorem RkO.mk (ha : AbF K dr nd ab) (hp : PaB K dr nd ab) (hw : WCl ab nd nd) (hb : Bi0 ab 7) (hA : DcA K dr nd) (hr : DcR K g dr nd) (hnd : nd ≤ 37) (hn : ∀ k : Nat, 7 ≤ k → k < nd → ¬ bitL (ab k) k) : RkO K (fun q => cntB (K.2.2.2.1 q) nd) := fun q d hq hd => by
  obtain ⟨k, hk, ek⟩ := hA q hq
  obtain ⟨i, hi, ei, hbi⟩ := hp k hk q d ek hd
  obtain ⟨d', f1, f2, _⟩ := hr i hi
  rw [ei] at f1; cases f1
  have hlq : K.2.2.2.1 q = ab k := ha k hk q ek
  have hld : K.2.2.2.1 d = ab i := ha i hi d ei
  have hir : ¬ bitL (ab i) i := by
    by_cases z : 7 ≤ i
    · exact hn i z hi
    · intro w
      by_cases z0 : i = 0
      · rw [z0, hb.1] at w; exact bitL_zero w
      · exact z0 (hb.2 i i (by omega) (by omega) (by omega) w)
  refine ⟨f2, ?_, ?_⟩
  · show cntB (K.2.2.2.1 d) nd < cntB (K.2.2.2.1 q) nd
    rw [hlq, hld]
    exact cntB_lt (z := i) nd (fun b hb9 h9 => hw i k b hi hk hb9 hbi h9) hi hbi hir
  · exact Nat.le_trans (cntB_le nd) (by omega)
end LK
