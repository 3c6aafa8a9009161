/-! what the reference's parser leaves beside the tree: declarations, fields, methods, parameters -/
def cnt (dc fd md pr r : Nat) : Nat := if r ≤ 30 then dc else if r ≤ 35 then fd else if r ≤ 44 then md else pr
def DecOK (X : Nat → Nat → Int32) (T nm ls dc : Nat) : Prop := ∀ d : Nat, d < dc → (7 ≤ d → ∃ t : Nat, X 25 d = nI t ∧ t ≤ T) ∧ (∃ v : Nat, X 24 d = nI v ∧ v < nm) ∧ (X 26 d = 0 ∨ X 26 d = 1) ∧ (X 27 d = -1 ∨ ∃ p : Nat, X 27 d = nI p ∧ p < ls) ∧ (X 28 d = -1 ∨ ∃ p : Nat, X 28 d = nI p ∧ p < ls) ∧ (d < 7 → X 26 d = 0 ∧ X 27 d = -1 ∧ X 28 d = -1)
def FldOK (X : Nat → Nat → Int32) (T wr dc fd : Nat) : Prop := ∀ f : Nat, f < fd → (∃ d : Nat, X 32 f = nI d ∧ 7 ≤ d ∧ d < dc) ∧ (∃ t : Nat, X 34 f = nI t ∧ t ≤ T) ∧ (∃ y : Nat, X 35 f = nI y ∧ y < wr)
def MetOK (X : Nat → Nat → Int32) (T nm wr dc md pr bk : Nat) : Prop := ∀ m : Nat, m < md → ∃ d : Nat, X 36 m = nI d ∧ 7 ≤ d ∧ d < dc ∧ (∃ v : Nat, X 37 m = nI v ∧ v < nm) ∧ (∃ t : Nat, X 38 m = nI t ∧ t ≤ T) ∧ (X 39 m = -1 ∨ ∃ y : Nat, X 39 m = nI y ∧ y < wr) ∧ (∃ p q : Nat, X 40 m = nI p ∧ X 41 m = nI q ∧ p + q ≤ pr ∧ q ≤ 8) ∧ ((X 42 m = -1 ∧ X 44 m = -1 ∧ X 26 d = 1) ∨ ∃ b t j : Nat, (X 42 m = nI b ∧ b < 20000) ∧ X 43 m = nI t ∧ t ≤ T ∧ X 44 m = nI j ∧ j < bk ∧ X 26 d = 0)
def ParOK (X : Nat → Nat → Int32) (T wr pr : Nat) : Prop := ∀ p : Nat, p < pr → (∃ t : Nat, X 46 p = nI t ∧ t ≤ T) ∧ (∃ y : Nat, X 47 p = nI y ∧ y < wr)
def PS (T nm wr ls dc fd md pr bk : Nat) (X : Nat → Nat → Int32) : Prop := DecOK X T nm ls dc ∧ FldOK X T wr dc fd ∧ MetOK X T nm wr dc md pr bk ∧ ParOK X T wr pr ∧ (∀ j : Nat, j < bk → ∃ m : Nat, m < md ∧ X 44 m = nI j) ∧ ∀ f : Nat, f < fd → ∃ d : Nat, X 32 f = nI d ∧ d < dc ∧ X 26 d = 0
section PSS
variable {T nm wr wr' ls ls' dc fd md pr bk : Nat} {X Y : Nat → Nat → Int32} {K : Nat → Int32}
theorem PS.same (h : PS T nm wr ls dc fd md pr bk X) (hw : wr ≤ wr') (hl : ls ≤ ls') (hX : ∀ r i : Nat, 24 ≤ r → r ≤ 47 → i < cnt dc fd md pr r → Y r i = X r i) : PS T nm wr' ls' dc fd md pr bk Y := by
  obtain ⟨a, b, c, d, e, e9⟩ := h
  have hd : ∀ r i, 24 ≤ r → r ≤ 30 → i < dc → Y r i = X r i := fun r i p q z => hX r i p (by omega) (by unfold cnt; rw [if_pos q]; exact z)
  have hf : ∀ r i, 31 ≤ r → r ≤ 35 → i < fd → Y r i = X r i := fun r i p q z => hX r i (by omega) (by omega) (by unfold cnt; rw [if_neg (by omega), if_pos q]; exact z)
  have hm : ∀ r i, 36 ≤ r → r ≤ 44 → i < md → Y r i = X r i := fun r i p q z => hX r i (by omega) (by omega) (by unfold cnt; rw [if_neg (by omega), if_neg (by omega), if_pos q]; exact z)
  have hp : ∀ r i, 45 ≤ r → r ≤ 47 → i < pr → Y r i = X r i := fun r i p q z => hX r i (by omega) q (by unfold cnt; rw [if_neg (by omega), if_neg (by omega), if_neg (by omega)]; exact z)
  refine ⟨fun i h2 => ?_, fun i h1 => ?_, fun i h1 => ?_, fun i h1 => ?_, fun j hj => ?_, fun f hf9 => ?_⟩
  · obtain ⟨z1, z2, z3, z4, z5, z6⟩ := a i h2
    rw [hd 25 i (by omega) (by omega) h2, hd 24 i (by omega) (by omega) h2, hd 26 i (by omega) (by omega) h2, hd 27 i (by omega) (by omega) h2, hd 28 i (by omega) (by omega) h2]
    exact ⟨z1, z2, z3, z4.imp id (fun ⟨p, p1, p2⟩ => ⟨p, p1, by omega⟩), z5.imp id (fun ⟨p, p1, p2⟩ => ⟨p, p1, by omega⟩), z6⟩
  · obtain ⟨z1, z2, ⟨y, y1, y2⟩⟩ := b i h1
    rw [hf 32 i (by omega) (by omega) h1, hf 34 i (by omega) (by omega) h1, hf 35 i (by omega) (by omega) h1]
    exact ⟨z1, z2, y, y1, by omega⟩
  · obtain ⟨x, x1, x2, x3, z1, z2, z3, z4, z5⟩ := c i h1
    rw [hm 36 i (by omega) (by omega) h1, hm 37 i (by omega) (by omega) h1, hm 38 i (by omega) (by omega) h1, hm 39 i (by omega) (by omega) h1, hm 40 i (by omega) (by omega) h1, hm 41 i (by omega) (by omega) h1, hm 42 i (by omega) (by omega) h1, hm 43 i (by omega) (by omega) h1, hm 44 i (by omega) (by omega) h1]
    exact ⟨x, x1, x2, x3, z1, z2, z3.imp id (fun ⟨p, p1, p2⟩ => ⟨p, p1, by omega⟩), z4, by rw [hd 26 x (by omega) (by omega) x3]; exact z5⟩
  · obtain ⟨z1, ⟨y, y1, y2⟩⟩ := d i h1
    rw [hp 46 i (by omega) (by omega) h1, hp 47 i (by omega) (by omega) h1]
    exact ⟨z1, y, y1, by omega⟩
  · obtain ⟨m, m1, m2⟩ := e j hj
    exact ⟨m, m1, by rw [hm 44 m (by omega) (by omega) m1]; exact m2⟩
  · obtain ⟨x, z1, z2, z3⟩ := e9 f hf9
    exact ⟨x, by rw [hf 32 f (by omega) (by omega) hf9]; exact z1, z2, by rw [hd 26 x (by omega) (by omega) z2]; exact z3⟩
/-- one parameter more -/
theorem PS.par {t y : Nat} (h : PS T nm wr ls dc fd md pr bk X) (h1 : X 46 pr = nI t) (h2 : t ≤ T) (h3 : X 47 pr = nI y) (h4 : y < wr) : PS T nm wr ls dc fd md (pr + 1) bk X := by
  obtain ⟨a, b, c, d, e⟩ := h
  refine ⟨a, b, fun i hi => ?_, fun i hi => ?_, e⟩
  · obtain ⟨x, x1, x2, x3, z1, z2, z3, ⟨p, q, q1, q2, q3, q4⟩, z5⟩ := c i hi
    exact ⟨x, x1, x2, x3, z1, z2, z3, ⟨p, q, q1, q2, by omega, q4⟩, z5⟩
  · by_cases q : i = pr
    · subst q; exact ⟨⟨t, h1, h2⟩, y, h3, h4⟩
    · exact d i (by omega)
/-- one field more -/
theorem PS.fld {t y x : Nat} (h : PS T nm wr ls dc fd md pr bk X) (h0 : X 32 fd = nI x) (h5 : 7 ≤ x) (h6 : x < dc) (h1 : X 34 fd = nI t) (h2 : t ≤ T) (h3 : X 35 fd = nI y) (h4 : y < wr) (h7 : X 26 x = 0) : PS T nm wr ls dc (fd + 1) md pr bk X := by
  obtain ⟨a, b, c, d, e, e9⟩ := h
  refine ⟨a, fun i hi => ?_, c, d, e, fun i hi => ?_⟩
  · by_cases q : i = fd
    · subst q; exact ⟨⟨x, h0, h5, h6⟩, ⟨t, h1, h2⟩, y, h3, h4⟩
    · exact b i (by omega)
  · by_cases q : i = fd
    · subst q; exact ⟨x, h0, h6, h7⟩
    · exact e9 i (by omega)
/-- one method more: of an interface -/
theorem PS.metI {x v t p q : Nat} {ry : Int32} (h : PS T nm wr ls dc fd md pr bk X) (h0 : X 36 md = nI x) (h1 : 7 ≤ x) (h2 : x < dc) (h3 : X 37 md = nI v) (h4 : v < nm) (h5 : X 38 md = nI t) (h6 : t ≤ T) (h7 : X 39 md = ry) (h8 : ry = -1 ∨ ∃ y : Nat, ry = nI y ∧ y < wr) (h9 : X 40 md = nI p) (h10 : X 41 md = nI q) (h11 : p + q ≤ pr) (h12 : q ≤ 8) (h13 : X 42 md = -1) (h14 : X 44 md = -1) (h15 : X 26 x = 1) : PS T nm wr ls dc fd (md + 1) pr bk X := by
  obtain ⟨a, b, c, d, e, e9⟩ := h
  refine ⟨a, b, fun i hi => ?_, d, fun j hj => ?_, e9⟩
  · by_cases z : i = md
    · subst z; exact ⟨x, h0, h1, h2, ⟨v, h3, h4⟩, ⟨t, h5, h6⟩, by rw [h7]; exact h8, ⟨p, q, h9, h10, h11, h12⟩, Or.inl ⟨h13, h14, h15⟩⟩
    · exact c i (by omega)
  · obtain ⟨m, m1, m2⟩ := e j hj; exact ⟨m, by omega, m2⟩
/-- one method more: with a block -/
theorem PS.metB {x v t p q b u : Nat} {ry : Int32} (h : PS T nm wr ls dc fd md pr bk X) (h0 : X 36 md = nI x) (h1 : 7 ≤ x) (h2 : x < dc) (h3 : X 37 md = nI v) (h4 : v < nm) (h5 : X 38 md = nI t) (h6 : t ≤ T) (h7 : X 39 md = ry) (h8 : ry = -1 ∨ ∃ y : Nat, ry = nI y ∧ y < wr) (h9 : X 40 md = nI p) (h10 : X 41 md = nI q) (h11 : p + q ≤ pr) (h12 : q ≤ 8) (h13 : X 42 md = nI b) (h13' : b < 20000) (h14 : X 43 md = nI u) (h15 : u ≤ T) (h16 : X 44 md = nI bk) (h17 : X 26 x = 0) : PS T nm wr ls dc fd (md + 1) pr (bk + 1) X := by
  obtain ⟨a, b', c, d, e, e9⟩ := h
  refine ⟨a, b', fun i hi => ?_, d, fun j hj => ?_, e9⟩
  · by_cases z : i = md
    · subst z; exact ⟨x, h0, h1, h2, ⟨v, h3, h4⟩, ⟨t, h5, h6⟩, by rw [h7]; exact h8, ⟨p, q, h9, h10, h11, h12⟩, Or.inr ⟨b, u, bk, ⟨h13, h13'⟩, h14, h15, h16, by omega, h17⟩⟩
    · obtain ⟨x, x1, x2, x3, z1, z2, z3, z4, z5⟩ := c i (by omega)
      exact ⟨x, x1, x2, x3, z1, z2, z3, z4, z5.imp id (fun ⟨b, t, j, j1, j2, j3, j4, j5, j6⟩ => ⟨b, t, j, j1, j2, j3, j4, by omega, j6⟩)⟩
  · by_cases z : j = bk
    · subst z; exact ⟨md, by omega, h16⟩
    · obtain ⟨m, m1, m2⟩ := e j (by omega); exact ⟨m, by omega, m2⟩
/-- one declaration more -/
theorem PS.dec {t v : Nat} {xe xi bi : Int32} (h : PS T nm wr ls dc fd md pr bk X) (h7' : 7 ≤ dc) (h1 : X 25 dc = nI t) (h2 : t ≤ T) (h3 : X 24 dc = nI v) (h4 : v < nm) (h5 : X 26 dc = bi) (h6 : bi = 0 ∨ bi = 1) (h7 : X 27 dc = xe) (h8 : xe = -1 ∨ ∃ p : Nat, xe = nI p ∧ p < ls) (h9 : X 28 dc = xi) (h10 : xi = -1 ∨ ∃ p : Nat, xi = nI p ∧ p < ls) : PS T nm wr ls (dc + 1) fd md pr bk X := by
  obtain ⟨a, b, c, d, e, e9⟩ := h
  refine ⟨fun i l2 => ?_, fun i hi => ?_, fun i hi => ?_, d, e, fun f hf => ?_⟩
  · by_cases z : i = dc
    · subst z; exact ⟨fun _ => ⟨t, h1, h2⟩, ⟨v, h3, h4⟩, by rw [h5]; exact h6, by rw [h7]; exact h8, by rw [h9]; exact h10, fun q => absurd q (by omega)⟩
    · exact a i (by omega)
  · obtain ⟨⟨x, x1, x2, x3⟩, z⟩ := b i hi; exact ⟨⟨x, x1, x2, by omega⟩, z⟩
  · obtain ⟨x, x1, x2, x3, z⟩ := c i hi; exact ⟨x, x1, x2, by omega, z⟩
  · obtain ⟨x, z1, z2, z3⟩ := e9 f hf; exact ⟨x, z1, by omega, z3⟩
/-- the forest of all blocks -/
def FrM (K : Nat → Int32) (T wr : Nat) (X : Nat → Nat → Int32) (nd md : Nat) : Prop := ∃ gh : Nat → Nat → Nat, Fst K T wr X gh 0 nd 20000 ∧ (∀ m b : Nat, m < md → b < 20000 → X 42 m = nI b → b < nd ∧ gh 0 b = 160000 ∧ gh 1 b ≤ 361 ∧ X 9 b = 31 ∧ ∀ m2 : Nat, m2 < md → X 42 m2 = nI b → m2 = m) ∧ ∀ m : Nat, m < md → X 42 m = -1 ∨ ∃ b : Nat, b < nd ∧ X 42 m = nI b
theorem FrM.same {nd md : Nat} (h : FrM K T wr X nd md) (hw : wr ≤ wr') (hX : ∀ j i : Nat, 9 ≤ j → j ≤ 16 → i < nd → Y j i = X j i) (hm : ∀ i : Nat, i < md → Y 42 i = X 42 i) : FrM K T wr' Y nd md := by
  obtain ⟨gh, a, b, b9⟩ := h
  refine ⟨gh, Fst.same a hw (Nat.le_refl _) (Nat.le_refl _) (fun j i p q _ z => hX j i p q z) (fun _ _ _ _ => rfl), fun m x h1 h2 h3 => ?_, fun m h1 => by rw [hm m h1]; exact b9 m h1⟩
  rw [hm m h1] at h3
  obtain ⟨z1, z2, z3, z4, z5⟩ := b m x h1 h2 h3
  exact ⟨z1, z2, z3, by rw [hX 9 x (by omega) (by omega) z1]; exact z4, fun m2 q w => z5 m2 q (by rw [← hm m2 q]; exact w)⟩
theorem FrM.none {nd md : Nat} (h : FrM K T wr X nd md) (e : X 42 md = -1) : FrM K T wr X nd (md + 1) := by
  obtain ⟨gh, a, b, b9⟩ := h
  refine ⟨gh, a, fun m x h1 h2 h3 => ?_, fun m h1 => ?_⟩
  by_cases z : m = md
  · rw [z, e] at h3; exact absurd h3.symm (nI_m1 (by omega))
  · obtain ⟨z1, z2, z3, z4, z5⟩ := b m x (by omega) h2 h3
    refine ⟨z1, z2, z3, z4, fun m2 q w => ?_⟩
    by_cases y : m2 = md
    · rw [y, e] at w; exact absurd w.symm (nI_m1 (by omega))
    · exact z5 m2 (by omega) w
  · by_cases y : m = md
    · rw [y]; exact Or.inl e
    · exact b9 m (by omega)
theorem FrM.more {nd nd1 md b hb op : Nat} (h : FrM K T wr X nd md) (f : Frs K T wr X nd nd1 op [(b, hb)]) (h1 : nd ≤ nd1) (h2 : nd1 ≤ 20000) (h3 : nd1 ≤ op) (h4 : hb ≤ 361) (h5 : X 42 md = nI b) (h6 : X 9 b = 31) : FrM K T wr X nd1 (md + 1) := by
  obtain ⟨g1, a1, a2, a9⟩ := h
  obtain ⟨g2, b1, b2⟩ := f
  obtain ⟨c1, c2, c3, c4⟩ := b2 (b, hb) (by simp)
  simp only at c1 c2 c3 c4
  refine ⟨fun j i => if i < nd then g1 j i else g2 j i, Fst.join a1 b1 (by omega) h1 h3, fun m x e1 e2 e3 => ?_, fun m e1 => ?_⟩
  by_cases z : m = md
  · rw [z, h5] at e3
    have : b = x := (nI_eq (by omega) (by omega)).mp e3
    subst this
    have q : ¬ b < nd := by omega
    simp only [if_neg q]
    refine ⟨c2, c3, by omega, h6, fun m2 q2 w => ?_⟩
    by_cases y : m2 = md
    · rw [y, z]
    · have := (a2 m2 b (by omega) e2 w).1; omega
  · obtain ⟨y1, y2, y3, y4, y5⟩ := a2 m x (by omega) e2 e3
    simp only [if_pos y1]
    refine ⟨by omega, y2, y3, y4, fun m2 q2 w => ?_⟩
    by_cases y : m2 = md
    · rw [y, h5] at w
      have : b = x := (nI_eq (by omega) (by omega)).mp w
      omega
    · exact y5 m2 (by omega) w
  · by_cases y : m = md
    · rw [y]; exact Or.inr ⟨b, c2, h5⟩
    · exact (a9 m (by omega)).imp id (fun ⟨x, z1, z2⟩ => ⟨x, by omega, z2⟩)
/-- what the parser never writes; m = 0: declarations and lists of names stay too -/
def Kq (m : Nat) (B X : Nat → Nat → Int32) : Prop := ∀ j : Nat, (j < 9 ∨ (22 ≤ j ∧ j ≤ 29 ∧ m = 0) ∨ 48 ≤ j) → X j = B j
variable {B : Nat → Nat → Int32} {mq : Nat}
theorem Kq.rfl : Kq mq B B := fun _ _ => Eq.refl _
theorem Kq.st {r m : Nat} {v : Int32} (a : Kq mq B X) (hr : 9 ≤ r ∧ r ≤ 47 ∧ (mq = 0 → ¬ (22 ≤ r ∧ r ≤ 29))) : Kq mq B (stR X r m v) := fun j h => by unfold stR updA; rw [if_neg (by omega)]; exact a j h
theorem Kq.row {r : Nat} {f : Nat → Int32} (a : Kq mq B X) (hr : 9 ≤ r ∧ r ≤ 47 ∧ (mq = 0 → ¬ (22 ≤ r ∧ r ≤ 29))) : Kq mq B (updA X r f) := fun j h => by unfold updA; rw [if_neg (by omega)]; exact a j h
theorem Kq.kp (a : Kq mq B X) (b : Kp X Y wr T) : Kq mq B Y := fun j h => (b.1 j (by omega)).trans (a j h)
theorem Kq.trans {m2 : Nat} (a : Kq mq B X) (b : Kq m2 X Y) (h : m2 ≤ mq) : Kq mq B Y := fun j h => (b j (by omega)).trans (a j h)
/-- a class names one class above it at most -/
def Sng (X : Nat → Nat → Int32) (dc ls : Nat) : Prop := ∀ d : Nat, d < dc → X 26 d = 0 → X 27 d = -1 ∨ ∃ p : Nat, X 27 d = nI p ∧ p < ls ∧ X 23 p = -1
theorem Sng.same (h : Sng X dc ls) (hl : ls ≤ ls') (h1 : ∀ i : Nat, i < dc → Y 26 i = X 26 i) (h2 : ∀ i : Nat, i < dc → Y 27 i = X 27 i) (h3 : ∀ i : Nat, i < ls → Y 23 i = X 23 i) : Sng Y dc ls' := fun d hd e => by
  rw [h2 d hd]
  rw [h1 d hd] at e
  exact (h d hd e).imp id (fun ⟨p, a, b, c⟩ => ⟨p, a, by omega, by rw [h3 p b]; exact c⟩)
theorem Sng.dec {xe bi : Int32} (h : Sng X dc ls) (h1 : X 26 dc = bi) (h2 : X 27 dc = xe) (h3 : bi = 0 → xe = -1 ∨ ∃ p : Nat, xe = nI p ∧ p < ls ∧ X 23 p = -1) : Sng X (dc + 1) ls := fun d hd e => by
  by_cases z : d = dc
  · subst z; rw [h2]; exact h3 (h1.symm.trans e)
  · exact h d (by omega) e
end PSS
def srt (k : Int32) : Bool := k == 323 || k == 311 || k == 1
theorem srt_f {k : Int32} (h1 : ¬ k = 323) (h2 : ¬ k = 311) (h3 : ¬ k = 1) : srt k = false := by
  unfold srt
  simp [h1, h2, h3]
/-- names' numbers -/
def NamOK (K V : Nat → Int32) (T nm : Nat) : Prop := ∀ i : Nat, i ≤ T → K i = 1 → ∃ v : Nat, v < nm ∧ V i = nI v
theorem OrY.mono {y : Int32} {wr wr' : Nat} (h : OrY y wr) (e : wr ≤ wr') : OrY y wr' := h.imp id (fun ⟨q, a, b⟩ => ⟨q, a, by omega⟩)
theorem kcl_10 {k : Int32} (h : kcl 10 k = true) : k = 31 := by simpa [kcl] using h
theorem upd_ne {f : Nat → Int32} {k i : Nat} {x : Int32} (h : i ≠ k) : upd f k x i = f i := if_neg h
theorem RS_loc (l : Launch) (G : pT) (n : Nat) : Plocal l G n := fun h0 a F B at0 T ne nd wr lk K fi hat hT hK hne hnd hwr hlk hy hn hfi => RT_local l G h0 a F B at0 T n ne nd wr lk K fi hat hT hK hne hnd hwr hlk hy hn hfi (RE_all l G n).1
theorem RS_s0 (l : Launch) (G : pT) (n : Nat) : Psimple0 l G n := fun h0 a F B at0 T ne nd wr lk K hat hT hK hne hnd hwr hlk hy hn => RT_simple0 l G h0 a F B at0 T n ne nd wr lk K hat hT hK hne hnd hwr hlk hy hn (RE_all l G n).1 (RE_all l G n).2.2
theorem RS_s1 (l : Launch) (G : pT) (n : Nat) : Psimple1 l G n := fun h0 a F B at0 T ne nd wr lk K hat hT hK hne hnd hwr hlk hy hn => RT_simple1 l G h0 a F B at0 T n ne nd wr lk K hat hT hK hne hnd hwr hlk hy hn (RE_all l G n).1 (RE_all l G n).2.2
theorem RS_blk (l : Launch) (G : pT) (n : Nat) (hSt : Pstatement l G n) : Pblock l G n := by
  have hp : Ppart l G n := fun h0 a F B at0 T ne nd wr lk K hat hT hK hne hnd hwr hlk hy hn => RT_part l G h0 a F B at0 T n ne nd wr lk K hat hT hK hne hnd hwr hlk hy hn hSt (RS_loc l G (n - 1))
  exact fun h0 a F B at0 T ne nd wr lk K hat hT hK hne hnd hwr hlk hy hn => RT_block l G h0 a F B at0 T n ne nd wr lk K hat hT hK hne hnd hwr hlk hy hn hp
theorem RS_of (l : Launch) (G : pT) (n : Nat) (hSt : Pstatement l G n) : PstatementOf l G n := by
  have hBk := RS_blk l G n hSt
  have hTr : Pattempt l G n := fun h0 a F B at0 T ne nd wr lk K hat hT hK hne hnd hwr hlk hy hn hlt => RT_attempt l G h0 a F B at0 T n ne nd wr lk K hat hT hK hne hnd hwr hlk hy hn hlt hBk
  have hLo : Ploop l G n := fun h0 a F B at0 T ne nd wr lk K hat hT hK hne hnd hwr hlk hy hn hlt => RT_loop l G h0 a F B at0 T n ne nd wr lk K hat hT hK hne hnd hwr hlk hy hn hlt (RE_all l G n).1 hSt (RS_s0 l G n) (RS_s1 l G n)
  exact fun h0 a F B at0 T ne nd wr lk K hat hT hK hne hnd hwr hlk hy hn => RT_statementOf l G h0 a F B at0 T n ne nd wr lk K hat hT hK hne hnd hwr hlk hy hn (RE_all l G n).1 hSt (RS_s1 l G n) hBk hLo hTr
theorem RS_all (l : Launch) (G : pT) : ∀ n : Nat, Pstatement l G n := by
  intro n
  induction n with
  | zero => exact fun h0 a F B at0 T ne nd wr lk K hat hT hK hne hnd hwr hlk hy hn => absurd hn (by omega)
  | succ n ih =>
    have hO : PstatementOf l G (n + 1 - 1) := RS_of l G n ih
    exact fun h0 a F B at0 T ne nd wr lk K hat hT hK hne hnd hwr hlk hy hn => RT_statement l G h0 a F B at0 T (n + 1) ne nd wr lk K hat hT hK hne hnd hwr hlk hy hn hO
theorem RB_all (l : Launch) (G : pT) (n : Nat) : Pblock l G n := RS_blk l G n (RS_all l G n)
set_option maxHeartbeats 2000000 in
set_option maxRecDepth 100000 in
/-- isSort() -/
theorem R_isSortN (l : Launch) (G : pT) (h0 : Nat) (a : Nat → Nat) (F : Nat → Int32) (B : Nat → Nat → Int32) (at0 : Nat) (T : Nat) (fa : Nat) (K : Nat → Int32) (hat : at0 ≤ T) (hT : T ≤ 5000) (hK : K T = 0 ∨ K T = 3) (hfa : fa ≤ 100) : PM l G pX0 yX12_isSort cX12_isSort 1 (some .boolean) ({ frames := 3, cells := 0, slots := 0, locals := 80 }) [.ref h0] (mW G h0 a (upd (upd F 15 (nI fa)) 64 (nI at0)) (updA B 2 K)) (fun (v : Option Value) (u : Nat) => v = some (.int (nI u)) ∧ (u ≤ 1) ∧ (at0 + u ≤ T) ∧ (If (u = 1) (srt (K at0) = true)) ∧ (If (u = 0) (srt (K at0) = false))) (fun u => (mW G h0 a (upd (upd F 15 (nI fa)) 64 (nI at0)) (updA B 2 K))) := by
  intro sz
  refine Met.ofW (cc := cX12_isSort) (maxL := 1) (ret := (some .boolean)) (by decide) rfl ?_
  intro p e s m args below meth c s₁ B9 hml hv
  obtain ⟨rfl, hsz, hP, hD0, hE, hX⟩ := hv
  have hx := B9.exec
  have hb := B9.bytes
  have hr := B9.returns
  have hts := atoms_spec (ws := Cond.code yX12_isSort cX12_isSort 1 (some .boolean) :: pw) B9.pre
  have hq : ∀ w ∈ pw, w.before _ s = true := fun w h => hts w (List.mem_cons_of_mem _ h)
  have hown : s.vm.findClass RX12 = some m.cls := findClass_of_methodNamed B9.named
  have hlocks := B9.notSynchronized
  subst hsz
  have hD := hD0.self (sz := s.heap.size)
  have hA : ∀ q : Nat, s.heap.size ≤ q → va_A (mW G h0 a (upd (upd F 15 (nI fa)) 64 (nI at0)) (updA B 2 K)) s.heap.size q := fun q h => Or.inr h
  have hP : va_P G.1 pCl (mW G h0 a (upd (upd F 15 (nI fa)) 64 (nI at0)) (updA B 2 K)) s.heap := hP
  generalize va_A (mW G h0 a (upd (upd F 15 (nI fa)) 64 (nI at0)) (updA B 2 K)) s.heap.size = A at hD hE hA ⊢
  have hS : va_S A s.heap s.heap [] := va_S.rf
  have hl := lv_entry ([.ref h0]) (n := 1) (Nat.le_of_ble_eq_true rfl)
  rw [lg_entry_eq]
  generalize (lg_sl ([.ref h0]) ++ List.replicate (1 - (lg_sl ([.ref h0])).length) Slot.unset).toArray = ls at hl ⊢
  have hl : lv_has ls 1 [(0, .ref h0)] := hl
  refine lv_aload_n hx hb dX12_isSort_0 rfl (lv_at hl 0 rfl) ?_
  have hP : va_P G.1 pCl (mW G h0 a (upd (upd (upd (upd F 15 (nI fa)) 64 (nI at0)) 15 (nI fa)) 64 (nI at0)) (updA (updA B 2 K) 2 K)) _ := mW_to (F := F) (l1 := [(15, (nI fa)), (64, (nI at0))]) (l2 := [(15, (nI fa)), (64, (nI at0)), (15, (nI fa)), (64, (nI at0))]) (V := [(nI fa), (nI at0), (nI fa), (nI at0), (nI fa), (nI at0)]) rfl rfl (show (updA B 2 K) = (updA (updA B 2 K) 2 K) from updsA_eq2 (F := B) (l1 := [(2, K)]) (l2 := [(2, K), (2, K)]) (V := [K, K, K]) rfl rfl) hP
  have hD : va_D A (mW G h0 a (upd (upd (upd (upd F 15 (nI fa)) 64 (nI at0)) 15 (nI fa)) 64 (nI at0)) (updA (updA B 2 K) 2 K)) := mW_D hD
  refine pc_V0 (G := G) (As := []) (rest := []) hx hb hml hown hq hE hX pX0_al hP hD hS hA hl.1 (R_kind l G h0 a (upd (upd F 15 (nI fa)) 64 (nI at0)) (updA B 2 K) at0 T fa K (by omega) (by omega) hK (by omega)) (gV pw_1626 pw_1627 pw_1628 pw_1523 pw_1591) hV_X12_kind 0 9 rfl rfl rfl rfl (Nat.le_of_ble_eq_true rfl) dX12_isSort_1 ⟨Nat.le_of_ble_eq_true rfl, Nat.le_of_ble_eq_true rfl⟩ ⟨Nat.le_of_ble_eq_true rfl, Nat.le_of_ble_eq_true rfl⟩ (fun v3 u1 H locs hw2 hP hD hS => ?_)
  obtain rfl : v3 = some (.int (K at0)) := hw2
  have hP : va_P G.1 pCl (mW G h0 a (upd (upd F 15 (nI fa)) 64 (nI at0)) (updA B 2 K)) _ := mW_to (F := F) (l1 := [(15, (nI fa)), (64, (nI at0)), (15, (nI fa)), (64, (nI at0))]) (l2 := [(15, (nI fa)), (64, (nI at0))]) (V := [(nI fa), (nI at0), (nI fa), (nI at0), (nI fa), (nI at0)]) rfl rfl (show (updA (updA B 2 K) 2 K) = (updA B 2 K) from updsA_eq2 (F := B) (l1 := [(2, K), (2, K)]) (l2 := [(2, K)]) (V := [K, K, K]) rfl rfl) hP
  have hD : va_D A (mW G h0 a (upd (upd F 15 (nI fa)) 64 (nI at0)) (updA B 2 K)) := mW_D hD
  refine W.widen (k := 0) (n := 0) (Nat.le_of_ble_eq_true rfl) (Nat.le_of_ble_eq_true rfl) ?_
  refine W.eq (g2 := F0 m 4 ls [.int (K at0)]) rfl ?_
  refine lv_sipush (v := 323) hx hb dX12_isSort_4 (by decide) ?_
  refine lv_icmp_eq (tgt := 28) hx hb dX12_isSort_7 (by decide) (fun c4 => ?_) (fun c4 => ?_)
  · have n5 : at0 < T := tk_lt hat hK c4 (by decide) (by decide)
    refine lv_iconst (v := 1) hx hb dX12_isSort_28 (by decide) ?_
    refine lv_goto (tgt := 33) hx hb dX12_isSort_29 (by decide) ?_
    have hz6 : 1 ≤ 1 := (by omega)
    have hz7 : at0 + 1 ≤ T := (by omega)
    have hz8 : If (1 = 1) (srt (K at0) = true) := (fun _ => by rw [c4]; decide)
    have hz9 : If (1 = 0) (srt (K at0) = false) := (fun e => absurd e (by decide))
    have hP : va_P G.1 pCl (mW G h0 a (upd (upd F 15 (nI fa)) 64 (nI at0)) (updA B 2 K)) _ := hP
    have hD : va_D A (mW G h0 a (upd (upd F 15 (nI fa)) 64 (nI at0)) (updA B 2 K)) := mW_D hD
    exact W.zret (v := 1) hx hb hr rfl (fun t9 ht9 hW9 => ⟨⟨_, 1, rfl, ⟨rfl, hz6, hz7, hz8, hz9⟩, by rw [ht9]; exact hP, hD⟩, hS.F ht9⟩) hS.2.2 dX12_isSort_33
  · refine lv_aload_n hx hb dX12_isSort_10 rfl (lv_at hl 0 rfl) ?_
    have hP : va_P G.1 pCl (mW G h0 a (upd (upd (upd (upd F 15 (nI fa)) 64 (nI at0)) 15 (nI fa)) 64 (nI at0)) (updA (updA B 2 K) 2 K)) _ := mW_to (F := F) (l1 := [(15, (nI fa)), (64, (nI at0))]) (l2 := [(15, (nI fa)), (64, (nI at0)), (15, (nI fa)), (64, (nI at0))]) (V := [(nI fa), (nI at0), (nI fa), (nI at0), (nI fa), (nI at0)]) rfl rfl (show (updA B 2 K) = (updA (updA B 2 K) 2 K) from updsA_eq2 (F := B) (l1 := [(2, K)]) (l2 := [(2, K), (2, K)]) (V := [K, K, K]) rfl rfl) hP
    have hD : va_D A (mW G h0 a (upd (upd (upd (upd F 15 (nI fa)) 64 (nI at0)) 15 (nI fa)) 64 (nI at0)) (updA (updA B 2 K) 2 K)) := mW_D hD
    refine pc_V0 (G := G) (As := []) (rest := []) hx hb hml hown hq hE hX pX0_al hP hD hS hA hl.1 (R_kind l G h0 a (upd (upd F 15 (nI fa)) 64 (nI at0)) (updA B 2 K) at0 T fa K (by omega) (by omega) hK (by omega)) (gV pw_1626 pw_1627 pw_1628 pw_1523 pw_1591) hV_X12_kind 0 9 rfl rfl rfl rfl (Nat.le_of_ble_eq_true rfl) dX12_isSort_11 ⟨Nat.le_of_ble_eq_true rfl, Nat.le_of_ble_eq_true rfl⟩ ⟨Nat.le_of_ble_eq_true rfl, Nat.le_of_ble_eq_true rfl⟩ (fun v12 u10 H locs hw11 hP hD hS => ?_)
    obtain rfl : v12 = some (.int (K at0)) := hw11
    have hP : va_P G.1 pCl (mW G h0 a (upd (upd F 15 (nI fa)) 64 (nI at0)) (updA B 2 K)) _ := mW_to (F := F) (l1 := [(15, (nI fa)), (64, (nI at0)), (15, (nI fa)), (64, (nI at0))]) (l2 := [(15, (nI fa)), (64, (nI at0))]) (V := [(nI fa), (nI at0), (nI fa), (nI at0), (nI fa), (nI at0)]) rfl rfl (show (updA (updA B 2 K) 2 K) = (updA B 2 K) from updsA_eq2 (F := B) (l1 := [(2, K), (2, K)]) (l2 := [(2, K)]) (V := [K, K, K]) rfl rfl) hP
    have hD : va_D A (mW G h0 a (upd (upd F 15 (nI fa)) 64 (nI at0)) (updA B 2 K)) := mW_D hD
    refine W.widen (k := 0) (n := 0) (Nat.le_of_ble_eq_true rfl) (Nat.le_of_ble_eq_true rfl) ?_
    refine W.eq (g2 := F0 m 14 ls [.int (K at0)]) rfl ?_
    refine lv_sipush (v := 311) hx hb dX12_isSort_14 (by decide) ?_
    refine lv_icmp_eq (tgt := 28) hx hb dX12_isSort_17 (by decide) (fun c13 => ?_) (fun c13 => ?_)
    · have n14 : at0 < T := tk_lt hat hK c13 (by decide) (by decide)
      refine lv_iconst (v := 1) hx hb dX12_isSort_28 (by decide) ?_
      refine lv_goto (tgt := 33) hx hb dX12_isSort_29 (by decide) ?_
      have hz15 : 1 ≤ 1 := (by omega)
      have hz16 : at0 + 1 ≤ T := (by omega)
      have hz17 : If (1 = 1) (srt (K at0) = true) := (fun _ => by rw [c13]; decide)
      have hz18 : If (1 = 0) (srt (K at0) = false) := (fun e => absurd e (by decide))
      have hP : va_P G.1 pCl (mW G h0 a (upd (upd F 15 (nI fa)) 64 (nI at0)) (updA B 2 K)) _ := hP
      have hD : va_D A (mW G h0 a (upd (upd F 15 (nI fa)) 64 (nI at0)) (updA B 2 K)) := mW_D hD
      exact W.zret (v := 1) hx hb hr rfl (fun t9 ht9 hW9 => ⟨⟨_, 1, rfl, ⟨rfl, hz15, hz16, hz17, hz18⟩, by rw [ht9]; exact hP, hD⟩, hS.F ht9⟩) hS.2.2 dX12_isSort_33
    · refine lv_aload_n hx hb dX12_isSort_20 rfl (lv_at hl 0 rfl) ?_
      have hP : va_P G.1 pCl (mW G h0 a (upd (upd (upd (upd F 15 (nI fa)) 64 (nI at0)) 15 (nI fa)) 64 (nI at0)) (updA (updA B 2 K) 2 K)) _ := mW_to (F := F) (l1 := [(15, (nI fa)), (64, (nI at0))]) (l2 := [(15, (nI fa)), (64, (nI at0)), (15, (nI fa)), (64, (nI at0))]) (V := [(nI fa), (nI at0), (nI fa), (nI at0), (nI fa), (nI at0)]) rfl rfl (show (updA B 2 K) = (updA (updA B 2 K) 2 K) from updsA_eq2 (F := B) (l1 := [(2, K)]) (l2 := [(2, K), (2, K)]) (V := [K, K, K]) rfl rfl) hP
      have hD : va_D A (mW G h0 a (upd (upd (upd (upd F 15 (nI fa)) 64 (nI at0)) 15 (nI fa)) 64 (nI at0)) (updA (updA B 2 K) 2 K)) := mW_D hD
      refine pc_V0 (G := G) (As := []) (rest := []) hx hb hml hown hq hE hX pX0_al hP hD hS hA hl.1 (R_kind l G h0 a (upd (upd F 15 (nI fa)) 64 (nI at0)) (updA B 2 K) at0 T fa K (by omega) (by omega) hK (by omega)) (gV pw_1626 pw_1627 pw_1628 pw_1523 pw_1591) hV_X12_kind 0 9 rfl rfl rfl rfl (Nat.le_of_ble_eq_true rfl) dX12_isSort_21 ⟨Nat.le_of_ble_eq_true rfl, Nat.le_of_ble_eq_true rfl⟩ ⟨Nat.le_of_ble_eq_true rfl, Nat.le_of_ble_eq_true rfl⟩ (fun v21 u19 H locs hw20 hP hD hS => ?_)
      obtain rfl : v21 = some (.int (K at0)) := hw20
      have hP : va_P G.1 pCl (mW G h0 a (upd (upd F 15 (nI fa)) 64 (nI at0)) (updA B 2 K)) _ := mW_to (F := F) (l1 := [(15, (nI fa)), (64, (nI at0)), (15, (nI fa)), (64, (nI at0))]) (l2 := [(15, (nI fa)), (64, (nI at0))]) (V := [(nI fa), (nI at0), (nI fa), (nI at0), (nI fa), (nI at0)]) rfl rfl (show (updA (updA B 2 K) 2 K) = (updA B 2 K) from updsA_eq2 (F := B) (l1 := [(2, K), (2, K)]) (l2 := [(2, K)]) (V := [K, K, K]) rfl rfl) hP
      have hD : va_D A (mW G h0 a (upd (upd F 15 (nI fa)) 64 (nI at0)) (updA B 2 K)) := mW_D hD
      refine W.widen (k := 0) (n := 0) (Nat.le_of_ble_eq_true rfl) (Nat.le_of_ble_eq_true rfl) ?_
      refine W.eq (g2 := F0 m 24 ls [.int (K at0)]) rfl ?_
      refine lv_iconst (v := 1) hx hb dX12_isSort_24 (by decide) ?_
      refine lv_icmp_ne (tgt := 32) hx hb dX12_isSort_25 (by decide) (fun c22 => ?_) (fun c22 => ?_)
      · refine lv_iconst (v := 0) hx hb dX12_isSort_32 (by decide) ?_
        have hz23 : 0 ≤ 1 := (by omega)
        have hz24 : at0 + 0 ≤ T := (by omega)
        have hz25 : If (0 = 1) (srt (K at0) = true) := (fun e => absurd e (by decide))
        have hz26 : If (0 = 0) (srt (K at0) = false) := (fun _ => srt_f c4 c13 c22)
        have hP : va_P G.1 pCl (mW G h0 a (upd (upd F 15 (nI fa)) 64 (nI at0)) (updA B 2 K)) _ := hP
        have hD : va_D A (mW G h0 a (upd (upd F 15 (nI fa)) 64 (nI at0)) (updA B 2 K)) := mW_D hD
        exact W.zret (v := 0) hx hb hr rfl (fun t9 ht9 hW9 => ⟨⟨_, 0, rfl, ⟨rfl, hz23, hz24, hz25, hz26⟩, by rw [ht9]; exact hP, hD⟩, hS.F ht9⟩) hS.2.2 dX12_isSort_33
      · have n27 : at0 < T := tk_lt hat hK c22 (by decide) (by decide)
        refine lv_iconst (v := 1) hx hb dX12_isSort_28 (by decide) ?_
        refine lv_goto (tgt := 33) hx hb dX12_isSort_29 (by decide) ?_
        have hz28 : 1 ≤ 1 := (by omega)
        have hz29 : at0 + 1 ≤ T := (by omega)
        have hz30 : If (1 = 1) (srt (K at0) = true) := (fun _ => by rw [c22]; decide)
        have hz31 : If (1 = 0) (srt (K at0) = false) := (fun e => absurd e (by decide))
        have hP : va_P G.1 pCl (mW G h0 a (upd (upd F 15 (nI fa)) 64 (nI at0)) (updA B 2 K)) _ := hP
        have hD : va_D A (mW G h0 a (upd (upd F 15 (nI fa)) 64 (nI at0)) (updA B 2 K)) := mW_D hD
        exact W.zret (v := 1) hx hb hr rfl (fun t9 ht9 hW9 => ⟨⟨_, 1, rfl, ⟨rfl, hz28, hz29, hz30, hz31⟩, by rw [ht9]; exact hP, hD⟩, hS.F ht9⟩) hS.2.2 dX12_isSort_33
set_option maxHeartbeats 2000000 in
set_option maxRecDepth 100000 in
/-- typeHere() -/
theorem R_typeHereN (l : Launch) (G : pT) (h0 : Nat) (a : Nat → Nat) (F : Nat → Int32) (B : Nat → Nat → Int32) (at0 : Nat) (T : Nat) (fa : Nat) (K : Nat → Int32) (wr : Nat) (yt : Nat → Int32) (hat : at0 ≤ T) (hT : T ≤ 5000) (hK : K T = 0 ∨ K T = 3) (hfa : fa ≤ 100) (hwr : wr ≤ at0) (hy : tkRow yt wr T) : PM l G pX0 yX12_typeHere cX12_typeHere 2 (some .int) ({ frames := 5, cells := 0, slots := 0, locals := 124 }) [.ref h0] (mW G h0 a (upd (upd (upd F 15 (nI fa)) 31 (nI wr)) 64 (nI at0)) (updA (updA B 2 K) 19 yt)) (fun (v : Option Value) (u : Nat × Nat × Int32 × Nat × Nat × (Nat → Int32) × (Nat → Int32)) => v = some (.int (nI u.2.2.2.2.1)) ∧ (at0 ≤ u.1) ∧ (u.1 ≤ T) ∧ (fa ≤ u.2.1) ∧ (u.2.1 ≤ 100) ∧ (If (0 < fa) (u.1 = at0 ∧ u.2.1 = fa)) ∧ (wr ≤ u.2.2.2.1) ∧ (u.2.2.2.1 + at0 ≤ wr + u.1) ∧ (If (0 < fa) (u.2.2.2.1 = wr)) ∧ (u.2.2.2.2.1 + 1 ≤ u.2.2.2.1 + 6000 * u.2.1) ∧ (at0 + 1 ≤ u.1 + u.2.1) ∧ (tkRow u.2.2.2.2.2.1 u.2.2.2.1 T) ∧ (∀ i : Nat, i < wr → u.2.2.2.2.2.1 i = yt i) ∧ (∀ i : Nat, i < wr → u.2.2.2.2.2.2 i = B 20 i) ∧ (u.2.2.2.2.1 ≤ wr) ∧ (If (u.2.1 = 0) (srt (K at0) = true))) (fun u => (mW G h0 a (upd (upd (upd (upd F 15 (nI u.2.1)) 16 u.2.2.1) 31 (nI u.2.2.2.1)) 64 (nI u.1)) (updA (updA (updA B 2 K) 19 u.2.2.2.2.2.1) 20 u.2.2.2.2.2.2))) := by
  intro sz
  refine Met.ofW (cc := cX12_typeHere) (maxL := 2) (ret := (some .int)) (by decide) rfl ?_
  intro p e s m args below meth c s₁ B9 hml hv
  obtain ⟨rfl, hsz, hP, hD0, hE, hX⟩ := hv
  have hx := B9.exec
  have hb := B9.bytes
  have hr := B9.returns
  have hts := atoms_spec (ws := Cond.code yX12_typeHere cX12_typeHere 2 (some .int) :: pw) B9.pre
  have hq : ∀ w ∈ pw, w.before _ s = true := fun w h => hts w (List.mem_cons_of_mem _ h)
  have hown : s.vm.findClass RX12 = some m.cls := findClass_of_methodNamed B9.named
  have hlocks := B9.notSynchronized
  subst hsz
  have hD := hD0.self (sz := s.heap.size)
  have hA : ∀ q : Nat, s.heap.size ≤ q → va_A (mW G h0 a (upd (upd (upd F 15 (nI fa)) 31 (nI wr)) 64 (nI at0)) (updA (updA B 2 K) 19 yt)) s.heap.size q := fun q h => Or.inr h
  have hP : va_P G.1 pCl (mW G h0 a (upd (upd (upd F 15 (nI fa)) 31 (nI wr)) 64 (nI at0)) (updA (updA B 2 K) 19 yt)) s.heap := hP
  generalize va_A (mW G h0 a (upd (upd (upd F 15 (nI fa)) 31 (nI wr)) 64 (nI at0)) (updA (updA B 2 K) 19 yt)) s.heap.size = A at hD hE hA ⊢
  have hS : va_S A s.heap s.heap [] := va_S.rf
  have hl := lv_entry ([.ref h0]) (n := 2) (Nat.le_of_ble_eq_true rfl)
  rw [lg_entry_eq]
  generalize (lg_sl ([.ref h0]) ++ List.replicate (2 - (lg_sl ([.ref h0])).length) Slot.unset).toArray = ls at hl ⊢
  have hl : lv_has ls 2 [(0, .ref h0)] := hl
  refine lv_aload_n hx hb dX12_typeHere_0 rfl (lv_at hl 0 rfl) ?_
  refine r_get (v := .int (nI wr)) hx hb hown hq hE hP 31 399 tFX12_31 (by decide) pw_1629 rfl dX12_typeHere_1 ?_
  refine lv_istore_n (lv' := [(1, .int (nI wr)), (0, .ref h0)]) hx hb dX12_typeHere_4 rfl hl (by decide) rfl (fun ls hl => ?_)
  refine lv_aload_n hx hb dX12_typeHere_5 rfl (lv_at hl 1 rfl) ?_
  refine r_get (v := .int (nI fa)) hx hb hown hq hE hP 15 350 tFX12_15 (by decide) pw_1594 rfl dX12_typeHere_6 ?_
  refine lv_if_le (tgt := 14) hx hb dX12_typeHere_9 (by decide) (fun c1 => ?_) (fun c1 => ?_)
  · have n2 : fa ≤ 0 := (nI_leI (a := fa) (b := 0) (by omega) (by omega)).mp c1
    refine lv_aload_n hx hb dX12_typeHere_14 rfl (lv_at hl 1 rfl) ?_
    have hP : va_P G.1 pCl (mW G h0 a (upd (upd (upd (upd (upd F 15 (nI fa)) 31 (nI wr)) 64 (nI at0)) 15 (nI fa)) 64 (nI at0)) (updA (updA (updA B 2 K) 19 yt) 2 K)) _ := mW_to (F := F) (l1 := [(15, (nI fa)), (31, (nI wr)), (64, (nI at0))]) (l2 := [(15, (nI fa)), (31, (nI wr)), (64, (nI at0)), (15, (nI fa)), (64, (nI at0))]) (V := [(nI fa), (nI wr), (nI at0), (nI fa), (nI wr), (nI at0), (nI fa), (nI at0)]) rfl rfl (show (updA (updA B 2 K) 19 yt) = (updA (updA (updA B 2 K) 19 yt) 2 K) from updsA_eq2 (F := B) (l1 := [(2, K), (19, yt)]) (l2 := [(2, K), (19, yt), (2, K)]) (V := [K, yt, K, yt, K]) rfl rfl) hP
    have hD : va_D A (mW G h0 a (upd (upd (upd (upd (upd F 15 (nI fa)) 31 (nI wr)) 64 (nI at0)) 15 (nI fa)) 64 (nI at0)) (updA (updA (updA B 2 K) 19 yt) 2 K)) := mW_D hD
    refine pc_V0 (G := G) (As := []) (rest := []) hx hb hml hown hq hE hX pX0_al hP hD hS hA hl.1 (R_isSortN l G h0 a (upd (upd (upd F 15 (nI fa)) 31 (nI wr)) 64 (nI at0)) (updA (updA B 2 K) 19 yt) at0 T fa K (by omega) (by omega) hK (by omega)) (gV pw_1630 pw_1631 pw_1632 pw_1523 pw_1625) hV_X12_isSort 0 9 rfl rfl rfl rfl (Nat.le_of_ble_eq_true rfl) dX12_typeHere_15 ⟨Nat.le_of_ble_eq_true rfl, Nat.le_of_ble_eq_true rfl⟩ ⟨Nat.le_of_ble_eq_true rfl, Nat.le_of_ble_eq_true rfl⟩ (fun v5 u3 H locs hw4 hP hD hS => ?_)
    obtain ⟨r6, rfl⟩ : ∃ z, z = u3 := ⟨_, rfl⟩
    obtain ⟨hw4, h7, h8, h9, h10⟩ := hw4
    replace h7 : r6 ≤ 1 := h7
    replace h8 : at0 + r6 ≤ T := h8
    replace h9 : If (r6 = 1) (srt (K at0) = true) := h9
    replace h10 : If (r6 = 0) (srt (K at0) = false) := h10
    obtain rfl : v5 = some (.int (nI r6)) := hw4
    have hP : va_P G.1 pCl (mW G h0 a (upd (upd (upd F 15 (nI fa)) 31 (nI wr)) 64 (nI at0)) (updA (updA B 2 K) 19 yt)) _ := mW_to (F := F) (l1 := [(15, (nI fa)), (31, (nI wr)), (64, (nI at0)), (15, (nI fa)), (64, (nI at0))]) (l2 := [(15, (nI fa)), (31, (nI wr)), (64, (nI at0))]) (V := [(nI fa), (nI wr), (nI at0), (nI fa), (nI at0), (nI fa), (nI wr), (nI at0)]) rfl rfl (show (updA (updA (updA B 2 K) 19 yt) 2 K) = (updA (updA B 2 K) 19 yt) from updsA_eq2 (F := B) (l1 := [(2, K), (19, yt), (2, K)]) (l2 := [(2, K), (19, yt)]) (V := [K, yt, K, K, yt]) rfl rfl) hP
    have hD : va_D A (mW G h0 a (upd (upd (upd F 15 (nI fa)) 31 (nI wr)) 64 (nI at0)) (updA (updA B 2 K) 19 yt)) := mW_D hD
    refine W.widen (k := 0) (n := 0) (Nat.le_of_ble_eq_true rfl) (Nat.le_of_ble_eq_true rfl) ?_
    refine W.eq (g2 := F0 m 18 ls [.int (nI r6)]) rfl ?_
    refine lv_if_ne (tgt := 28) hx hb dX12_typeHere_18 (by decide) (fun c11 => ?_) (fun c11 => ?_)
    · have n12 : ¬ (r6 = 0) := fun h9 => c11 ((nI_eq (a := r6) (b := 0) (by omega) (by omega)).mpr h9)
      refine lv_aload_n hx hb dX12_typeHere_28 rfl (lv_at hl 1 rfl) ?_
      refine lv_dup hx hb dX12_typeHere_29 rfl ?_
      refine r_get (v := .int (nI wr)) hx hb hown hq hE hP 31 399 tFX12_31 (by decide) pw_1629 rfl dX12_typeHere_30 ?_
      refine lv_iconst (v := 1) hx hb dX12_typeHere_33 (by decide) ?_
      refine lv_iadd hx hb dX12_typeHere_34 ?_
      refine lv_topi (fun x13 e14 => ?_)
      obtain rfl : x13 = nI (wr + 1) := e14.trans (nI_add (wr) (1))
      refine r_put (v := (nI (wr + 1))) (ty := .int) hx hb hown hq hE hP hD hS 31 399 tFX12_31 (by decide) pw_1629 (by decide) rfl rfl (ms_31 a _ _) dX12_typeHere_35 (fun H locs hP hD hS => ?_)
      refine lv_aload_n hx hb dX12_typeHere_38 rfl (lv_at hl 1 rfl) ?_
      refine r_get (v := .ref (a 19)) hx hb hown hq hE hP 28 68 tFX12_28 (by decide) pw_1449 rfl dX12_typeHere_39 ?_
      refine lv_iload_n hx hb dX12_typeHere_42 rfl (lv_at hl 0 rfl) ?_
      refine lv_aload_n hx hb dX12_typeHere_43 rfl (lv_at hl 1 rfl) ?_
      refine r_get (v := .int (nI at0)) hx hb hown hq hE hP 64 343 tFX12_64 (by decide) pw_1592 rfl dX12_typeHere_44 ?_
      refine r_sti (f := yt) (j := wr) hx hb hE hP hD hS 19 (ma_19 G a _) rfl (mas_19 G a _) (by omega) (by decide) dX12_typeHere_47 (fun H locs hP hD hS => ?_)
      refine lv_aload_n hx hb dX12_typeHere_48 rfl (lv_at hl 1 rfl) ?_
      refine lv_dup hx hb dX12_typeHere_49 rfl ?_
      refine r_get (v := .int (nI at0)) hx hb hown hq hE hP 64 343 tFX12_64 (by decide) pw_1592 rfl dX12_typeHere_50 ?_
      refine lv_iconst (v := 1) hx hb dX12_typeHere_53 (by decide) ?_
      refine lv_iadd hx hb dX12_typeHere_54 ?_
      refine lv_topi (fun x15 e16 => ?_)
      obtain rfl : x15 = nI (at0 + 1) := e16.trans (nI_add (at0) (1))
      refine r_put (v := (nI (at0 + 1))) (ty := .int) hx hb hown hq hE hP hD hS 64 343 tFX12_64 (by decide) pw_1592 (by decide) rfl rfl (ms_64 a _ _) dX12_typeHere_55 (fun H locs hP hD hS => ?_)
      refine lv_aload_n hx hb dX12_typeHere_58 rfl (lv_at hl 1 rfl) ?_
      refine r_get (v := .ref (a 20)) hx hb hown hq hE hP 29 71 tFX12_29 (by decide) pw_1451 rfl dX12_typeHere_59 ?_
      refine lv_iload_n hx hb dX12_typeHere_62 rfl (lv_at hl 0 rfl) ?_
      refine lv_aload_n hx hb dX12_typeHere_63 rfl (lv_at hl 1 rfl) ?_
      refine lv_bipush (v := 91) hx hb dX12_typeHere_64 (by decide) ?_
      have hP : va_P G.1 pCl (mW G h0 a (upd (upd (upd (upd (upd F 15 (nI fa)) 31 (nI (wr + 1))) 64 (nI (at0 + 1))) 15 (nI fa)) 64 (nI (at0 + 1))) (updA (updA (updA B 2 K) 19 (upd yt wr (nI at0))) 2 K)) _ := mW_to (F := F) (l1 := [(15, (nI fa)), (31, (nI wr)), (64, (nI at0)), (31, (nI (wr + 1))), (64, (nI (at0 + 1)))]) (l2 := [(15, (nI fa)), (31, (nI (wr + 1))), (64, (nI (at0 + 1))), (15, (nI fa)), (64, (nI (at0 + 1)))]) (V := [(nI fa), (nI (wr + 1)), (nI (at0 + 1)), (nI (wr + 1)), (nI (at0 + 1)), (nI fa), (nI (wr + 1)), (nI (at0 + 1)), (nI fa), (nI (at0 + 1))]) rfl rfl (show (updA (updA (updA B 2 K) 19 yt) 19 (upd yt wr (nI at0))) = (updA (updA (updA B 2 K) 19 (upd yt wr (nI at0))) 2 K) from updsA_eq2 (F := B) (l1 := [(2, K), (19, yt), (19, (upd yt wr (nI at0)))]) (l2 := [(2, K), (19, (upd yt wr (nI at0))), (2, K)]) (V := [K, (upd yt wr (nI at0)), (upd yt wr (nI at0)), K, (upd yt wr (nI at0)), K]) rfl rfl) hP
      have hD : va_D A (mW G h0 a (upd (upd (upd (upd (upd F 15 (nI fa)) 31 (nI (wr + 1))) 64 (nI (at0 + 1))) 15 (nI fa)) 64 (nI (at0 + 1))) (updA (updA (updA B 2 K) 19 (upd yt wr (nI at0))) 2 K)) := mW_D hD
      refine pc_V0 (G := G) (As := [.int 91]) (rest := [.int (nI wr), .ref (a 20)]) hx hb hml hown hq hE hX pX0_al hP hD hS hA hl.1 (R_may l G h0 a (upd (upd (upd F 15 (nI fa)) 31 (nI (wr + 1))) 64 (nI (at0 + 1))) (updA (updA B 2 K) 19 (upd yt wr (nI at0))) (at0 + 1) T fa K 91 (by omega) (by omega) hK (by omega) (by decide) (by decide)) (gV pw_1621 pw_1622 pw_1623 pw_1523 pw_1605) hV_X12_may 0 9 rfl rfl rfl rfl (Nat.le_of_ble_eq_true rfl) dX12_typeHere_66 ⟨Nat.le_of_ble_eq_true rfl, Nat.le_of_ble_eq_true rfl⟩ ⟨Nat.le_of_ble_eq_true rfl, Nat.le_of_ble_eq_true rfl⟩ (fun v19 u17 H locs hw18 hP hD hS => ?_)
      obtain ⟨at20, r21⟩ := u17
      obtain ⟨hw18, h22, h23, h24, h25, h26, h27⟩ := hw18
      replace h22 : r21 ≤ 1 := h22
      replace h23 : fa + 100 * r21 ≤ 100 := h23
      replace h24 : at20 = (at0 + 1) + r21 := h24
      replace h25 : at20 ≤ T := h25
      replace h26 : If (r21 = 1) (K (at0 + 1) = 91) := h26
      replace h27 : If (r21 = 0) (fa = 0 → ¬ K (at0 + 1) = 91) := h27
      obtain rfl : v19 = some (.int (nI r21)) := hw18
      have hP : va_P G.1 pCl (mW G h0 a (upd (upd (upd F 15 (nI fa)) 31 (nI (wr + 1))) 64 (nI at20)) (updA (updA B 2 K) 19 (upd yt wr (nI at0)))) _ := mW_to (F := F) (l1 := [(15, (nI fa)), (31, (nI (wr + 1))), (64, (nI (at0 + 1))), (15, (nI fa)), (64, (nI at20))]) (l2 := [(15, (nI fa)), (31, (nI (wr + 1))), (64, (nI at20))]) (V := [(nI fa), (nI (wr + 1)), (nI at20), (nI fa), (nI at20), (nI fa), (nI (wr + 1)), (nI at20)]) rfl rfl (show (updA (updA (updA B 2 K) 19 (upd yt wr (nI at0))) 2 K) = (updA (updA B 2 K) 19 (upd yt wr (nI at0))) from updsA_eq2 (F := B) (l1 := [(2, K), (19, (upd yt wr (nI at0))), (2, K)]) (l2 := [(2, K), (19, (upd yt wr (nI at0)))]) (V := [K, (upd yt wr (nI at0)), K, K, (upd yt wr (nI at0))]) rfl rfl) hP
      have hD : va_D A (mW G h0 a (upd (upd (upd F 15 (nI fa)) 31 (nI (wr + 1))) 64 (nI at20)) (updA (updA B 2 K) 19 (upd yt wr (nI at0)))) := mW_D hD
      refine W.widen (k := 0) (n := 0) (Nat.le_of_ble_eq_true rfl) (Nat.le_of_ble_eq_true rfl) ?_
      refine W.eq (g2 := F0 m 69 ls [.int (nI r21), .int (nI wr), .ref (a 20)]) rfl ?_
      refine r_stz (f := (B 20)) (j := wr) hx hb hE hP hD hS 20 (ma_20 G a _) rfl (mas_20 G a _) (by omega) (by decide) dX12_typeHere_69 (fun H locs hP hD hS => ?_)
      refine lv_aload_n hx hb dX12_typeHere_70 rfl (lv_at hl 1 rfl) ?_
      refine r_get (v := .ref (a 20)) hx hb hown hq hE hP 29 71 tFX12_29 (by decide) pw_1451 rfl dX12_typeHere_71 ?_
      refine lv_iload_n hx hb dX12_typeHere_74 rfl (lv_at hl 0 rfl) ?_
      refine r_ldz (f := (upd (B 20) wr (vp_nar .boolean (nI r21)))) (j := wr) hx hb hE hP 20 (ma_20 G a _) rfl (by omega) (by decide) dX12_typeHere_75 ?_
      refine lv_topi (fun x28 e29 => ?_)
      refine lv_if_eq (tgt := 85) hx hb dX12_typeHere_76 (by decide) (fun c30 => ?_) (fun c30 => ?_)
      · refine lv_iload_n hx hb dX12_typeHere_85 rfl (lv_at hl 0 rfl) ?_
        have hz31 : at0 ≤ at20 := (by omega)
        have hz32 : at20 ≤ T := (by omega)
        have hz33 : fa ≤ fa := (by omega)
        have hz34 : fa ≤ 100 := (by omega)
        have hz35 : If (0 < fa) (at20 = at0 ∧ fa = fa) := (fun h9 => by omega)
        have hz36 : wr ≤ (wr + 1) := (by omega)
        have hz37 : (wr + 1) + at0 ≤ wr + at20 := (by omega)
        have hz38 : If (0 < fa) ((wr + 1) = wr) := (fun h9 => by omega)
        have hz39 : wr + 1 ≤ (wr + 1) + 6000 * fa := (by omega)
        have hz40 : at0 + 1 ≤ at20 + fa := (by omega)
        have hz41 : tkRow (upd yt wr (nI at0)) (wr + 1) T := (tkRow_up hy (by omega))
        have hz42 : ∀ i : Nat, i < wr → (upd yt wr (nI at0)) i = yt i := upd_lt
        have hz43 : ∀ i : Nat, i < wr → (upd (B 20) wr (vp_nar .boolean (nI r21))) i = B 20 i := upd_lt
        have hz44 : wr ≤ wr := (by omega)
        have hz45 : If (fa = 0) (srt (K at0) = true) := (fun _ => h9 (by omega))
        have hP : va_P G.1 pCl (mW G h0 a (upd (upd (upd (upd F 15 (nI fa)) 16 (F 16)) 31 (nI (wr + 1))) 64 (nI at20)) (updA (updA (updA B 2 K) 19 (upd yt wr (nI at0))) 20 (upd (B 20) wr (vp_nar .boolean (nI r21))))) _ := mW_to (F := F) (l1 := [(15, (nI fa)), (31, (nI (wr + 1))), (64, (nI at20))]) (l2 := [(15, (nI fa)), (16, (F 16)), (31, (nI (wr + 1))), (64, (nI at20))]) (V := [(nI fa), (nI (wr + 1)), (nI at20), (nI fa), (F 16), (nI (wr + 1)), (nI at20)]) rfl rfl rfl hP
        have hD : va_D A (mW G h0 a (upd (upd (upd (upd F 15 (nI fa)) 16 (F 16)) 31 (nI (wr + 1))) 64 (nI at20)) (updA (updA (updA B 2 K) 19 (upd yt wr (nI at0))) 20 (upd (B 20) wr (vp_nar .boolean (nI r21))))) := mW_D hD
        exact W.iret (v := (nI wr)) hx hb hr (fun t9 ht9 hW9 => ⟨⟨_, (at20, fa, (F 16), (wr + 1), wr, (upd yt wr (nI at0)), (upd (B 20) wr (vp_nar .boolean (nI r21)))), rfl, ⟨rfl, hz31, hz32, hz33, hz34, hz35, hz36, hz37, hz38, hz39, hz40, hz41, hz42, hz43, hz44, hz45⟩, by rw [ht9]; exact hP, hD⟩, hS.F ht9⟩) hS.2.2 dX12_typeHere_86
      · refine lv_aload_n hx hb dX12_typeHere_79 rfl (lv_at hl 1 rfl) ?_
        refine lv_bipush (v := 93) hx hb dX12_typeHere_80 (by decide) ?_
        have hP : va_P G.1 pCl (mW G h0 a (upd (upd (upd (upd (upd F 15 (nI fa)) 31 (nI (wr + 1))) 64 (nI at20)) 15 (nI fa)) 64 (nI at20)) (updA (updA (updA (updA B 2 K) 19 (upd yt wr (nI at0))) 20 (upd (B 20) wr (vp_nar .boolean (nI r21)))) 2 K)) _ := mW_to (F := F) (l1 := [(15, (nI fa)), (31, (nI (wr + 1))), (64, (nI at20))]) (l2 := [(15, (nI fa)), (31, (nI (wr + 1))), (64, (nI at20)), (15, (nI fa)), (64, (nI at20))]) (V := [(nI fa), (nI (wr + 1)), (nI at20), (nI fa), (nI (wr + 1)), (nI at20), (nI fa), (nI at20)]) rfl rfl (show (updA (updA (updA B 2 K) 19 (upd yt wr (nI at0))) 20 (upd (B 20) wr (vp_nar .boolean (nI r21)))) = (updA (updA (updA (updA B 2 K) 19 (upd yt wr (nI at0))) 20 (upd (B 20) wr (vp_nar .boolean (nI r21)))) 2 K) from updsA_eq2 (F := B) (l1 := [(2, K), (19, (upd yt wr (nI at0))), (20, (upd (B 20) wr (vp_nar .boolean (nI r21))))]) (l2 := [(2, K), (19, (upd yt wr (nI at0))), (20, (upd (B 20) wr (vp_nar .boolean (nI r21)))), (2, K)]) (V := [K, (upd yt wr (nI at0)), (upd (B 20) wr (vp_nar .boolean (nI r21))), K, (upd yt wr (nI at0)), (upd (B 20) wr (vp_nar .boolean (nI r21))), K]) rfl rfl) hP
        have hD : va_D A (mW G h0 a (upd (upd (upd (upd (upd F 15 (nI fa)) 31 (nI (wr + 1))) 64 (nI at20)) 15 (nI fa)) 64 (nI at20)) (updA (updA (updA (updA B 2 K) 19 (upd yt wr (nI at0))) 20 (upd (B 20) wr (vp_nar .boolean (nI r21)))) 2 K)) := mW_D hD
        refine pc_V0 (G := G) (As := [.int 93]) (rest := []) hx hb hml hown hq hE hX pX0_al hP hD hS hA hl.1 (R_take l G h0 a (upd (upd (upd F 15 (nI fa)) 31 (nI (wr + 1))) 64 (nI at20)) (updA (updA (updA B 2 K) 19 (upd yt wr (nI at0))) 20 (upd (B 20) wr (vp_nar .boolean (nI r21)))) at20 T fa K 93 (by omega) (by omega) hK (by omega) (by decide) (by decide)) (gV pw_1614 pw_1615 pw_1616 pw_1523 pw_1601) hV_X12_take 0 9 rfl rfl rfl rfl (Nat.le_of_ble_eq_true rfl) dX12_typeHere_82 ⟨Nat.le_of_ble_eq_true rfl, Nat.le_of_ble_eq_true rfl⟩ ⟨Nat.le_of_ble_eq_true rfl, Nat.le_of_ble_eq_true rfl⟩ (fun v48 u46 H locs hw47 hP hD hS => ?_)
        obtain ⟨at49, fa50, pl51⟩ := u46
        obtain ⟨hw47, h52, h53, h54, h55, h56, h57, h58, h59⟩ := hw47
        replace h52 : at20 ≤ at49 := h52
        replace h53 : at49 ≤ T := h53
        replace h54 : fa ≤ fa50 := h54
        replace h55 : fa50 ≤ 100 := h55
        replace h56 : If (0 < fa) (at49 = at20 ∧ fa50 = fa) := h56
        replace h57 : at49 ≤ at20 + 1 := h57
        replace h58 : at20 + 1 ≤ at49 + fa50 := h58
        replace h59 : If (fa50 = 0) (K at20 = 93) := h59
        obtain rfl : v48 = none := hw47
        have hP : va_P G.1 pCl (mW G h0 a (upd (upd (upd (upd F 15 (nI fa50)) 16 pl51) 31 (nI (wr + 1))) 64 (nI at49)) (updA (updA (updA B 2 K) 19 (upd yt wr (nI at0))) 20 (upd (B 20) wr (vp_nar .boolean (nI r21))))) _ := mW_to (F := F) (l1 := [(15, (nI fa)), (31, (nI (wr + 1))), (64, (nI at20)), (15, (nI fa50)), (16, pl51), (64, (nI at49))]) (l2 := [(15, (nI fa50)), (16, pl51), (31, (nI (wr + 1))), (64, (nI at49))]) (V := [(nI fa50), (nI (wr + 1)), (nI at49), (nI fa50), pl51, (nI at49), (nI fa50), pl51, (nI (wr + 1)), (nI at49)]) rfl rfl (show (updA (updA (updA (updA B 2 K) 19 (upd yt wr (nI at0))) 20 (upd (B 20) wr (vp_nar .boolean (nI r21)))) 2 K) = (updA (updA (updA B 2 K) 19 (upd yt wr (nI at0))) 20 (upd (B 20) wr (vp_nar .boolean (nI r21)))) from updsA_eq2 (F := B) (l1 := [(2, K), (19, (upd yt wr (nI at0))), (20, (upd (B 20) wr (vp_nar .boolean (nI r21)))), (2, K)]) (l2 := [(2, K), (19, (upd yt wr (nI at0))), (20, (upd (B 20) wr (vp_nar .boolean (nI r21))))]) (V := [K, (upd yt wr (nI at0)), (upd (B 20) wr (vp_nar .boolean (nI r21))), K, K, (upd yt wr (nI at0)), (upd (B 20) wr (vp_nar .boolean (nI r21)))]) rfl rfl) hP
        have hD : va_D A (mW G h0 a (upd (upd (upd (upd F 15 (nI fa50)) 16 pl51) 31 (nI (wr + 1))) 64 (nI at49)) (updA (updA (updA B 2 K) 19 (upd yt wr (nI at0))) 20 (upd (B 20) wr (vp_nar .boolean (nI r21))))) := mW_D hD
        refine W.widen (k := 0) (n := 0) (Nat.le_of_ble_eq_true rfl) (Nat.le_of_ble_eq_true rfl) ?_
        refine W.eq (g2 := F0 m 85 ls []) rfl ?_
        refine lv_iload_n hx hb dX12_typeHere_85 rfl (lv_at hl 0 rfl) ?_
        have hz60 : at0 ≤ at49 := (by omega)
        have hz61 : at49 ≤ T := (by omega)
        have hz62 : fa ≤ fa50 := (by omega)
        have hz63 : fa50 ≤ 100 := (by omega)
        have hz64 : If (0 < fa) (at49 = at0 ∧ fa50 = fa) := (fun h9 => by omega)
        have hz65 : wr ≤ (wr + 1) := (by omega)
        have hz66 : (wr + 1) + at0 ≤ wr + at49 := (by omega)
        have hz67 : If (0 < fa) ((wr + 1) = wr) := (fun h9 => by omega)
        have hz68 : wr + 1 ≤ (wr + 1) + 6000 * fa50 := (by omega)
        have hz69 : at0 + 1 ≤ at49 + fa50 := (by omega)
        have hz70 : tkRow (upd yt wr (nI at0)) (wr + 1) T := (tkRow_up hy (by omega))
        have hz71 : ∀ i : Nat, i < wr → (upd yt wr (nI at0)) i = yt i := upd_lt
        have hz72 : ∀ i : Nat, i < wr → (upd (B 20) wr (vp_nar .boolean (nI r21))) i = B 20 i := upd_lt
        have hz73 : wr ≤ wr := (by omega)
        have hz74 : If (fa50 = 0) (srt (K at0) = true) := (fun _ => h9 (by omega))
        have hP : va_P G.1 pCl (mW G h0 a (upd (upd (upd (upd F 15 (nI fa50)) 16 pl51) 31 (nI (wr + 1))) 64 (nI at49)) (updA (updA (updA B 2 K) 19 (upd yt wr (nI at0))) 20 (upd (B 20) wr (vp_nar .boolean (nI r21))))) _ := hP
        have hD : va_D A (mW G h0 a (upd (upd (upd (upd F 15 (nI fa50)) 16 pl51) 31 (nI (wr + 1))) 64 (nI at49)) (updA (updA (updA B 2 K) 19 (upd yt wr (nI at0))) 20 (upd (B 20) wr (vp_nar .boolean (nI r21))))) := mW_D hD
        exact W.iret (v := (nI wr)) hx hb hr (fun t9 ht9 hW9 => ⟨⟨_, (at49, fa50, pl51, (wr + 1), wr, (upd yt wr (nI at0)), (upd (B 20) wr (vp_nar .boolean (nI r21)))), rfl, ⟨rfl, hz60, hz61, hz62, hz63, hz64, hz65, hz66, hz67, hz68, hz69, hz70, hz71, hz72, hz73, hz74⟩, by rw [ht9]; exact hP, hD⟩, hS.F ht9⟩) hS.2.2 dX12_typeHere_86
    · have n75 : r6 = 0 := (nI_eq (a := r6) (b := 0) (by omega) (by omega)).mp c11
      refine lv_aload_n hx hb dX12_typeHere_21 rfl (lv_at hl 1 rfl) ?_
      refine lv_iconst (v := 1) hx hb dX12_typeHere_22 (by decide) ?_
      have hP : va_P G.1 pCl (mW G h0 a (upd (upd (upd (upd (upd F 15 (nI fa)) 31 (nI wr)) 64 (nI at0)) 15 (nI fa)) 64 (nI at0)) (updA (updA (updA B 2 K) 19 yt) 2 K)) _ := mW_to (F := F) (l1 := [(15, (nI fa)), (31, (nI wr)), (64, (nI at0))]) (l2 := [(15, (nI fa)), (31, (nI wr)), (64, (nI at0)), (15, (nI fa)), (64, (nI at0))]) (V := [(nI fa), (nI wr), (nI at0), (nI fa), (nI wr), (nI at0), (nI fa), (nI at0)]) rfl rfl (show (updA (updA B 2 K) 19 yt) = (updA (updA (updA B 2 K) 19 yt) 2 K) from updsA_eq2 (F := B) (l1 := [(2, K), (19, yt)]) (l2 := [(2, K), (19, yt), (2, K)]) (V := [K, yt, K, yt, K]) rfl rfl) hP
      have hD : va_D A (mW G h0 a (upd (upd (upd (upd (upd F 15 (nI fa)) 31 (nI wr)) 64 (nI at0)) 15 (nI fa)) 64 (nI at0)) (updA (updA (updA B 2 K) 19 yt) 2 K)) := mW_D hD
      refine pc_V0 (G := G) (As := [.int (nI 1)]) (rest := []) hx hb hml hown hq hE hX pX0_al hP hD hS hA hl.1 (R_bad l G h0 a (upd (upd (upd F 15 (nI fa)) 31 (nI wr)) 64 (nI at0)) (updA (updA B 2 K) 19 yt) at0 T fa K 1 (by omega) (by omega) hK (by omega) (by omega) (by omega)) (gV pw_1602 pw_1603 pw_1604 pw_1523 pw_1596) hV_X12_bad 0 9 rfl rfl rfl rfl (Nat.le_of_ble_eq_true rfl) dX12_typeHere_23 ⟨Nat.le_of_ble_eq_true rfl, Nat.le_of_ble_eq_true rfl⟩ ⟨Nat.le_of_ble_eq_true rfl, Nat.le_of_ble_eq_true rfl⟩ (fun v78 u76 H locs hw77 hP hD hS => ?_)
      obtain ⟨fa79, pl80⟩ := u76
      obtain ⟨hw77, h81, h82, h83, h84⟩ := hw77
      replace h81 : fa ≤ fa79 := h81
      replace h82 : fa79 ≤ fa + 1 := h82
      replace h83 : 0 < fa79 := h83
      replace h84 : If (0 < fa) (fa79 = fa) := h84
      obtain rfl : v78 = none := hw77
      have hP : va_P G.1 pCl (mW G h0 a (upd (upd (upd (upd F 15 (nI fa79)) 16 pl80) 31 (nI wr)) 64 (nI at0)) (updA (updA B 2 K) 19 yt)) _ := mW_to (F := F) (l1 := [(15, (nI fa)), (31, (nI wr)), (64, (nI at0)), (15, (nI fa79)), (16, pl80), (64, (nI at0))]) (l2 := [(15, (nI fa79)), (16, pl80), (31, (nI wr)), (64, (nI at0))]) (V := [(nI fa79), (nI wr), (nI at0), (nI fa79), pl80, (nI at0), (nI fa79), pl80, (nI wr), (nI at0)]) rfl rfl (show (updA (updA (updA B 2 K) 19 yt) 2 K) = (updA (updA B 2 K) 19 yt) from updsA_eq2 (F := B) (l1 := [(2, K), (19, yt), (2, K)]) (l2 := [(2, K), (19, yt)]) (V := [K, yt, K, K, yt]) rfl rfl) hP
      have hD : va_D A (mW G h0 a (upd (upd (upd (upd F 15 (nI fa79)) 16 pl80) 31 (nI wr)) 64 (nI at0)) (updA (updA B 2 K) 19 yt)) := mW_D hD
      refine W.widen (k := 0) (n := 0) (Nat.le_of_ble_eq_true rfl) (Nat.le_of_ble_eq_true rfl) ?_
      refine W.eq (g2 := F0 m 26 ls []) rfl ?_
      refine lv_iconst (v := 0) hx hb dX12_typeHere_26 (by decide) ?_
      have hz85 : at0 ≤ at0 := (by omega)
      have hz86 : at0 ≤ T := (by omega)
      have hz87 : fa ≤ fa79 := (by omega)
      have hz88 : fa79 ≤ 100 := (by omega)
      have hz89 : If (0 < fa) (at0 = at0 ∧ fa79 = fa) := (fun h9 => by omega)
      have hz90 : wr ≤ wr := (by omega)
      have hz91 : wr + at0 ≤ wr + at0 := (by omega)
      have hz92 : If (0 < fa) (wr = wr) := (fun h9 => by omega)
      have hz93 : 0 + 1 ≤ wr + 6000 * fa79 := (by omega)
      have hz94 : at0 + 1 ≤ at0 + fa79 := (by omega)
      have hz95 : tkRow yt wr T := hy
      have hz96 : ∀ i : Nat, i < wr → yt i = yt i := (fun _ _ => rfl)
      have hz97 : ∀ i : Nat, i < wr → (B 20) i = B 20 i := (fun _ _ => rfl)
      have hz98 : 0 ≤ wr := (by omega)
      have hz99 : If (fa79 = 0) (srt (K at0) = true) := (fun e => absurd e (by omega))
      have hP : va_P G.1 pCl (mW G h0 a (upd (upd (upd (upd F 15 (nI fa79)) 16 pl80) 31 (nI wr)) 64 (nI at0)) (updA (updA (updA B 2 K) 19 yt) 20 (B 20))) _ := mW_to (F := F) (l1 := [(15, (nI fa79)), (16, pl80), (31, (nI wr)), (64, (nI at0))]) (l2 := [(15, (nI fa79)), (16, pl80), (31, (nI wr)), (64, (nI at0))]) (V := [(nI fa79), pl80, (nI wr), (nI at0), (nI fa79), pl80, (nI wr), (nI at0)]) rfl rfl (show (updA (updA B 2 K) 19 yt) = (updA (updA (updA B 2 K) 19 yt) 20 (B 20)) from updsA_eq2 (F := B) (l1 := [(2, K), (19, yt)]) (l2 := [(2, K), (19, yt), (20, (B 20))]) (V := [K, yt, K, yt, (B 20)]) rfl rfl) hP
      have hD : va_D A (mW G h0 a (upd (upd (upd (upd F 15 (nI fa79)) 16 pl80) 31 (nI wr)) 64 (nI at0)) (updA (updA (updA B 2 K) 19 yt) 20 (B 20))) := mW_D hD
      exact W.iret (v := 0) hx hb hr (fun t9 ht9 hW9 => ⟨⟨_, (at0, fa79, pl80, wr, 0, yt, (B 20)), rfl, ⟨rfl, hz85, hz86, hz87, hz88, hz89, hz90, hz91, hz92, hz93, hz94, hz95, hz96, hz97, hz98, hz99⟩, by rw [ht9]; exact hP, hD⟩, hS.F ht9⟩) hS.2.2 dX12_typeHere_27
  · have n100 : ¬ (fa ≤ 0) := fun h9 => c1 ((nI_leI (a := fa) (b := 0) (by omega) (by omega)).mpr h9)
    refine lv_iconst (v := 0) hx hb dX12_typeHere_12 (by decide) ?_
    have hz101 : at0 ≤ at0 := (by omega)
    have hz102 : at0 ≤ T := (by omega)
    have hz103 : fa ≤ fa := (by omega)
    have hz104 : fa ≤ 100 := (by omega)
    have hz105 : If (0 < fa) (at0 = at0 ∧ fa = fa) := (fun h9 => by omega)
    have hz106 : wr ≤ wr := (by omega)
    have hz107 : wr + at0 ≤ wr + at0 := (by omega)
    have hz108 : If (0 < fa) (wr = wr) := (fun h9 => by omega)
    have hz109 : 0 + 1 ≤ wr + 6000 * fa := (by omega)
    have hz110 : at0 + 1 ≤ at0 + fa := (by omega)
    have hz111 : tkRow yt wr T := hy
    have hz112 : ∀ i : Nat, i < wr → yt i = yt i := (fun _ _ => rfl)
    have hz113 : ∀ i : Nat, i < wr → (B 20) i = B 20 i := (fun _ _ => rfl)
    have hz114 : 0 ≤ wr := (by omega)
    have hz115 : If (fa = 0) (srt (K at0) = true) := (fun e => absurd e (by omega))
    have hP : va_P G.1 pCl (mW G h0 a (upd (upd (upd (upd F 15 (nI fa)) 16 (F 16)) 31 (nI wr)) 64 (nI at0)) (updA (updA (updA B 2 K) 19 yt) 20 (B 20))) _ := mW_to (F := F) (l1 := [(15, (nI fa)), (31, (nI wr)), (64, (nI at0))]) (l2 := [(15, (nI fa)), (16, (F 16)), (31, (nI wr)), (64, (nI at0))]) (V := [(nI fa), (nI wr), (nI at0), (nI fa), (F 16), (nI wr), (nI at0)]) rfl rfl (show (updA (updA B 2 K) 19 yt) = (updA (updA (updA B 2 K) 19 yt) 20 (B 20)) from updsA_eq2 (F := B) (l1 := [(2, K), (19, yt)]) (l2 := [(2, K), (19, yt), (20, (B 20))]) (V := [K, yt, K, yt, (B 20)]) rfl rfl) hP
    have hD : va_D A (mW G h0 a (upd (upd (upd (upd F 15 (nI fa)) 16 (F 16)) 31 (nI wr)) 64 (nI at0)) (updA (updA (updA B 2 K) 19 yt) 20 (B 20))) := mW_D hD
    exact W.iret (v := 0) hx hb hr (fun t9 ht9 hW9 => ⟨⟨_, (at0, fa, (F 16), wr, 0, yt, (B 20)), rfl, ⟨rfl, hz101, hz102, hz103, hz104, hz105, hz106, hz107, hz108, hz109, hz110, hz111, hz112, hz113, hz114, hz115⟩, by rw [ht9]; exact hP, hD⟩, hS.F ht9⟩) hS.2.2 dX12_typeHere_13
set_option maxHeartbeats 2000000 in
set_option maxRecDepth 100000 in
/-- listOfNames() -/
theorem R_listOfNamesN (l : Launch) (G : pT) (h0 : Nat) (a : Nat → Nat) (F : Nat → Int32) (B : Nat → Nat → Int32) (at0 : Nat) (T : Nat) (fa : Nat) (K : Nat → Int32) (ls0 : Nat) (lt0 : Nat → Int32) (ln0 : Nat → Int32) (hat : at0 ≤ T) (hT : T ≤ 5000) (hK : K T = 0 ∨ K T = 3) (hfa : fa ≤ 100) (hls0 : ls0 + 1 ≤ at0) (hlr : lsRow lt0 ln0 ls0 T) : PM l G pX0 yX12_listOfNames cX12_listOfNames 5 (some .int) ({ frames := 6, cells := 0, slots := 0, locals := 145 }) [.ref h0] (mW G h0 a (upd (upd (upd F 15 (nI fa)) 34 (nI ls0)) 64 (nI at0)) (updA (updA (updA B 2 K) 22 lt0) 23 ln0)) (fun (v : Option Value) (u : Nat × Nat × Int32 × Nat × (Nat → Int32) × (Nat → Int32) × Int32) => v = some (.int u.2.2.2.2.2.2) ∧ (at0 ≤ u.1) ∧ (u.1 ≤ T) ∧ (fa ≤ u.2.1) ∧ (u.2.1 ≤ 100) ∧ (If (0 < fa) (u.1 = at0 ∧ u.2.1 = fa)) ∧ (ls0 ≤ u.2.2.2.1) ∧ (u.2.2.2.1 + at0 ≤ ls0 + u.1 + u.2.1) ∧ (u.2.2.2.1 + at0 ≤ ls0 + u.1 + 1) ∧ (lsRow u.2.2.2.2.1 u.2.2.2.2.2.1 u.2.2.2.1 T) ∧ (u.2.2.2.2.2.2 = -1 ∨ ∃ p : Nat, p < u.2.2.2.1 ∧ u.2.2.2.2.2.2 = nI p) ∧ (If (0 < fa) (u.2.2.2.1 = ls0)) ∧ (∀ i : Nat, i < ls0 → u.2.2.2.2.2.1 i = ln0 i)) (fun u => (mW G h0 a (upd (upd (upd (upd F 15 (nI u.2.1)) 16 u.2.2.1) 34 (nI u.2.2.2.1)) 64 (nI u.1)) (updA (updA (updA B 2 K) 22 u.2.2.2.2.1) 23 u.2.2.2.2.2.1))) := by
  intro sz
  refine Met.ofW (cc := cX12_listOfNames) (maxL := 5) (ret := (some .int)) (by decide) rfl ?_
  intro p e s m args below meth c s₁ B9 hml hv
  obtain ⟨rfl, hsz, hP, hD0, hE, hX⟩ := hv
  have hx := B9.exec
  have hb := B9.bytes
  have hr := B9.returns
  have hts := atoms_spec (ws := Cond.code yX12_listOfNames cX12_listOfNames 5 (some .int) :: pw) B9.pre
  have hq : ∀ w ∈ pw, w.before _ s = true := fun w h => hts w (List.mem_cons_of_mem _ h)
  have hown : s.vm.findClass RX12 = some m.cls := findClass_of_methodNamed B9.named
  have hlocks := B9.notSynchronized
  subst hsz
  have hD := hD0.self (sz := s.heap.size)
  have hA : ∀ q : Nat, s.heap.size ≤ q → va_A (mW G h0 a (upd (upd (upd F 15 (nI fa)) 34 (nI ls0)) 64 (nI at0)) (updA (updA (updA B 2 K) 22 lt0) 23 ln0)) s.heap.size q := fun q h => Or.inr h
  have hP : va_P G.1 pCl (mW G h0 a (upd (upd (upd F 15 (nI fa)) 34 (nI ls0)) 64 (nI at0)) (updA (updA (updA B 2 K) 22 lt0) 23 ln0)) s.heap := hP
  generalize va_A (mW G h0 a (upd (upd (upd F 15 (nI fa)) 34 (nI ls0)) 64 (nI at0)) (updA (updA (updA B 2 K) 22 lt0) 23 ln0)) s.heap.size = A at hD hE hA ⊢
  have hS : va_S A s.heap s.heap [] := va_S.rf
  have hl := lv_entry ([.ref h0]) (n := 5) (Nat.le_of_ble_eq_true rfl)
  rw [lg_entry_eq]
  generalize (lg_sl ([.ref h0]) ++ List.replicate (5 - (lg_sl ([.ref h0])).length) Slot.unset).toArray = ls at hl ⊢
  have hl : lv_has ls 5 [(0, .ref h0)] := hl
  refine lv_iconst (v := (-1)) hx hb dX12_listOfNames_0 (by decide) ?_
  refine lv_istore_n (lv' := [(1, .int (-1)), (0, .ref h0)]) hx hb dX12_listOfNames_1 rfl hl (by decide) rfl (fun ls hl => ?_)
  refine lv_iconst (v := (-1)) hx hb dX12_listOfNames_2 (by decide) ?_
  refine lv_istore_n (lv' := [(2, .int (-1)), (1, .int (-1)), (0, .ref h0)]) hx hb dX12_listOfNames_3 rfl hl (by decide) rfl (fun ls hl => ?_)
  refine lv_iconst (v := 1) hx hb dX12_listOfNames_4 (by decide) ?_
  refine lv_istore_n (lv' := [(3, .int 1), (2, .int (-1)), (1, .int (-1)), (0, .ref h0)]) hx hb dX12_listOfNames_5 rfl hl (by decide) rfl (fun ls hl => ?_)
  have loop_o : ∀ (n_o : Nat) (kz : Nat) (at2 : Nat) (fa2 : Nat) (lz : Nat) (mo : Nat) (pl2 : Int32) (fi : Int32) (la : Int32) (lt : Nat → Int32) (ln : Nat → Int32) (H : Heap) (locs : List Loc) (ls : Array Slot), kz ≤ (T + 1) → (T + 1) + 1 ≤ kz + n_o → (mo ≤ 1) → (T + 1 ≤ kz + 6000 * mo) → (at2 ≤ kz) → (kz + 6000 * mo ≤ at2 + 6000) → (at0 ≤ at2) → (at2 ≤ T) → (fa ≤ fa2) → (fa2 ≤ 100) → (ls0 ≤ lz) → (lz + at0 ≤ ls0 + at2 + fa2) → (lz + at0 ≤ ls0 + at2 + 1) → (If (0 < fa) (at2 = at0 ∧ fa2 = fa)) → (If (0 < fa) (lz = ls0)) → (lsRow lt ln lz T) → (fi = -1 ∨ ∃ p : Nat, p < lz ∧ fi = nI p) → (la = -1 ∨ ∃ p : Nat, (ls0 ≤ p ∧ p < lz) ∧ la = nI p) → (∀ i : Nat, i < ls0 → ln i = ln0 i) → va_P G.1 pCl (mW G h0 a (upd (upd (upd (upd F 15 (nI fa2)) 16 pl2) 34 (nI lz)) 64 (nI at2)) (updA (updA (updA B 2 K) 22 lt) 23 ln)) H → va_D A (mW G h0 a (upd (upd (upd (upd F 15 (nI fa2)) 16 pl2) 34 (nI lz)) 64 (nI at2)) (updA (updA (updA B 2 K) 22 lt) 23 ln)) → va_S A s.heap H locs → lv_has ls 5 [(3, .int (nI mo)), (2, .int la), (1, .int fi), (0, .ref h0)] → W p l e (headSpec (Cond.code yX12_listOfNames cX12_listOfNames 5 (some .int) :: pw) ({ frames := 6, cells := 0, slots := 0, locals := 145 } : Room)).room s m ([.ref h0] : List Value).toArray below meth c H locs 0 0 (MQ below (pQ G A (fun (v : Option Value) (u : Nat × Nat × Int32 × Nat × (Nat → Int32) × (Nat → Int32) × Int32) => v = some (.int u.2.2.2.2.2.2) ∧ (at0 ≤ u.1) ∧ (u.1 ≤ T) ∧ (fa ≤ u.2.1) ∧ (u.2.1 ≤ 100) ∧ (If (0 < fa) (u.1 = at0 ∧ u.2.1 = fa)) ∧ (ls0 ≤ u.2.2.2.1) ∧ (u.2.2.2.1 + at0 ≤ ls0 + u.1 + u.2.1) ∧ (u.2.2.2.1 + at0 ≤ ls0 + u.1 + 1) ∧ (lsRow u.2.2.2.2.1 u.2.2.2.2.2.1 u.2.2.2.1 T) ∧ (u.2.2.2.2.2.2 = -1 ∨ ∃ p : Nat, p < u.2.2.2.1 ∧ u.2.2.2.2.2.2 = nI p) ∧ (If (0 < fa) (u.2.2.2.1 = ls0)) ∧ (∀ i : Nat, i < ls0 → u.2.2.2.2.2.1 i = ln0 i)) (fun u => (mW G h0 a (upd (upd (upd (upd F 15 (nI u.2.1)) 16 u.2.2.1) 34 (nI u.2.2.2.1)) 64 (nI u.1)) (updA (updA (updA B 2 K) 22 u.2.2.2.2.1) 23 u.2.2.2.2.2.1)))) ([.ref h0] : List Value).toArray s ({ frames := 6, cells := 0, slots := 0, locals := 145 } : Room).cells ({ frames := 6, cells := 0, slots := 0, locals := 145 } : Room).slots A) (F0 m 6 ls []) := by
    intro n_o
    induction n_o with
    | zero => intro kz at2 fa2 lz mo pl2 fi la lt ln H locs ls hk_o hn_o; omega
    | succ n_o ih_o =>
      intro kz at2 fa2 lz mo pl2 fi la lt ln H locs ls hk_o hn_o hm1 hz1 hz2 hz3 ha2 ha3 hf1 hf2 hl1 hl2 hl3 hg1 hg3 hlr2 hfi hla hu9 hP hD hS hl
      refine lv_iload_n hx hb dX12_listOfNames_6 rfl (lv_at hl 0 rfl) ?_
      refine lv_if_eq (tgt := 90) hx hb dX12_listOfNames_7 (by decide) (fun c1 => ?_) (fun c1 => ?_)
      · have n2 : mo = 0 := (nI_eq (a := mo) (b := 0) (by omega) (by omega)).mp c1
        refine lv_iload_n hx hb dX12_listOfNames_90 rfl (lv_at hl 2 rfl) ?_
        have hz3 : at0 ≤ at2 := (by omega)
        have hz4 : at2 ≤ T := (by omega)
        have hz5 : fa ≤ fa2 := (by omega)
        have hz6 : fa2 ≤ 100 := (by omega)
        have hz7 : If (0 < fa) (at2 = at0 ∧ fa2 = fa) := hg1
        have hz8 : ls0 ≤ lz := (by omega)
        have hz9 : lz + at0 ≤ ls0 + at2 + fa2 := (by omega)
        have hz10 : lz + at0 ≤ ls0 + at2 + 1 := (by omega)
        have hz11 : lsRow lt ln lz T := hlr2
        have hz12 : fi = -1 ∨ ∃ p : Nat, p < lz ∧ fi = nI p := hfi
        have hz13 : If (0 < fa) (lz = ls0) := hg3
        have hz14 : ∀ i : Nat, i < ls0 → ln i = ln0 i := hu9
        have hP : va_P G.1 pCl (mW G h0 a (upd (upd (upd (upd F 15 (nI fa2)) 16 pl2) 34 (nI lz)) 64 (nI at2)) (updA (updA (updA B 2 K) 22 lt) 23 ln)) _ := hP
        have hD : va_D A (mW G h0 a (upd (upd (upd (upd F 15 (nI fa2)) 16 pl2) 34 (nI lz)) 64 (nI at2)) (updA (updA (updA B 2 K) 22 lt) 23 ln)) := mW_D hD
        exact W.iret (v := fi) hx hb hr (fun t9 ht9 hW9 => ⟨⟨_, (at2, fa2, pl2, lz, lt, ln, fi), rfl, ⟨rfl, hz3, hz4, hz5, hz6, hz7, hz8, hz9, hz10, hz11, hz12, hz13, hz14⟩, by rw [ht9]; exact hP, hD⟩, hS.F ht9⟩) hS.2.2 dX12_listOfNames_91
      · have n15 : ¬ (mo = 0) := fun h9 => c1 ((nI_eq (a := mo) (b := 0) (by omega) (by omega)).mpr h9)
        refine lv_aload_n hx hb dX12_listOfNames_10 rfl (lv_at hl 3 rfl) ?_
        refine r_get (v := .int (nI fa2)) hx hb hown hq hE hP 15 350 tFX12_15 (by decide) pw_1594 rfl dX12_listOfNames_11 ?_
        refine lv_if_ne (tgt := 90) hx hb dX12_listOfNames_14 (by decide) (fun c16 => ?_) (fun c16 => ?_)
        · have n17 : ¬ (fa2 = 0) := fun h9 => c16 ((nI_eq (a := fa2) (b := 0) (by omega) (by omega)).mpr h9)
          refine lv_iload_n hx hb dX12_listOfNames_90 rfl (lv_at hl 2 rfl) ?_
          have hz18 : at0 ≤ at2 := (by omega)
          have hz19 : at2 ≤ T := (by omega)
          have hz20 : fa ≤ fa2 := (by omega)
          have hz21 : fa2 ≤ 100 := (by omega)
          have hz22 : If (0 < fa) (at2 = at0 ∧ fa2 = fa) := hg1
          have hz23 : ls0 ≤ lz := (by omega)
          have hz24 : lz + at0 ≤ ls0 + at2 + fa2 := (by omega)
          have hz25 : lz + at0 ≤ ls0 + at2 + 1 := (by omega)
          have hz26 : lsRow lt ln lz T := hlr2
          have hz27 : fi = -1 ∨ ∃ p : Nat, p < lz ∧ fi = nI p := hfi
          have hz28 : If (0 < fa) (lz = ls0) := hg3
          have hz29 : ∀ i : Nat, i < ls0 → ln i = ln0 i := hu9
          have hP : va_P G.1 pCl (mW G h0 a (upd (upd (upd (upd F 15 (nI fa2)) 16 pl2) 34 (nI lz)) 64 (nI at2)) (updA (updA (updA B 2 K) 22 lt) 23 ln)) _ := hP
          have hD : va_D A (mW G h0 a (upd (upd (upd (upd F 15 (nI fa2)) 16 pl2) 34 (nI lz)) 64 (nI at2)) (updA (updA (updA B 2 K) 22 lt) 23 ln)) := mW_D hD
          exact W.iret (v := fi) hx hb hr (fun t9 ht9 hW9 => ⟨⟨_, (at2, fa2, pl2, lz, lt, ln, fi), rfl, ⟨rfl, hz18, hz19, hz20, hz21, hz22, hz23, hz24, hz25, hz26, hz27, hz28, hz29⟩, by rw [ht9]; exact hP, hD⟩, hS.F ht9⟩) hS.2.2 dX12_listOfNames_91
        · have n30 : fa2 = 0 := (nI_eq (a := fa2) (b := 0) (by omega) (by omega)).mp c16
          refine lv_aload_n hx hb dX12_listOfNames_17 rfl (lv_at hl 3 rfl) ?_
          refine r_get (v := .int (nI lz)) hx hb hown hq hE hP 34 372 tFX12_34 (by decide) pw_1617 rfl dX12_listOfNames_18 ?_
          refine lv_istore (lv' := [(4, .int (nI lz)), (3, .int (nI mo)), (2, .int la), (1, .int fi), (0, .ref h0)]) hx hb dX12_listOfNames_21 hl (by decide) rfl (fun ls hl => ?_)
          refine lv_aload_n hx hb dX12_listOfNames_23 rfl (lv_at hl 4 rfl) ?_
          refine lv_dup hx hb dX12_listOfNames_24 rfl ?_
          refine r_get (v := .int (nI lz)) hx hb hown hq hE hP 34 372 tFX12_34 (by decide) pw_1617 rfl dX12_listOfNames_25 ?_
          refine lv_iconst (v := 1) hx hb dX12_listOfNames_28 (by decide) ?_
          refine lv_iadd hx hb dX12_listOfNames_29 ?_
          refine lv_topi (fun x31 e32 => ?_)
          obtain rfl : x31 = nI (lz + 1) := e32.trans (nI_add (lz) (1))
          refine r_put (v := (nI (lz + 1))) (ty := .int) hx hb hown hq hE hP hD hS 34 372 tFX12_34 (by decide) pw_1617 (by decide) rfl rfl (ms_34 a _ _) dX12_listOfNames_30 (fun H locs hP hD hS => ?_)
          refine lv_aload_n hx hb dX12_listOfNames_33 rfl (lv_at hl 4 rfl) ?_
          refine r_get (v := .ref (a 22)) hx hb hown hq hE hP 32 78 tFX12_32 (by decide) pw_1453 rfl dX12_listOfNames_34 ?_
          refine lv_iload hx hb dX12_listOfNames_37 (lv_at hl 0 rfl) ?_
          refine lv_aload_n hx hb dX12_listOfNames_39 rfl (lv_at hl 4 rfl) ?_
          have hP : va_P G.1 pCl (mW G h0 a (upd (upd (upd (upd (upd (upd F 15 (nI fa2)) 16 pl2) 34 (nI (lz + 1))) 64 (nI at2)) 15 (nI fa2)) 64 (nI at2)) (updA (updA (updA (updA B 2 K) 22 lt) 23 ln) 2 K)) _ := mW_to (F := F) (l1 := [(15, (nI fa2)), (16, pl2), (34, (nI lz)), (64, (nI at2)), (34, (nI (lz + 1)))]) (l2 := [(15, (nI fa2)), (16, pl2), (34, (nI (lz + 1))), (64, (nI at2)), (15, (nI fa2)), (64, (nI at2))]) (V := [(nI fa2), pl2, (nI (lz + 1)), (nI at2), (nI (lz + 1)), (nI fa2), pl2, (nI (lz + 1)), (nI at2), (nI fa2), (nI at2)]) rfl rfl (show (updA (updA (updA B 2 K) 22 lt) 23 ln) = (updA (updA (updA (updA B 2 K) 22 lt) 23 ln) 2 K) from updsA_eq2 (F := B) (l1 := [(2, K), (22, lt), (23, ln)]) (l2 := [(2, K), (22, lt), (23, ln), (2, K)]) (V := [K, lt, ln, K, lt, ln, K]) rfl rfl) hP
          have hD : va_D A (mW G h0 a (upd (upd (upd (upd (upd (upd F 15 (nI fa2)) 16 pl2) 34 (nI (lz + 1))) 64 (nI at2)) 15 (nI fa2)) 64 (nI at2)) (updA (updA (updA (updA B 2 K) 22 lt) 23 ln) 2 K)) := mW_D hD
          refine pc_V0 (G := G) (As := []) (rest := [.int (nI lz), .ref (a 22)]) hx hb hml hown hq hE hX pX0_al hP hD hS hA hl.1 (R_name l G h0 a (upd (upd (upd (upd F 15 (nI fa2)) 16 pl2) 34 (nI (lz + 1))) 64 (nI at2)) (updA (updA (updA B 2 K) 22 lt) 23 ln) at2 T fa2 K (by omega) (by omega) hK (by omega)) (gV pw_1618 pw_1619 pw_1620 pw_1523 pw_1613) hV_X12_name 0 9 rfl rfl rfl rfl (Nat.le_of_ble_eq_true rfl) dX12_listOfNames_40 ⟨Nat.le_of_ble_eq_true rfl, Nat.le_of_ble_eq_true rfl⟩ ⟨Nat.le_of_ble_eq_true rfl, Nat.le_of_ble_eq_true rfl⟩ (fun v35 u33 H locs hw34 hP hD hS => ?_)
          obtain ⟨at36, fa37, pl38⟩ := u33
          obtain ⟨hw34, h39, h40, h41, h42, h43, h44, h45, h46⟩ := hw34
          replace h39 : at2 ≤ at36 := h39
          replace h40 : at36 ≤ T := h40
          replace h41 : fa2 ≤ fa37 := h41
          replace h42 : fa37 ≤ 100 := h42
          replace h43 : If (0 < fa2) (at36 = at2 ∧ fa37 = fa2) := h43
          replace h44 : at36 ≤ at2 + 1 := h44
          replace h45 : at2 + 1 ≤ at36 + fa37 := h45
          replace h46 : If (fa37 = 0) (K at2 = 1) := h46
          obtain rfl : v35 = some (.int (nI at2)) := hw34
          have hP : va_P G.1 pCl (mW G h0 a (upd (upd (upd (upd F 15 (nI fa37)) 16 pl38) 34 (nI (lz + 1))) 64 (nI at36)) (updA (updA (updA B 2 K) 22 lt) 23 ln)) _ := mW_to (F := F) (l1 := [(15, (nI fa2)), (16, pl2), (34, (nI (lz + 1))), (64, (nI at2)), (15, (nI fa37)), (16, pl38), (64, (nI at36))]) (l2 := [(15, (nI fa37)), (16, pl38), (34, (nI (lz + 1))), (64, (nI at36))]) (V := [(nI fa37), pl38, (nI (lz + 1)), (nI at36), (nI fa37), pl38, (nI at36), (nI fa37), pl38, (nI (lz + 1)), (nI at36)]) rfl rfl (show (updA (updA (updA (updA B 2 K) 22 lt) 23 ln) 2 K) = (updA (updA (updA B 2 K) 22 lt) 23 ln) from updsA_eq2 (F := B) (l1 := [(2, K), (22, lt), (23, ln), (2, K)]) (l2 := [(2, K), (22, lt), (23, ln)]) (V := [K, lt, ln, K, K, lt, ln]) rfl rfl) hP
          have hD : va_D A (mW G h0 a (upd (upd (upd (upd F 15 (nI fa37)) 16 pl38) 34 (nI (lz + 1))) 64 (nI at36)) (updA (updA (updA B 2 K) 22 lt) 23 ln)) := mW_D hD
          refine W.widen (k := 0) (n := 0) (Nat.le_of_ble_eq_true rfl) (Nat.le_of_ble_eq_true rfl) ?_
          refine W.eq (g2 := F0 m 43 ls [.int (nI at2), .int (nI lz), .ref (a 22)]) rfl ?_
          refine r_sti (f := lt) (j := lz) hx hb hE hP hD hS 22 (ma_22 G a _) rfl (mas_22 G a _) (by omega) (by decide) dX12_listOfNames_43 (fun H locs hP hD hS => ?_)
          refine lv_aload_n hx hb dX12_listOfNames_44 rfl (lv_at hl 4 rfl) ?_
          refine r_get (v := .ref (a 23)) hx hb hown hq hE hP 33 81 tFX12_33 (by decide) pw_1454 rfl dX12_listOfNames_45 ?_
          refine lv_iload hx hb dX12_listOfNames_48 (lv_at hl 0 rfl) ?_
          refine lv_iconst (v := (-1)) hx hb dX12_listOfNames_50 (by decide) ?_
          refine r_sti (f := ln) (j := lz) hx hb hE hP hD hS 23 (ma_23 G a _) rfl (mas_23 G a _) (by omega) (by decide) dX12_listOfNames_51 (fun H locs hP hD hS => ?_)
          refine lv_iload_n hx hb dX12_listOfNames_52 rfl (lv_at hl 3 rfl) ?_
          refine lv_iconst (v := (-1)) hx hb dX12_listOfNames_53 (by decide) ?_
          refine lv_icmp_ne (tgt := 62) hx hb dX12_listOfNames_54 (by decide) (fun c47 => ?_) (fun c47 => ?_)
          · refine lv_iload_n hx hb dX12_listOfNames_62 rfl (lv_at hl 3 rfl) ?_
            refine lv_istore_n (lv' := [(1, .int fi), (4, .int (nI lz)), (3, .int (nI mo)), (2, .int la), (0, .ref h0)]) hx hb dX12_listOfNames_63 rfl hl (by decide) rfl (fun ls hl => ?_)
            refine lv_iload_n hx hb dX12_listOfNames_64 rfl (lv_at hl 3 rfl) ?_
            refine lv_iconst (v := (-1)) hx hb dX12_listOfNames_65 (by decide) ?_
            refine lv_icmp_eq (tgt := 77) hx hb dX12_listOfNames_66 (by decide) (fun c48 => ?_) (fun c48 => ?_)
            · refine lv_iload hx hb dX12_listOfNames_77 (lv_at hl 1 rfl) ?_
              refine lv_istore_n (lv' := [(2, .int (nI lz)), (1, .int fi), (4, .int (nI lz)), (3, .int (nI mo)), (0, .ref h0)]) hx hb dX12_listOfNames_79 rfl hl (by decide) rfl (fun ls hl => ?_)
              refine lv_aload_n hx hb dX12_listOfNames_80 rfl (lv_at hl 4 rfl) ?_
              refine lv_bipush (v := 44) hx hb dX12_listOfNames_81 (by decide) ?_
              have hP : va_P G.1 pCl (mW G h0 a (upd (upd (upd (upd (upd (upd F 15 (nI fa37)) 16 pl38) 34 (nI (lz + 1))) 64 (nI at36)) 15 (nI fa37)) 64 (nI at36)) (updA (updA (updA (updA B 2 K) 22 (upd lt lz (nI at2))) 23 (upd ln lz (-1))) 2 K)) _ := mW_to (F := F) (l1 := [(15, (nI fa37)), (16, pl38), (34, (nI (lz + 1))), (64, (nI at36))]) (l2 := [(15, (nI fa37)), (16, pl38), (34, (nI (lz + 1))), (64, (nI at36)), (15, (nI fa37)), (64, (nI at36))]) (V := [(nI fa37), pl38, (nI (lz + 1)), (nI at36), (nI fa37), pl38, (nI (lz + 1)), (nI at36), (nI fa37), (nI at36)]) rfl rfl (show (updA (updA (updA (updA (updA B 2 K) 22 lt) 23 ln) 22 (upd lt lz (nI at2))) 23 (upd ln lz (-1))) = (updA (updA (updA (updA B 2 K) 22 (upd lt lz (nI at2))) 23 (upd ln lz (-1))) 2 K) from updsA_eq2 (F := B) (l1 := [(2, K), (22, lt), (23, ln), (22, (upd lt lz (nI at2))), (23, (upd ln lz (-1)))]) (l2 := [(2, K), (22, (upd lt lz (nI at2))), (23, (upd ln lz (-1))), (2, K)]) (V := [K, (upd lt lz (nI at2)), (upd ln lz (-1)), (upd lt lz (nI at2)), (upd ln lz (-1)), K, (upd lt lz (nI at2)), (upd ln lz (-1)), K]) rfl rfl) hP
              have hD : va_D A (mW G h0 a (upd (upd (upd (upd (upd (upd F 15 (nI fa37)) 16 pl38) 34 (nI (lz + 1))) 64 (nI at36)) 15 (nI fa37)) 64 (nI at36)) (updA (updA (updA (updA B 2 K) 22 (upd lt lz (nI at2))) 23 (upd ln lz (-1))) 2 K)) := mW_D hD
              refine pc_V0 (G := G) (As := [.int 44]) (rest := []) hx hb hml hown hq hE hX pX0_al hP hD hS hA hl.1 (R_may l G h0 a (upd (upd (upd (upd F 15 (nI fa37)) 16 pl38) 34 (nI (lz + 1))) 64 (nI at36)) (updA (updA (updA B 2 K) 22 (upd lt lz (nI at2))) 23 (upd ln lz (-1))) at36 T fa37 K 44 (by omega) (by omega) hK (by omega) (by decide) (by decide)) (gV pw_1621 pw_1622 pw_1623 pw_1523 pw_1605) hV_X12_may 0 9 rfl rfl rfl rfl (Nat.le_of_ble_eq_true rfl) dX12_listOfNames_83 ⟨Nat.le_of_ble_eq_true rfl, Nat.le_of_ble_eq_true rfl⟩ ⟨Nat.le_of_ble_eq_true rfl, Nat.le_of_ble_eq_true rfl⟩ (fun v51 u49 H locs hw50 hP hD hS => ?_)
              obtain ⟨at52, r53⟩ := u49
              obtain ⟨hw50, h54, h55, h56, h57, h58, h59⟩ := hw50
              replace h54 : r53 ≤ 1 := h54
              replace h55 : fa37 + 100 * r53 ≤ 100 := h55
              replace h56 : at52 = at36 + r53 := h56
              replace h57 : at52 ≤ T := h57
              replace h58 : If (r53 = 1) (K at36 = 44) := h58
              replace h59 : If (r53 = 0) (fa37 = 0 → ¬ K at36 = 44) := h59
              obtain rfl : v51 = some (.int (nI r53)) := hw50
              have hP : va_P G.1 pCl (mW G h0 a (upd (upd (upd (upd F 15 (nI fa37)) 16 pl38) 34 (nI (lz + 1))) 64 (nI at52)) (updA (updA (updA B 2 K) 22 (upd lt lz (nI at2))) 23 (upd ln lz (-1)))) _ := mW_to (F := F) (l1 := [(15, (nI fa37)), (16, pl38), (34, (nI (lz + 1))), (64, (nI at36)), (15, (nI fa37)), (64, (nI at52))]) (l2 := [(15, (nI fa37)), (16, pl38), (34, (nI (lz + 1))), (64, (nI at52))]) (V := [(nI fa37), pl38, (nI (lz + 1)), (nI at52), (nI fa37), (nI at52), (nI fa37), pl38, (nI (lz + 1)), (nI at52)]) rfl rfl (show (updA (updA (updA (updA B 2 K) 22 (upd lt lz (nI at2))) 23 (upd ln lz (-1))) 2 K) = (updA (updA (updA B 2 K) 22 (upd lt lz (nI at2))) 23 (upd ln lz (-1))) from updsA_eq2 (F := B) (l1 := [(2, K), (22, (upd lt lz (nI at2))), (23, (upd ln lz (-1))), (2, K)]) (l2 := [(2, K), (22, (upd lt lz (nI at2))), (23, (upd ln lz (-1)))]) (V := [K, (upd lt lz (nI at2)), (upd ln lz (-1)), K, K, (upd lt lz (nI at2)), (upd ln lz (-1))]) rfl rfl) hP
              have hD : va_D A (mW G h0 a (upd (upd (upd (upd F 15 (nI fa37)) 16 pl38) 34 (nI (lz + 1))) 64 (nI at52)) (updA (updA (updA B 2 K) 22 (upd lt lz (nI at2))) 23 (upd ln lz (-1)))) := mW_D hD
              refine W.widen (k := 0) (n := 0) (Nat.le_of_ble_eq_true rfl) (Nat.le_of_ble_eq_true rfl) ?_
              refine W.eq (g2 := F0 m 86 ls [.int (nI r53)]) rfl ?_
              refine lv_istore_n (lv' := [(3, .int (nI r53)), (2, .int (nI lz)), (1, .int fi), (4, .int (nI lz)), (0, .ref h0)]) hx hb dX12_listOfNames_86 rfl hl (by decide) rfl (fun ls hl => ?_)
              refine lv_goto (tgt := 6) hx hb dX12_listOfNames_87 (by decide) ?_
              have hno : ¬ 0 < fa := by omega
              obtain ⟨kz60, hk1, hk2, hk3, hk4⟩ := kz_of (mo := r53) (a2 := at52) (T := T) (by omega) (by omega) (by omega)
              have hP : va_P G.1 pCl (mW G h0 a (upd (upd (upd (upd F 15 (nI fa37)) 16 pl38) 34 (nI (lz + 1))) 64 (nI at52)) (updA (updA (updA B 2 K) 22 (upd lt lz (nI at2))) 23 (upd ln lz (-1)))) _ := hP
              have hD : va_D A (mW G h0 a (upd (upd (upd (upd F 15 (nI fa37)) 16 pl38) 34 (nI (lz + 1))) 64 (nI at52)) (updA (updA (updA B 2 K) 22 (upd lt lz (nI at2))) 23 (upd ln lz (-1)))) := mW_D hD
              exact ih_o kz60 at52 fa37 (lz + 1) r53 pl38 fi (nI lz) (upd lt lz (nI at2)) (upd ln lz (-1)) _ _ _ hk1 (by omega) (by omega) hk2 hk3 hk4 (by omega) (by omega) (by omega) (by omega) (by omega) (by omega) (by omega) (fun h9 => absurd h9 hno) (fun h9 => absurd h9 hno) (lsRow_new hlr2 ha3) (hfi.imp id (fun ⟨p, h, e⟩ => ⟨p, by omega, e⟩)) (Or.inr ⟨lz, by omega, rfl⟩) (fun i h => ((upd_ne (by omega)).trans (hu9 i h))) hP hD hS (lv_sub hl [0, 1, 2, 4] rfl)
            · obtain ⟨p61, hp62, rfl⟩ := (hla.resolve_left c48)
              refine lv_aload_n hx hb dX12_listOfNames_69 rfl (lv_at hl 4 rfl) ?_
              refine r_get (v := .ref (a 23)) hx hb hown hq hE hP 33 81 tFX12_33 (by decide) pw_1454 rfl dX12_listOfNames_70 ?_
              refine lv_iload_n hx hb dX12_listOfNames_73 rfl (lv_at hl 3 rfl) ?_
              refine lv_iload hx hb dX12_listOfNames_74 (lv_at hl 1 rfl) ?_
              refine r_sti (f := (upd ln lz (-1))) (j := p61) hx hb hE hP hD hS 23 (ma_23 G a _) rfl (mas_23 G a _) (by omega) (by decide) dX12_listOfNames_76 (fun H locs hP hD hS => ?_)
              refine lv_iload hx hb dX12_listOfNames_77 (lv_at hl 1 rfl) ?_
              refine lv_istore_n (lv' := [(2, .int (nI lz)), (1, .int fi), (4, .int (nI lz)), (3, .int (nI mo)), (0, .ref h0)]) hx hb dX12_listOfNames_79 rfl hl (by decide) rfl (fun ls hl => ?_)
              refine lv_aload_n hx hb dX12_listOfNames_80 rfl (lv_at hl 4 rfl) ?_
              refine lv_bipush (v := 44) hx hb dX12_listOfNames_81 (by decide) ?_
              have hP : va_P G.1 pCl (mW G h0 a (upd (upd (upd (upd (upd (upd F 15 (nI fa37)) 16 pl38) 34 (nI (lz + 1))) 64 (nI at36)) 15 (nI fa37)) 64 (nI at36)) (updA (updA (updA (updA B 2 K) 22 (upd lt lz (nI at2))) 23 (upd (upd ln lz (-1)) p61 (nI lz))) 2 K)) _ := hP
              have hD : va_D A (mW G h0 a (upd (upd (upd (upd (upd (upd F 15 (nI fa37)) 16 pl38) 34 (nI (lz + 1))) 64 (nI at36)) 15 (nI fa37)) 64 (nI at36)) (updA (updA (updA (updA B 2 K) 22 (upd lt lz (nI at2))) 23 (upd (upd ln lz (-1)) p61 (nI lz))) 2 K)) := mW_D hD
              refine pc_V0 (G := G) (As := [.int 44]) (rest := []) hx hb hml hown hq hE hX pX0_al hP hD hS hA hl.1 (R_may l G h0 a (upd (upd (upd (upd F 15 (nI fa37)) 16 pl38) 34 (nI (lz + 1))) 64 (nI at36)) (updA (updA (updA B 2 K) 22 (upd lt lz (nI at2))) 23 (upd (upd ln lz (-1)) p61 (nI lz))) at36 T fa37 K 44 (by omega) (by omega) hK (by omega) (by decide) (by decide)) (gV pw_1621 pw_1622 pw_1623 pw_1523 pw_1605) hV_X12_may 0 9 rfl rfl rfl rfl (Nat.le_of_ble_eq_true rfl) dX12_listOfNames_83 ⟨Nat.le_of_ble_eq_true rfl, Nat.le_of_ble_eq_true rfl⟩ ⟨Nat.le_of_ble_eq_true rfl, Nat.le_of_ble_eq_true rfl⟩ (fun v65 u63 H locs hw64 hP hD hS => ?_)
              obtain ⟨at66, r67⟩ := u63
              obtain ⟨hw64, h68, h69, h70, h71, h72, h73⟩ := hw64
              replace h68 : r67 ≤ 1 := h68
              replace h69 : fa37 + 100 * r67 ≤ 100 := h69
              replace h70 : at66 = at36 + r67 := h70
              replace h71 : at66 ≤ T := h71
              replace h72 : If (r67 = 1) (K at36 = 44) := h72
              replace h73 : If (r67 = 0) (fa37 = 0 → ¬ K at36 = 44) := h73
              obtain rfl : v65 = some (.int (nI r67)) := hw64
              have hP : va_P G.1 pCl (mW G h0 a (upd (upd (upd (upd F 15 (nI fa37)) 16 pl38) 34 (nI (lz + 1))) 64 (nI at66)) (updA (updA (updA B 2 K) 22 (upd lt lz (nI at2))) 23 (upd (upd ln lz (-1)) p61 (nI lz)))) _ := mW_to (F := F) (l1 := [(15, (nI fa37)), (16, pl38), (34, (nI (lz + 1))), (64, (nI at36)), (15, (nI fa37)), (64, (nI at66))]) (l2 := [(15, (nI fa37)), (16, pl38), (34, (nI (lz + 1))), (64, (nI at66))]) (V := [(nI fa37), pl38, (nI (lz + 1)), (nI at66), (nI fa37), (nI at66), (nI fa37), pl38, (nI (lz + 1)), (nI at66)]) rfl rfl (show (updA (updA (updA (updA B 2 K) 22 (upd lt lz (nI at2))) 23 (upd (upd ln lz (-1)) p61 (nI lz))) 2 K) = (updA (updA (updA B 2 K) 22 (upd lt lz (nI at2))) 23 (upd (upd ln lz (-1)) p61 (nI lz))) from updsA_eq2 (F := B) (l1 := [(2, K), (22, (upd lt lz (nI at2))), (23, (upd (upd ln lz (-1)) p61 (nI lz))), (2, K)]) (l2 := [(2, K), (22, (upd lt lz (nI at2))), (23, (upd (upd ln lz (-1)) p61 (nI lz)))]) (V := [K, (upd lt lz (nI at2)), (upd (upd ln lz (-1)) p61 (nI lz)), K, K, (upd lt lz (nI at2)), (upd (upd ln lz (-1)) p61 (nI lz))]) rfl rfl) hP
              have hD : va_D A (mW G h0 a (upd (upd (upd (upd F 15 (nI fa37)) 16 pl38) 34 (nI (lz + 1))) 64 (nI at66)) (updA (updA (updA B 2 K) 22 (upd lt lz (nI at2))) 23 (upd (upd ln lz (-1)) p61 (nI lz)))) := mW_D hD
              refine W.widen (k := 0) (n := 0) (Nat.le_of_ble_eq_true rfl) (Nat.le_of_ble_eq_true rfl) ?_
              refine W.eq (g2 := F0 m 86 ls [.int (nI r67)]) rfl ?_
              refine lv_istore_n (lv' := [(3, .int (nI r67)), (2, .int (nI lz)), (1, .int fi), (4, .int (nI lz)), (0, .ref h0)]) hx hb dX12_listOfNames_86 rfl hl (by decide) rfl (fun ls hl => ?_)
              refine lv_goto (tgt := 6) hx hb dX12_listOfNames_87 (by decide) ?_
              have hno : ¬ 0 < fa := by omega
              obtain ⟨kz74, hk1, hk2, hk3, hk4⟩ := kz_of (mo := r67) (a2 := at66) (T := T) (by omega) (by omega) (by omega)
              have hP : va_P G.1 pCl (mW G h0 a (upd (upd (upd (upd F 15 (nI fa37)) 16 pl38) 34 (nI (lz + 1))) 64 (nI at66)) (updA (updA (updA B 2 K) 22 (upd lt lz (nI at2))) 23 (upd (upd ln lz (-1)) p61 (nI lz)))) _ := hP
              have hD : va_D A (mW G h0 a (upd (upd (upd (upd F 15 (nI fa37)) 16 pl38) 34 (nI (lz + 1))) 64 (nI at66)) (updA (updA (updA B 2 K) 22 (upd lt lz (nI at2))) 23 (upd (upd ln lz (-1)) p61 (nI lz)))) := mW_D hD
              exact ih_o kz74 at66 fa37 (lz + 1) r67 pl38 fi (nI lz) (upd lt lz (nI at2)) (upd (upd ln lz (-1)) p61 (nI lz)) _ _ _ hk1 (by omega) (by omega) hk2 hk3 hk4 (by omega) (by omega) (by omega) (by omega) (by omega) (by omega) (by omega) (fun h9 => absurd h9 hno) (fun h9 => absurd h9 hno) (lsRow_link (lsRow_new hlr2 ha3) hp62.2) (hfi.imp id (fun ⟨p, h, e⟩ => ⟨p, by omega, e⟩)) (Or.inr ⟨lz, by omega, rfl⟩) (fun i h => ((upd_ne (by omega)).trans ((upd_ne (by omega)).trans (hu9 i h)))) hP hD hS (lv_sub hl [0, 1, 2, 4] rfl)
          · refine lv_iload hx hb dX12_listOfNames_57 (lv_at hl 0 rfl) ?_
            refine lv_goto (tgt := 63) hx hb dX12_listOfNames_59 (by decide) ?_
            refine lv_istore_n (lv' := [(1, .int (nI lz)), (4, .int (nI lz)), (3, .int (nI mo)), (2, .int la), (0, .ref h0)]) hx hb dX12_listOfNames_63 rfl hl (by decide) rfl (fun ls hl => ?_)
            refine lv_iload_n hx hb dX12_listOfNames_64 rfl (lv_at hl 3 rfl) ?_
            refine lv_iconst (v := (-1)) hx hb dX12_listOfNames_65 (by decide) ?_
            refine lv_icmp_eq (tgt := 77) hx hb dX12_listOfNames_66 (by decide) (fun c75 => ?_) (fun c75 => ?_)
            · refine lv_iload hx hb dX12_listOfNames_77 (lv_at hl 1 rfl) ?_
              refine lv_istore_n (lv' := [(2, .int (nI lz)), (1, .int (nI lz)), (4, .int (nI lz)), (3, .int (nI mo)), (0, .ref h0)]) hx hb dX12_listOfNames_79 rfl hl (by decide) rfl (fun ls hl => ?_)
              refine lv_aload_n hx hb dX12_listOfNames_80 rfl (lv_at hl 4 rfl) ?_
              refine lv_bipush (v := 44) hx hb dX12_listOfNames_81 (by decide) ?_
              have hP : va_P G.1 pCl (mW G h0 a (upd (upd (upd (upd (upd (upd F 15 (nI fa37)) 16 pl38) 34 (nI (lz + 1))) 64 (nI at36)) 15 (nI fa37)) 64 (nI at36)) (updA (updA (updA (updA B 2 K) 22 (upd lt lz (nI at2))) 23 (upd ln lz (-1))) 2 K)) _ := mW_to (F := F) (l1 := [(15, (nI fa37)), (16, pl38), (34, (nI (lz + 1))), (64, (nI at36))]) (l2 := [(15, (nI fa37)), (16, pl38), (34, (nI (lz + 1))), (64, (nI at36)), (15, (nI fa37)), (64, (nI at36))]) (V := [(nI fa37), pl38, (nI (lz + 1)), (nI at36), (nI fa37), pl38, (nI (lz + 1)), (nI at36), (nI fa37), (nI at36)]) rfl rfl (show (updA (updA (updA (updA (updA B 2 K) 22 lt) 23 ln) 22 (upd lt lz (nI at2))) 23 (upd ln lz (-1))) = (updA (updA (updA (updA B 2 K) 22 (upd lt lz (nI at2))) 23 (upd ln lz (-1))) 2 K) from updsA_eq2 (F := B) (l1 := [(2, K), (22, lt), (23, ln), (22, (upd lt lz (nI at2))), (23, (upd ln lz (-1)))]) (l2 := [(2, K), (22, (upd lt lz (nI at2))), (23, (upd ln lz (-1))), (2, K)]) (V := [K, (upd lt lz (nI at2)), (upd ln lz (-1)), (upd lt lz (nI at2)), (upd ln lz (-1)), K, (upd lt lz (nI at2)), (upd ln lz (-1)), K]) rfl rfl) hP
              have hD : va_D A (mW G h0 a (upd (upd (upd (upd (upd (upd F 15 (nI fa37)) 16 pl38) 34 (nI (lz + 1))) 64 (nI at36)) 15 (nI fa37)) 64 (nI at36)) (updA (updA (updA (updA B 2 K) 22 (upd lt lz (nI at2))) 23 (upd ln lz (-1))) 2 K)) := mW_D hD
              refine pc_V0 (G := G) (As := [.int 44]) (rest := []) hx hb hml hown hq hE hX pX0_al hP hD hS hA hl.1 (R_may l G h0 a (upd (upd (upd (upd F 15 (nI fa37)) 16 pl38) 34 (nI (lz + 1))) 64 (nI at36)) (updA (updA (updA B 2 K) 22 (upd lt lz (nI at2))) 23 (upd ln lz (-1))) at36 T fa37 K 44 (by omega) (by omega) hK (by omega) (by decide) (by decide)) (gV pw_1621 pw_1622 pw_1623 pw_1523 pw_1605) hV_X12_may 0 9 rfl rfl rfl rfl (Nat.le_of_ble_eq_true rfl) dX12_listOfNames_83 ⟨Nat.le_of_ble_eq_true rfl, Nat.le_of_ble_eq_true rfl⟩ ⟨Nat.le_of_ble_eq_true rfl, Nat.le_of_ble_eq_true rfl⟩ (fun v78 u76 H locs hw77 hP hD hS => ?_)
              obtain ⟨at79, r80⟩ := u76
              obtain ⟨hw77, h81, h82, h83, h84, h85, h86⟩ := hw77
              replace h81 : r80 ≤ 1 := h81
              replace h82 : fa37 + 100 * r80 ≤ 100 := h82
              replace h83 : at79 = at36 + r80 := h83
              replace h84 : at79 ≤ T := h84
              replace h85 : If (r80 = 1) (K at36 = 44) := h85
              replace h86 : If (r80 = 0) (fa37 = 0 → ¬ K at36 = 44) := h86
              obtain rfl : v78 = some (.int (nI r80)) := hw77
              have hP : va_P G.1 pCl (mW G h0 a (upd (upd (upd (upd F 15 (nI fa37)) 16 pl38) 34 (nI (lz + 1))) 64 (nI at79)) (updA (updA (updA B 2 K) 22 (upd lt lz (nI at2))) 23 (upd ln lz (-1)))) _ := mW_to (F := F) (l1 := [(15, (nI fa37)), (16, pl38), (34, (nI (lz + 1))), (64, (nI at36)), (15, (nI fa37)), (64, (nI at79))]) (l2 := [(15, (nI fa37)), (16, pl38), (34, (nI (lz + 1))), (64, (nI at79))]) (V := [(nI fa37), pl38, (nI (lz + 1)), (nI at79), (nI fa37), (nI at79), (nI fa37), pl38, (nI (lz + 1)), (nI at79)]) rfl rfl (show (updA (updA (updA (updA B 2 K) 22 (upd lt lz (nI at2))) 23 (upd ln lz (-1))) 2 K) = (updA (updA (updA B 2 K) 22 (upd lt lz (nI at2))) 23 (upd ln lz (-1))) from updsA_eq2 (F := B) (l1 := [(2, K), (22, (upd lt lz (nI at2))), (23, (upd ln lz (-1))), (2, K)]) (l2 := [(2, K), (22, (upd lt lz (nI at2))), (23, (upd ln lz (-1)))]) (V := [K, (upd lt lz (nI at2)), (upd ln lz (-1)), K, K, (upd lt lz (nI at2)), (upd ln lz (-1))]) rfl rfl) hP
              have hD : va_D A (mW G h0 a (upd (upd (upd (upd F 15 (nI fa37)) 16 pl38) 34 (nI (lz + 1))) 64 (nI at79)) (updA (updA (updA B 2 K) 22 (upd lt lz (nI at2))) 23 (upd ln lz (-1)))) := mW_D hD
              refine W.widen (k := 0) (n := 0) (Nat.le_of_ble_eq_true rfl) (Nat.le_of_ble_eq_true rfl) ?_
              refine W.eq (g2 := F0 m 86 ls [.int (nI r80)]) rfl ?_
              refine lv_istore_n (lv' := [(3, .int (nI r80)), (2, .int (nI lz)), (1, .int (nI lz)), (4, .int (nI lz)), (0, .ref h0)]) hx hb dX12_listOfNames_86 rfl hl (by decide) rfl (fun ls hl => ?_)
              refine lv_goto (tgt := 6) hx hb dX12_listOfNames_87 (by decide) ?_
              have hno : ¬ 0 < fa := by omega
              obtain ⟨kz87, hk1, hk2, hk3, hk4⟩ := kz_of (mo := r80) (a2 := at79) (T := T) (by omega) (by omega) (by omega)
              have hP : va_P G.1 pCl (mW G h0 a (upd (upd (upd (upd F 15 (nI fa37)) 16 pl38) 34 (nI (lz + 1))) 64 (nI at79)) (updA (updA (updA B 2 K) 22 (upd lt lz (nI at2))) 23 (upd ln lz (-1)))) _ := hP
              have hD : va_D A (mW G h0 a (upd (upd (upd (upd F 15 (nI fa37)) 16 pl38) 34 (nI (lz + 1))) 64 (nI at79)) (updA (updA (updA B 2 K) 22 (upd lt lz (nI at2))) 23 (upd ln lz (-1)))) := mW_D hD
              exact ih_o kz87 at79 fa37 (lz + 1) r80 pl38 (nI lz) (nI lz) (upd lt lz (nI at2)) (upd ln lz (-1)) _ _ _ hk1 (by omega) (by omega) hk2 hk3 hk4 (by omega) (by omega) (by omega) (by omega) (by omega) (by omega) (by omega) (fun h9 => absurd h9 hno) (fun h9 => absurd h9 hno) (lsRow_new hlr2 ha3) (Or.inr ⟨lz, by omega, rfl⟩) (Or.inr ⟨lz, by omega, rfl⟩) (fun i h => ((upd_ne (by omega)).trans (hu9 i h))) hP hD hS (lv_sub hl [0, 1, 2, 4] rfl)
            · obtain ⟨p88, hp89, rfl⟩ := (hla.resolve_left c75)
              refine lv_aload_n hx hb dX12_listOfNames_69 rfl (lv_at hl 4 rfl) ?_
              refine r_get (v := .ref (a 23)) hx hb hown hq hE hP 33 81 tFX12_33 (by decide) pw_1454 rfl dX12_listOfNames_70 ?_
              refine lv_iload_n hx hb dX12_listOfNames_73 rfl (lv_at hl 3 rfl) ?_
              refine lv_iload hx hb dX12_listOfNames_74 (lv_at hl 1 rfl) ?_
              refine r_sti (f := (upd ln lz (-1))) (j := p88) hx hb hE hP hD hS 23 (ma_23 G a _) rfl (mas_23 G a _) (by omega) (by decide) dX12_listOfNames_76 (fun H locs hP hD hS => ?_)
              refine lv_iload hx hb dX12_listOfNames_77 (lv_at hl 1 rfl) ?_
              refine lv_istore_n (lv' := [(2, .int (nI lz)), (1, .int (nI lz)), (4, .int (nI lz)), (3, .int (nI mo)), (0, .ref h0)]) hx hb dX12_listOfNames_79 rfl hl (by decide) rfl (fun ls hl => ?_)
              refine lv_aload_n hx hb dX12_listOfNames_80 rfl (lv_at hl 4 rfl) ?_
              refine lv_bipush (v := 44) hx hb dX12_listOfNames_81 (by decide) ?_
              have hP : va_P G.1 pCl (mW G h0 a (upd (upd (upd (upd (upd (upd F 15 (nI fa37)) 16 pl38) 34 (nI (lz + 1))) 64 (nI at36)) 15 (nI fa37)) 64 (nI at36)) (updA (updA (updA (updA B 2 K) 22 (upd lt lz (nI at2))) 23 (upd (upd ln lz (-1)) p88 (nI lz))) 2 K)) _ := hP
              have hD : va_D A (mW G h0 a (upd (upd (upd (upd (upd (upd F 15 (nI fa37)) 16 pl38) 34 (nI (lz + 1))) 64 (nI at36)) 15 (nI fa37)) 64 (nI at36)) (updA (updA (updA (updA B 2 K) 22 (upd lt lz (nI at2))) 23 (upd (upd ln lz (-1)) p88 (nI lz))) 2 K)) := mW_D hD
              refine pc_V0 (G := G) (As := [.int 44]) (rest := []) hx hb hml hown hq hE hX pX0_al hP hD hS hA hl.1 (R_may l G h0 a (upd (upd (upd (upd F 15 (nI fa37)) 16 pl38) 34 (nI (lz + 1))) 64 (nI at36)) (updA (updA (updA B 2 K) 22 (upd lt lz (nI at2))) 23 (upd (upd ln lz (-1)) p88 (nI lz))) at36 T fa37 K 44 (by omega) (by omega) hK (by omega) (by decide) (by decide)) (gV pw_1621 pw_1622 pw_1623 pw_1523 pw_1605) hV_X12_may 0 9 rfl rfl rfl rfl (Nat.le_of_ble_eq_true rfl) dX12_listOfNames_83 ⟨Nat.le_of_ble_eq_true rfl, Nat.le_of_ble_eq_true rfl⟩ ⟨Nat.le_of_ble_eq_true rfl, Nat.le_of_ble_eq_true rfl⟩ (fun v92 u90 H locs hw91 hP hD hS => ?_)
              obtain ⟨at93, r94⟩ := u90
              obtain ⟨hw91, h95, h96, h97, h98, h99, h100⟩ := hw91
              replace h95 : r94 ≤ 1 := h95
              replace h96 : fa37 + 100 * r94 ≤ 100 := h96
              replace h97 : at93 = at36 + r94 := h97
              replace h98 : at93 ≤ T := h98
              replace h99 : If (r94 = 1) (K at36 = 44) := h99
              replace h100 : If (r94 = 0) (fa37 = 0 → ¬ K at36 = 44) := h100
              obtain rfl : v92 = some (.int (nI r94)) := hw91
              have hP : va_P G.1 pCl (mW G h0 a (upd (upd (upd (upd F 15 (nI fa37)) 16 pl38) 34 (nI (lz + 1))) 64 (nI at93)) (updA (updA (updA B 2 K) 22 (upd lt lz (nI at2))) 23 (upd (upd ln lz (-1)) p88 (nI lz)))) _ := mW_to (F := F) (l1 := [(15, (nI fa37)), (16, pl38), (34, (nI (lz + 1))), (64, (nI at36)), (15, (nI fa37)), (64, (nI at93))]) (l2 := [(15, (nI fa37)), (16, pl38), (34, (nI (lz + 1))), (64, (nI at93))]) (V := [(nI fa37), pl38, (nI (lz + 1)), (nI at93), (nI fa37), (nI at93), (nI fa37), pl38, (nI (lz + 1)), (nI at93)]) rfl rfl (show (updA (updA (updA (updA B 2 K) 22 (upd lt lz (nI at2))) 23 (upd (upd ln lz (-1)) p88 (nI lz))) 2 K) = (updA (updA (updA B 2 K) 22 (upd lt lz (nI at2))) 23 (upd (upd ln lz (-1)) p88 (nI lz))) from updsA_eq2 (F := B) (l1 := [(2, K), (22, (upd lt lz (nI at2))), (23, (upd (upd ln lz (-1)) p88 (nI lz))), (2, K)]) (l2 := [(2, K), (22, (upd lt lz (nI at2))), (23, (upd (upd ln lz (-1)) p88 (nI lz)))]) (V := [K, (upd lt lz (nI at2)), (upd (upd ln lz (-1)) p88 (nI lz)), K, K, (upd lt lz (nI at2)), (upd (upd ln lz (-1)) p88 (nI lz))]) rfl rfl) hP
              have hD : va_D A (mW G h0 a (upd (upd (upd (upd F 15 (nI fa37)) 16 pl38) 34 (nI (lz + 1))) 64 (nI at93)) (updA (updA (updA B 2 K) 22 (upd lt lz (nI at2))) 23 (upd (upd ln lz (-1)) p88 (nI lz)))) := mW_D hD
              refine W.widen (k := 0) (n := 0) (Nat.le_of_ble_eq_true rfl) (Nat.le_of_ble_eq_true rfl) ?_
              refine W.eq (g2 := F0 m 86 ls [.int (nI r94)]) rfl ?_
              refine lv_istore_n (lv' := [(3, .int (nI r94)), (2, .int (nI lz)), (1, .int (nI lz)), (4, .int (nI lz)), (0, .ref h0)]) hx hb dX12_listOfNames_86 rfl hl (by decide) rfl (fun ls hl => ?_)
              refine lv_goto (tgt := 6) hx hb dX12_listOfNames_87 (by decide) ?_
              have hno : ¬ 0 < fa := by omega
              obtain ⟨kz101, hk1, hk2, hk3, hk4⟩ := kz_of (mo := r94) (a2 := at93) (T := T) (by omega) (by omega) (by omega)
              have hP : va_P G.1 pCl (mW G h0 a (upd (upd (upd (upd F 15 (nI fa37)) 16 pl38) 34 (nI (lz + 1))) 64 (nI at93)) (updA (updA (updA B 2 K) 22 (upd lt lz (nI at2))) 23 (upd (upd ln lz (-1)) p88 (nI lz)))) _ := hP
              have hD : va_D A (mW G h0 a (upd (upd (upd (upd F 15 (nI fa37)) 16 pl38) 34 (nI (lz + 1))) 64 (nI at93)) (updA (updA (updA B 2 K) 22 (upd lt lz (nI at2))) 23 (upd (upd ln lz (-1)) p88 (nI lz)))) := mW_D hD
              exact ih_o kz101 at93 fa37 (lz + 1) r94 pl38 (nI lz) (nI lz) (upd lt lz (nI at2)) (upd (upd ln lz (-1)) p88 (nI lz)) _ _ _ hk1 (by omega) (by omega) hk2 hk3 hk4 (by omega) (by omega) (by omega) (by omega) (by omega) (by omega) (by omega) (fun h9 => absurd h9 hno) (fun h9 => absurd h9 hno) (lsRow_link (lsRow_new hlr2 ha3) hp89.2) (Or.inr ⟨lz, by omega, rfl⟩) (Or.inr ⟨lz, by omega, rfl⟩) (fun i h => ((upd_ne (by omega)).trans ((upd_ne (by omega)).trans (hu9 i h)))) hP hD hS (lv_sub hl [0, 1, 2, 4] rfl)
  have hP : va_P G.1 pCl (mW G h0 a (upd (upd (upd (upd F 15 (nI fa)) 16 (F 16)) 34 (nI ls0)) 64 (nI at0)) (updA (updA (updA B 2 K) 22 lt0) 23 ln0)) _ := mW_to (F := F) (l1 := [(15, (nI fa)), (34, (nI ls0)), (64, (nI at0))]) (l2 := [(15, (nI fa)), (16, (F 16)), (34, (nI ls0)), (64, (nI at0))]) (V := [(nI fa), (nI ls0), (nI at0), (nI fa), (F 16), (nI ls0), (nI at0)]) rfl rfl rfl hP
  have hD : va_D A (mW G h0 a (upd (upd (upd (upd F 15 (nI fa)) 16 (F 16)) 34 (nI ls0)) 64 (nI at0)) (updA (updA (updA B 2 K) 22 lt0) 23 ln0)) := mW_D hD
  exact loop_o ((T + 1) + 1) at0 at0 fa ls0 1 (F 16) (-1) (-1) lt0 ln0 _ _ _ (by omega) (by omega) (by omega) (by omega) (by omega) (by omega) (by omega) (by omega) (by omega) (by omega) (by omega) (by omega) (by omega) (fun _ => ⟨rfl, rfl⟩) (fun _ => rfl) hlr (Or.inl rfl) (Or.inl rfl) (fun _ _ => rfl) hP hD hS (lv_sub hl [0, 1, 2, 3] rfl)
