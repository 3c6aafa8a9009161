/-! ways out of tries and methods -/
def LvQ (y : TY) (it : Nat → Nat) (O H f : Nat → Int32) (S nn : Nat → Nat) (J1 : Nat → Nat → Int64) (s hp fl m0 tp1 : Nat) (en1 nx1 : Int32) (ba1 on1 mr1 : Nat) : Prop :=
  ¬ en1 = 5 ∨ (en1 = 5 ∧ ∃ j1 x : Nat, it j1 = mr1 ∧ nx1 = nI x ∧ MIy y H S nn (J1 s) hp f (J1 29) on1 j1 ba1 x tp1 ∧ mT O f fl on1 x + 1 ≤ m0)
def PcK (z : Int64) (p : Int32) (pc : Nat) : Prop := ¬ z = 0 → p = nI pc
section YJ
variable {y : TY} {S nn it : Nat → Nat} {J J1 : Nat → Nat → Int64} {sp st st1 : Nat → Int64} {f O L R H : Nat → Int32} {hp on j ba pc tp tp1 x k s o fl m0 ba1 on1 mr1 sl h9 e n : Nat} {v w z : Int64} {en1 nx1 : Int32} {a : AS} {K : PK} {B : Nat → Nat → Int32} {dr nd nm cs rg : Nat}
theorem StG.ofL {z1 : Int64} (q : LvQ y it O H f S nn J1 s hp fl (mT O f fl on pc) tp1 en1 nx1 ba1 on1 mr1) (hl : LoE J1 s o) (hz : z1 = 0) : StG y it O H (mT O f fl on pc) pc tp1 en1 nx1 z1 J1 fl s o hp f on1 ba1 mr1 := by
  rcases q with q | ⟨q1, j1, x, q2, q3, q4, q5⟩
  · exact Or.inl ⟨q, hz⟩
  · exact Or.inr ⟨q1, hl, S, nn, j1, q2, Or.inl ⟨hz, x, q3, q4, q5⟩⟩
/-- into a LAST, by a return or by a jump -/
theorem LvQ.last {y0 : Int32} (h : MWy y H S nn (J s) hp f (J 29) on j ba pc) (hm : MOy y O L R H j) (ho : ¬ O pc = 0) (hk : yr0 y j ≤ k ∧ k < yr1 y j) (hi : inR (yQ y) k pc) (e : (yQ y).2.2.2.2.1 k = -1) (hv : VO S v) (hp9 : ∀ e : Nat, e ≤ 1 → PrO (yfi y) S (yrt y j) (ywp y j) ((yQ y).2.2.1 k) e (nmV y0) v) (hs : ¬ s = 29) :
    LvQ y it O H f S nn (updJ J 29 (vp_updL (vp_updL (J 29) (ba + (yQ y).2.2.2.1 k) (nmV y0)) (ba + ((yQ y).2.2.2.1 k + 1)) v)) s hp fl (mT O f fl on pc) (ba + ysl y j) 5 (nI ((yQ y).2.2.1 k)) ba on (it j) := by
  obtain ⟨q1, q2⟩ := h.last hm hk hi e hv hp9
  refine Or.inr ⟨rfl, j, _, rfl, rfl, ?_, mT_on ho (by have z9 : yhi y j ≤ 10000 := hm.2.1.2; have z8 : pc < yhi y j := h.1.1.2.2.2.2.1; omega) q2 (Nat.le_refl _)⟩
  rw [updJ_ne hs]
  exact q1
/-- back at the caller -/
theorem LvQ.back0 {i b p : Nat} (h1 : f (3 * (n + 1)) = nI p) (hp9 : p < 10000) (q : MIy y H S nn (J s) hp f (J 29) (n + 1) i b (p + 1) ba) (hon : on = n + 2) : LvQ y it O H f S nn J s hp fl (mT O f fl on pc) ba 5 (nI (p + 1)) b (on - 1) (it i) := by
  subst hon
  exact Or.inr ⟨rfl, i, p + 1, rfl, rfl, q, mT_back h1 hp9⟩
theorem LvQ.back1 {i b p : Nat} (h1 : f (3 * (n + 1)) = nI p) (hp9 : p < 10000) (q : MIy y H S nn (J s) hp f (vp_updL (J 29) ba v) (n + 1) i b (p + 1) (ba + 1)) (hon : on = n + 2) (hs : ¬ s = 29) : LvQ y it O H f S nn (updJ J 29 (vp_updL (J 29) ba v)) s hp fl (mT O f fl on pc) (ba + 1) 5 (nI (p + 1)) b (on - 1) (it i) := by
  subst hon
  refine Or.inr ⟨rfl, i, p + 1, rfl, rfl, ?_, mT_back h1 hp9⟩
  rw [updJ_ne hs]
  exact q
/-- a jump that leaves no LAST -/
theorem LvQ.jump (h : MIy y H S nn (J s) hp f (J 29) on j ba x tp) (ho : ¬ O pc = 0) (hp9 : pc < 10000) (hx : pc < x) : LvQ y it O H f S nn J s hp fl (mT O f fl on pc) tp 5 (nI x) ba on (it j) := Or.inr ⟨rfl, j, x, rfl, rfl, h, mT_on ho hp9 hx (Nat.le_refl _)⟩
theorem MIy.leave (h : MIy y H S nn sp hp f st on j ba pc tp) (hm : MOy y O L R H j) (ho : O pc = nI 28) (e0 : (yA y j pc).2.2.2 = []) (hl : L pc = nI x) (hx : x ≤ yhi y j) (hpx : pc < x) (g : Go (yfi y) (wos [] (yA y j pc)) (yA y j x)) :
    MIy y H S nn sp hp f st on j ba x tp ∧ ∀ k : Nat, lsR (yQ y) (yr0 y j) (yr1 y j) k → inR (yQ y) k pc → ¬ inR (yQ y) k x → ywp y j ((yQ y).2.2.1 k) x := by
  obtain ⟨n, hn⟩ : ∃ n, on = n + 1 := ⟨on - 1, by have := h.1.1.1; omega⟩
  subst hn
  obtain ⟨q1, q2⟩ := MI.leave h.1 hm ho e0 hl hx hpx g
  exact ⟨⟨q1, h.2⟩, q2⟩
theorem MIy.goOn (h : MIy y H S nn sp hp f st on j ba pc tp) (hm : MOy y O L R H j) (ho : O pc = nI 30) (e0 : (yA y j pc).2.2.2 = []) (hs : sl < 10000) (hl : L pc = nI sl) (hs1 : sl + 1 < (yA y j pc).2.1) (he : e ≤ 1) (hc : (yA y j pc).2.2.1 sl = 1000 + 2 * h9 + e) (ha : ∀ i : Nat, i < sl → (yA y j pc).2.2.1 i = (yA y j h9).2.2.1 i) (hw : ywp y j h9 x) :
    MIy y H S nn sp hp f st on j ba x tp ∧ pc < x ∧ x < yhi y j ∧ ∀ k : Nat, lsR (yQ y) (yr0 y j) (yr1 y j) k → inR (yQ y) k pc → ¬ inR (yQ y) k x → ywp y j ((yQ y).2.2.1 k) x := by
  obtain ⟨n, hn⟩ : ∃ n, on = n + 1 := ⟨on - 1, by have := h.1.1.1; omega⟩
  subst hn
  obtain ⟨q1, q2, q3, q4⟩ := MI.goOn h.1 hm ho e0 hs hl hs1 he hc ha hw
  exact ⟨⟨q1, h.2⟩, q2, q3, q4⟩
end YJ
