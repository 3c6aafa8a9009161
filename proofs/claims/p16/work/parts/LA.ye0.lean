/-! collecting: roots, one frame after the other -/
section YE
variable {y : TY} {fi : Nat → Nat → Prop} {fdn S nn ph ph1 ph2 : Nat → Nat} {fty : Nat → Nat → Nat} {sp sp0 ot st st1 st2 : Nat → Int64} {f O L R H : Nat → Int32} {p d o c hp on j ba pc tp i n b sn top q q2 e2 b2 i9 n9 p2 c2 : Nat} {v r : Int64} {a : AS} {os : List Nat}
theorem VO.nu (h : VO S v) (hv : v &&& 4294967296 = 0) : ∃ x : Int32, v = nmV x := by
  rcases h with h | ⟨p, d, _, e, _⟩
  · exact h
  · rw [e] at hv
    exact absurd hv rfV_and
theorem VO.rf (h : VO S v) (hv : ¬ v &&& 4294967296 = 0) : ∃ p d : Nat, p < 3008 ∧ v = rfV p ∧ S p = d + 1 := by
  rcases h with ⟨x, e⟩ | h
  · rw [e] at hv
    exact absurd nmV_and hv
  · exact h
theorem GI.vo (g : GI S nn sp0 sp ot o c ph) (h : HT fi fdn fty S nn sp0 hp) (h8 : 8 ≤ c) (hc : c < o) : VO S (ot c) := by
  obtain ⟨q, i, q1, q2, q3, q4⟩ := g.cell h8 hc
  obtain ⟨a1, a2, _⟩ := g.2.2.1 q q1
  obtain ⟨d, hd⟩ : ∃ d, S q = d + 1 := ⟨S q - 1, by omega⟩
  rw [q4]
  exact h.vo hd a2 q2
theorem OpS.vo : ∀ {l : List Nat} {top : Nat}, OpS fi S st l top → ∀ i : Nat, i < top → top ≤ i + l.length → VO S (st i)
  | [], top, _, i, h1, h2 => by have h3 : top ≤ i + 0 := h2; omega
  | t :: l, top, ⟨h1, h2, h3⟩, i, k1, k2 => by
    by_cases z : i = top - 1
    · rw [z]; exact h2.ok
    · exact OpS.vo h3 i (by omega) (by have k3 : top ≤ i + (l.length + 1) := k2; omega)
theorem FrK.vo (h : FrK fi S st a b sn top) (h1 : b ≤ i) (h2 : i < top) (h3 : i < b + a.2.1 ∨ b + sn ≤ i) : VO S (st i) := by
  obtain ⟨k1, k2, k3, k4, k5, k6⟩ := h
  by_cases z : i < b + a.2.1
  · have w := k5 (i - b) (by omega)
    rw [show b + (i - b) = i by omega] at w
    exact w
  · exact k6.vo i h2 (by omega)
theorem MvS.up (h : MvS ph st st1 b q sn top) (hg : ∀ p : Nat, ¬ ph p = 0 → ph1 p = ph p) (he : ∀ i : Nat, b ≤ i → i < top → st2 i = st1 i) : MvS ph1 st st2 b q sn top := fun i h1 h2 h3 => by
  rw [he i h1 h2]
  exact (h i h1 h2 h3).grow hg
/-- all has been moved if the rest is -/
def CoI (M : MX) (H f : Nat → Int32) (st : Nat → Int64) (on ba q sn tp : Nat) (ph2 : Nat → Nat) (st2 : Nat → Int64) (c2 b2 e2 q2 n9 : Nat) : Prop :=
  ∀ (ph1 : Nat → Nat) (st1 : Nat → Int64), (∀ p : Nat, ¬ ph2 p = 0 → ph1 p = ph2 p) → (∀ i : Nat, e2 ≤ i → i < tp → st1 i = st2 i) → (c2 = 0 ∨ (MvS ph1 st st1 b2 q2 n9 e2 ∧ MvF M H ph1 st st1 f (c2 - 1) b2)) → MvS ph1 st st1 ba q sn tp ∧ MvF M H ph1 st st1 f (on - 1) ba
theorem CoI.start {M : MX} (h : 1 ≤ on) : CoI M H f st on ba q sn tp ph st on ba tp q sn := fun ph1 st1 _ _ hx => hx.resolve_left (by omega)
theorem CoI.done {M : MX} (h : CoI M H f st on ba q sn tp ph2 st2 0 b2 e2 q2 n9) : MvS ph2 st st2 ba q sn tp ∧ MvF M H ph2 st st2 f (on - 1) ba := h ph2 st2 (fun _ _ => rfl) (fun _ _ _ => rfl) (Or.inl rfl)
/-- one frame more -/
theorem CoI.step {M : MX} {ph3 : Nat → Nat} {st3 : Nat → Int64} {b3 q3 n3 i3 p3 : Nat} (h : CoI M H f st on ba q sn tp ph2 st2 (n + 1) b2 e2 q2 n9) (hg : ∀ p : Nat, ¬ ph2 p = 0 → ph3 p = ph2 p) (hs : ∀ i : Nat, e2 ≤ i → i < tp → st3 i = st2 i) (hm : MvS ph3 st st3 b2 q2 n9 e2) (he : b2 ≤ e2 ∧ e2 ≤ tp)
    (hf : 1 ≤ n → f (3 * n) = nI p3 ∧ f (3 * n + 1) = nI b3 ∧ f (3 * n + 2) = nI i3 ∧ p3 < 10000 ∧ b3 ≤ 32000 ∧ i3 < 100000 ∧ H p3 = nI q3 ∧ q3 ≤ 32000 ∧ n3 = M.2.1 i3) : CoI M H f st on ba q sn tp ph3 st3 n b3 b2 q3 n3 := fun ph1 st1 g1 g2 g3 => by
  refine h ph1 st1 (fun p hp9 => (g1 p (by rw [hg p hp9]; exact hp9)).trans (hg p hp9)) (fun i hi hi2 => (g2 i (by omega) hi2).trans (hs i hi hi2)) (Or.inr ⟨hm.up g1 (fun i hi hi2 => g2 i hi (by omega)), ?_⟩)
  show MvF M H ph1 st st1 f n b2
  cases n with
  | zero => trivial
  | succ k =>
    obtain ⟨f1, f2, f3, f4, f5, f6, f7, f8, f9⟩ := hf (by omega)
    obtain ⟨g4, g5⟩ := g3.resolve_left (by omega)
    intro i pc b q9 e1 e3 e4 e5 e6 e7 e8 e9
    have z1 : p3 = pc := (nI_eq (by omega) (by omega)).mp (f1.symm.trans e1)
    subst z1
    have z2 : b3 = b := (nI_eq (by omega) (by omega)).mp (f2.symm.trans e3)
    subst z2
    have z3 : i3 = i := (nI_eq (by omega) (by omega)).mp (f3.symm.trans e4)
    subst z3
    have z4 : q3 = q9 := (nI_eq (by omega) (by omega)).mp (f7.symm.trans e9)
    subst z4
    subst f9
    exact ⟨g4, g5⟩
/-- at a place, with the operands os -/
def MIa (y : TY) (H : Nat → Int32) (S nn : Nat → Nat) (sp : Nat → Int64) (hp : Nat) (f : Nat → Int32) (st : Nat → Int64) (on j base pc : Nat) (os : List Nat) (top : Nat) : Prop :=
  (1 ≤ on ∧ on ≤ 100 ∧ j < ynm y ∧ ylo y j ≤ pc ∧ pc < yhi y j ∧ base ≤ 320 * (on - 1) ∧ top + 1 ≤ 320 * on) ∧ FFy y S j st (wos os (yA y j pc)) base top ∧ CS (yfi y) (yM y) (ynm y) f S st (on - 1) j base ∧ HT (yfi y) (yfd y) (yft y) S nn sp hp ∧ ExS y S ∧ HeK y H f on
theorem MIy.ma (h : MIy y H S nn sp hp f st on j ba pc tp) (hm : MOy y O L R H j) : MIa y H S nn sp hp f st on j ba pc (yA y j pc).2.2.2 tp := by
  obtain ⟨n1, n2, n3, n4, n5, n6, n7, n8, n9, n10, n11, n12⟩ := h.nums hm
  exact ⟨⟨n1, n2, n3, n4, n5, n7, n8⟩, h.ff, h.1.2.2.1, h.1.2.2.2, h.2⟩
theorem MIa.less {t : Nat} {l : List Nat} (h : MIa y H S nn sp hp f st on j ba pc (t :: l) tp) : MIa y H S nn sp hp f st on j ba pc l (tp - 1) := by
  obtain ⟨⟨a1, a2, a3, a4, a5, a6, a7⟩, b, c9, d9, e9⟩ := h
  obtain ⟨q1, q2, q3, q4⟩ := FFy.pop b (show (wos (t :: l) (yA y j pc)).2.2.2 = t :: l from rfl)
  exact ⟨⟨a1, a2, a3, a4, a5, a6, by omega⟩, q4, c9, d9, e9⟩
/-- all has moved -/
theorem MIa.moved (h : MIa y H S nn sp0 hp f st on j ba pc os tp) (g : GI S nn sp0 sp ot o o ph) (hnm : ynm y ≤ 100000) (hM : ∀ i : Nat, i < ynm y → MOy y O L R H i) (hq : H pc = nI q) (hq2 : q = (yA y j pc).2.1) (ht : MvS ph st st1 ba q (ysl y j) tp ∧ MvF (yM y) H ph st st1 f (on - 1) ba) : MIa y H (S9 S ph) (N9 nn ph) ot o f st1 on j ba pc os tp := by
  obtain ⟨⟨a1, a2, a3, a4, a5, a6, a7⟩, b, c9, d9, e9, e10⟩ := h
  have hs := g.sm
  have hl := FFy.lo b
  refine ⟨⟨a1, a2, a3, a4, a5, a6, a7⟩, ⟨b.1.move hs ht.1 (by show (yA y j pc).2.1 ≤ q; omega), b.2.move hs ht.1 (by show (yA y j pc).2.1 ≤ q; omega) hl.1 hl.2.1⟩, CS.move hs hnm hM (by omega) c9 ht.2, g.all d9 (fun n d hn hd => ⟨_, hdV_num hn (by omega)⟩), ⟨fun p h1 h2 => (hs.1 p (by omega)).trans (e9.1 p h1 h2), fun p d hp9 hd => ?_⟩, e10⟩
  by_cases z : p < 8
  · rw [hs.1 p z] at hp9
    exact e9.2 p d hp9 hd
  · obtain ⟨r, r1, r2⟩ := S9_of (by rw [hp9]; omega) (by omega)
    subst r2
    rw [S9_at g.2.2.2.2.1 r1 (g.2.2.1 r r1).2.2.2.1] at hp9
    exact e9.2 r d hp9 hd
/-- a thing is made, and stands on the stack -/
theorem MIa.made {sp1 : Nat → Int64} (h : MIa y H S nn sp hp f st on j ba pc os tp) (hd : d < 60 ∧ n = 1 + yfd y d ∧ (∀ i : Nat, i < yfd y d → yft y d i = 60 ∨ yft y d i = 61 ∨ RfT (yft y d i)) ∨ 64 ≤ d ∧ d < 128 ∧ 2 ≤ n ∧ (d - 64 = 60 ∨ d - 64 = 61 ∨ RfT (d - 64))) (hx : d < 60 → (yX y).1 d) (hself : yfi y d d)
    (h1 : 1 ≤ n) (hr : hp + n ≤ 3008) (e0 : sp1 hp = hdV n d) (e1 : ∀ i : Nat, 1 ≤ i → i < n → sp1 (hp + i) = 0) (e2 : ∀ x : Nat, x < hp → sp1 x = sp x) (ht : tp + 2 ≤ 320 * on) : MIa y H (upM S hp (d + 1)) (upM nn hp n) sp1 (hp + n) f (vp_updL st tp (rfV hp)) on j ba pc (d :: os) (tp + 1) := by
  obtain ⟨⟨a1, a2, a3, a4, a5, a6, a7⟩, b, c9, d9, e9, e10⟩ := h
  have s0 : S hp = 0 := by
    refine Classical.byContradiction fun z => ?_
    obtain ⟨d8, e8⟩ : ∃ d8, S hp = d8 + 1 := ⟨S hp - 1, by omega⟩
    have := d9.1
    obtain ⟨k1, k2, _⟩ := d9.2.2.2 hp d8 e8 (by omega)
    omega
  have mono : ∀ p d8 : Nat, S p = d8 + 1 → upM S hp (d + 1) p = d8 + 1 := fun p d8 e8 => by
    rw [upM_ne (fun z => by rw [z, s0] at e8; omega)]; exact e8
  have hl := FFy.lo b
  have rd : RfT d := by unfold RfT; rcases hd with w | w <;> omega
  have vt : VT (yfi y) (upM S hp (d + 1)) d (rfV hp) := Or.inr (Or.inr (Or.inr (Or.inr ⟨rd, Or.inr ⟨hp, d, by omega, rfl, upM_eq, hself⟩⟩)))
  refine ⟨⟨a1, a2, a3, a4, a5, a6, by omega⟩, FFy.put (l := os) (FF.grow b mono) vt, CS.same (st1 := vp_updL st tp (rfV hp)) (CS.grow mono c9) (fun _ _ => rfl) (fun i hi => vpL_ne (by omega)), HT.made d9 hd h1 hr e0 e1 e2, ⟨fun p k1 k2 => ?_, fun p d8 k1 k2 => ?_⟩, e10⟩
  · have := d9.1
    rw [upM_ne (by omega)]; exact e9.1 p k1 k2
  · by_cases z : p = hp
    · rw [z, upM_eq] at k1
      have : d8 = d := by omega
      subst this
      exact hx k2
    · rw [upM_ne z] at k1
      exact e9.2 p d8 k1 k2
end YE
section YF
variable {y : TY} {S nn it : Nat → Nat} {sp st : Nat → Int64} {f O L R H : Nat → Int32} {hp on j ba pc tp x t : Nat} {a a1 : AS} {os l : List Nat} {K : PK} {B : Nat → Nat → Int32} {dr nd nm cs rg d : Nat}
theorem MIa.go (h : MIa y H S nn sp hp f st on j ba pc os tp) (hm : MOy y O L R H j) (g : Go (yfi y) (wos os (yA y j pc)) (yA y j x)) (h1 : ylo y j ≤ x) (h2 : x ≤ yhi y j) : MIy y H S nn sp hp f st on j ba x tp := by
  obtain ⟨⟨a1, a2, a3, a4, a5, a6, a7⟩, b, c9, d9, e9⟩ := h
  exact ⟨⟨⟨a1, a2, a3, h1, MO.tgt hm g h2, a6⟩, FF.go b g, c9, d9⟩, e9⟩
theorem MIa.thr (h : MIa y H S nn sp hp f st on j ba pc os tp) : MWy y H S nn sp hp f st on j ba pc := by
  obtain ⟨⟨a1, a2, a3, a4, a5, a6, a7⟩, b, c9, d9, e9⟩ := h
  have z := FrK.drop (a := wos os (yA y j pc)) b.1
  exact ⟨⟨⟨a1, a2, a3, a4, a5, a6⟩, ⟨z, b.2⟩, c9, d9⟩, e9⟩
/-- room for what the place behind has -/
theorem MOy.room (hm : MOy y O L R H j) (g : Go (yfi y) a1 (yA y j x)) (h1 : ylo y j ≤ x) (h2 : x ≤ yhi y j) : a1.2.2.2.length + ysl y j ≤ 319 := by
  have hx := MO.tgt hm g h2
  have e : a1.2.2.2.length = (yA y j x).2.2.2.length := OL.len g.2.2.2
  have w : (yA y j x).2.2.2.length + ysl y j ≤ 319 := (hm.2.2.2.1 x h1 hx g.1).2.2.1
  omega
theorem MOy.held (hm : MOy y O L R H j) (h1 : ylo y j ≤ pc) (h2 : pc < yhi y j) (h3 : (yA y j pc).1 = 1) (ho : O pc = nI 21 ∨ O pc = nI 22 ∨ O pc = nI 23 ∨ O pc = nI 24) : H pc = nI ((yA y j pc).2.1) := by
  obtain ⟨w1, w2, w3, ⟨q, q1, q2, q3, q4⟩, w5⟩ := hm.2.2.2.1 pc h1 h2 h3
  rw [q1, q4 ho]
theorem PrY.self (h : PrY y K B dr nd nm it cs rg) (hd : (yX y).1 d ∨ (64 ≤ d ∧ d < 128)) : yfi y d d := by
  have hn := h.1.2.2.2.2
  rw [h.1.2.1]
  refine ⟨?_, ?_⟩
  · rcases hd with hd | hd
    · exact Or.inl (h.1.2.2.1 d hd)
    · exact Or.inr hd
  · have hd9 : d < 37 ∨ 64 ≤ d := by
      rcases hd with hd | hd
      · have := h.1.2.2.1 d hd
        omega
      · omega
    exact ⟨by omega, by omega, Or.inl rfl⟩
end YF
