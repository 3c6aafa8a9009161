/-! statements with statements in them: jumps that are still to be aimed, regions, scopes -/
/-- the loop around, if there is one: its jumps are still to be aimed -/
def LpS (K : PK) (O L : Nat → Int32) (A : Nat → AS) (pd : Nat → Prop) (lp : Option Nat) (lw cs hd : Nat) (sl : Nat → Nat) (hdL : Nat) (slL : Nat → Nat) (xb xc : List Nat) : Prop :=
  (∀ z : Nat, pd z → z < cs) ∧ (lp = none → xb = [] ∧ xc = []) ∧ ∀ lq : Nat, lp = some lq → LpC K O L A pd lq lw cs hd sl hdL slL xb xc ∧ ∀ z : Nat, z ∈ xb → ¬ z ∈ xc
/-- jumps still to be aimed: those of the loop around, and own ones (js) -/
def PdS (pd pd1 : Nat → Prop) (xb xb1 xc xc1 js : List Nat) (cs cs1 : Nat) : Prop :=
  (∀ z : Nat, pd z → pd1 z) ∧ (∀ z : Nat, pd1 z → pd z ∨ z ∈ xb1 ∨ z ∈ xc1 ∨ z ∈ js) ∧ (∀ z : Nat, z ∈ xb → z ∈ xb1) ∧ (∀ z : Nat, z ∈ xc → z ∈ xc1) ∧ (∀ z : Nat, z ∈ xb1 → z ∈ xb ∨ cs ≤ z) ∧ (∀ z : Nat, z ∈ xc1 → z ∈ xc ∨ cs ≤ z) ∧
  ∀ z : Nat, z ∈ js → cs ≤ z ∧ z < cs1 ∧ pd1 z ∧ ¬ z ∈ xb1 ∧ ¬ z ∈ xc1
def pdm (pd : Nat → Prop) (xs : List Nat) : Nat → Prop := fun z => pd z ∧ ¬ z ∈ xs
/-- the rows of regions -/
def RgQx (B : Nat → Nat → Int32) (Q : RX) (gr nd : Nat) : Prop := ∀ k : Nat, k < gr → k < 625 → B 20 k = nI (Q.1 k) ∧ B 21 k = nI (Q.2.1 k) ∧ B 22 k = nI (Q.2.2.1 k) ∧ B 23 k = Q.2.2.2.2.1 k ∧ B 24 k = nI (Q.2.2.2.1 k) ∧ Q.1 k ≤ 10000 ∧ Q.2.1 k ≤ 10000 ∧ Q.2.2.1 k < 10000 ∧ Q.2.2.2.1 k ≤ 1000 ∧ (Q.2.2.2.2.1 k = -1 ∨ ∃ c : Nat, c < nd ∧ Q.2.2.2.2.1 k = nI c)
def upQx (Q : RX) (k st en ha so : Nat) (cl : Int32) (le : Nat) : RX := (upM Q.1 k st, upM Q.2.1 k en, upM Q.2.2.1 k ha, upM Q.2.2.2.1 k so, upI Q.2.2.2.2.1 k cl, upM Q.2.2.2.2.2 k le)
def upLx (Q : RX) (k le : Nat) : RX := (Q.1, Q.2.1, Q.2.2.1, Q.2.2.2.1, Q.2.2.2.2.1, upM Q.2.2.2.2.2 k le)
/-- regions from g0 to g1 are the same -/
def RqR (Q Q1 : RX) (g0 g1 : Nat) : Prop := ∀ k : Nat, g0 ≤ k → k < g1 → Q1.1 k = Q.1 k ∧ Q1.2.1 k = Q.2.1 k ∧ Q1.2.2.1 k = Q.2.2.1 k ∧ Q1.2.2.2.1 k = Q.2.2.2.1 k ∧ Q1.2.2.2.2.1 k = Q.2.2.2.2.1 k ∧ Q1.2.2.2.2.2 k = Q.2.2.2.2.2 k
def VrS (B B1 : Nat → Nat → Int32) (vr : Nat) : Prop := ∀ i : Nat, i < vr → B1 26 i = B 26 i ∧ B1 27 i = B 27 i
def BtR (B B1 : Nat → Nat → Int32) : Prop := ∀ i : Nat, ¬ (16 ≤ i ∧ i ≤ 27) → B1 i = B i
section ZT
variable {K K0 K1 : PK} {O L R H O0 L0 O1 L1 R1 H1 : Nat → Int32} {A A0 A1 A2 : Nat → AS} {pd pd0 pd1 pd2 : Nat → Prop} {lp : Option Nat} {lw lw0 cs cs0 cs1 cs2 hd hd1 hd2 hdL gr nd k x vr vr1 c0 : Nat} {sl sl1 sl2 slL : Nat → Nat} {xb xc xb0 xc0 xb1 xc1 xb2 xc2 js js1 xs : List Nat} {B B1 B2 : Nat → Nat → Int32} {Q Q1 Q2 : RX}
theorem LpS.lt (h : LpS K O L A pd lp lw cs hd sl hdL slL xb xc) : (∀ z : Nat, z ∈ xb → z < cs) ∧ ∀ z : Nat, z ∈ xc → z < cs := by
  cases lp with
  | none =>
    obtain ⟨e1, e2⟩ := h.2.1 rfl
    rw [e1, e2]
    exact ⟨fun z hz => absurd hz (List.not_mem_nil), fun z hz => absurd hz (List.not_mem_nil)⟩
  | some lq =>
    obtain ⟨q, _⟩ := h.2.2 lq rfl
    exact ⟨fun z hz => (q.2.2.1 z hz).2.1, fun z hz => (q.2.2.2.1 z hz).2.1⟩
theorem LpS.same (h : LpS K O L A pd lp lw cs hd sl hdL slL xb xc) (hk : ∀ lq : Nat, lp = some lq → ∀ f : Nat, 27 ≤ f → f ≤ 30 → K1.2.1 f lq = K.2.1 f lq) (hs : ∀ z : Nat, z < cs → O1 z = O z ∧ L1 z = L z ∧ A1 z = A z) (hp : ∀ z : Nat, pd z → pd1 z) (hl : ∀ z : Nat, pd1 z → z < cs1) (hc : cs ≤ cs1) (hh : hd ≤ hd1 ∧ ∀ s : Nat, s < hd → sl1 s = sl s) : LpS K1 O1 L1 A1 pd1 lp lw cs1 hd1 sl1 hdL slL xb xc := by
  refine ⟨hl, h.2.1, fun lq e => ?_⟩
  obtain ⟨q1, q2⟩ := h.2.2 lq e
  have q9 := q1.2.2.2.2.2.2.2.2.1
  exact ⟨q1.same (hk lq e) (fun z hz => ⟨(hs z hz).1, (hs z hz).2.1, (hs z hz).2.2, hp z⟩) hc (by omega) (fun s hs9 => hh.2 s (by omega)), q2⟩
/-- back to what was held -/
theorem LpS.to (h : LpS K O L A pd lp lw cs hd2 sl2 hdL slL xb xc) (h0 : LpS K0 O0 L0 A0 pd0 lp lw0 cs0 hd sl hdL slL xb0 xc0) : LpS K O L A pd lp lw cs hd sl hdL slL xb xc := by
  refine ⟨h.1, h.2.1, fun lq e => ?_⟩
  obtain ⟨⟨a1, a2, a3, a4, a5, a6, a7, a8, _, _⟩, b⟩ := h.2.2 lq e
  obtain ⟨⟨_, _, _, _, _, _, _, _, a9, a10⟩, _⟩ := h0.2.2 lq e
  exact ⟨⟨a1, a2, a3, a4, a5, a6, a7, a8, a9, a10⟩, b⟩
/-- own jumps are aimed -/
theorem LpS.land {b : AS} (h : LpS K O L A pd lp lw cs hd sl hdL slL xb xc) (hd9 : ∀ z : Nat, z ∈ xs → ¬ z ∈ xb ∧ ¬ z ∈ xc) : LpS K O (aim L xs cs) (upS A cs b) (pdm pd xs) lp lw cs hd sl hdL slL xb xc := by
  refine ⟨fun z hz => h.1 z hz.1, h.2.1, fun lq e => ?_⟩
  obtain ⟨⟨a1, a2, a3, a4, a5, a6, a7, a8, a9⟩, b9⟩ := h.2.2 lq e
  have nb : ∀ z : Nat, z ∈ xb → ¬ z ∈ xs := fun z hz w => (hd9 z w).1 hz
  have nc : ∀ z : Nat, z ∈ xc → ¬ z ∈ xs := fun z hz w => (hd9 z w).2 hz
  exact ⟨⟨a1.same (fun y hy => aim_no (nb y hy)), a2.same (fun y hy => aim_no (nc y hy)), a3.same (fun z hz => ⟨rfl, upS_ne (by omega)⟩) (Nat.le_refl _), a4.same (fun z hz => ⟨rfl, upS_ne (by omega)⟩) (Nat.le_refl _), a5, a6, fun z hz => ⟨a7 z hz, nb z hz⟩, fun z hz => ⟨a8 z hz, nc z hz⟩, a9⟩, b9⟩
theorem PdS.rfl : PdS pd pd xb xb xc xc [] cs cs1 := ⟨fun _ h => h, fun _ h => Or.inl h, fun _ h => h, fun _ h => h, fun _ h => Or.inl h, fun _ h => Or.inl h, fun z hz => absurd hz (List.not_mem_nil)⟩
theorem PdS.wk (h : PdS pd pd1 xb xb1 xc xc1 js cs cs1) (hc : cs1 ≤ cs2) : PdS pd pd1 xb xb1 xc xc1 js cs cs2 := ⟨h.1, h.2.1, h.2.2.1, h.2.2.2.1, h.2.2.2.2.1, h.2.2.2.2.2.1, fun z hz => by
  obtain ⟨a1, a2, a3⟩ := h.2.2.2.2.2.2 z hz
  exact ⟨a1, by omega, a3⟩⟩
theorem PdS.call (h : PdS pd pd1 xb xb1 xc xc1 js cs cs1) (q : PdS pd1 pd2 xb1 xb2 xc1 xc2 [] cs1 cs2) (h1 : cs ≤ cs1) (h2 : cs1 ≤ cs2) : PdS pd pd2 xb xb2 xc xc2 js cs cs2 := by
  obtain ⟨a1, a2, a3, a4, a5, a6, a7⟩ := h
  obtain ⟨b1, b2, b3, b4, b5, b6, b7⟩ := q
  refine ⟨fun z hz => b1 z (a1 z hz), fun z hz => ?_, fun z hz => b3 z (a3 z hz), fun z hz => b4 z (a4 z hz), fun z hz => ?_, fun z hz => ?_, fun z hz => ?_⟩
  · rcases b2 z hz with w | w | w | w
    · rcases a2 z w with y | y | y | y
      · exact Or.inl y
      · exact Or.inr (Or.inl (b3 z y))
      · exact Or.inr (Or.inr (Or.inl (b4 z y)))
      · exact Or.inr (Or.inr (Or.inr y))
    · exact Or.inr (Or.inl w)
    · exact Or.inr (Or.inr (Or.inl w))
    · exact absurd w (List.not_mem_nil)
  · rcases b5 z hz with w | w
    · exact a5 z w
    · exact Or.inr (by omega)
  · rcases b6 z hz with w | w
    · exact a6 z w
    · exact Or.inr (by omega)
  · obtain ⟨c1, c2, c3, c4, c5⟩ := a7 z hz
    refine ⟨c1, by omega, b1 z c3, fun w => ?_, fun w => ?_⟩
    · rcases b5 z w with y | y
      · exact c4 y
      · omega
    · rcases b6 z w with y | y
      · exact c5 y
      · omega
/-- an own jump more -/
theorem PdS.jmp (h : PdS pd pd1 xb xb1 xc xc1 js cs cs1) (hb : ∀ z : Nat, z ∈ xb1 → z < cs1) (hc : ∀ z : Nat, z ∈ xc1 → z < cs1) (h1 : cs ≤ cs1) : PdS pd (fun z => pd1 z ∨ z = cs1) xb xb1 xc xc1 (cs1 :: js) cs (cs1 + 1) := by
  obtain ⟨a1, a2, a3, a4, a5, a6, a7⟩ := h
  refine ⟨fun z hz => Or.inl (a1 z hz), fun z hz => ?_, a3, a4, a5, a6, fun z hz => ?_⟩
  · rcases hz with w | w
    · rcases a2 z w with y | y | y | y
      · exact Or.inl y
      · exact Or.inr (Or.inl y)
      · exact Or.inr (Or.inr (Or.inl y))
      · exact Or.inr (Or.inr (Or.inr (List.mem_cons_of_mem _ y)))
    · rw [w]; exact Or.inr (Or.inr (Or.inr (List.mem_cons_self ..)))
  · rcases List.mem_cons.mp hz with e | e
    · subst e
      exact ⟨h1, by omega, Or.inr (Eq.refl _), fun w => by have := hb _ w; omega, fun w => by have := hc _ w; omega⟩
    · obtain ⟨c1, c2, c3, c4⟩ := a7 z e
      exact ⟨c1, by omega, Or.inl c3, c4⟩
/-- own jumps are aimed -/
theorem PdS.land (h : PdS pd pd1 xb xb1 xc xc1 js cs cs1) (hl : ∀ z : Nat, pd z → z < cs) (hx : ∀ z : Nat, z ∈ xs → z ∈ js) (h1 : ∀ z : Nat, z ∈ js → z ∈ xs ∨ z ∈ js1) (h2 : ∀ z : Nat, z ∈ js1 → z ∈ js ∧ ¬ z ∈ xs) : PdS pd (pdm pd1 xs) xb xb1 xc xc1 js1 cs cs1 := by
  obtain ⟨a1, a2, a3, a4, a5, a6, a7⟩ := h
  refine ⟨fun z hz => ⟨a1 z hz, fun w => ?_⟩, fun z hz => ?_, a3, a4, a5, a6, fun z hz => ?_⟩
  · have y := (a7 z (hx z w)).1
    have y2 := hl z hz
    omega
  · rcases a2 z hz.1 with y | y | y | y
    · exact Or.inl y
    · exact Or.inr (Or.inl y)
    · exact Or.inr (Or.inr (Or.inl y))
    · rcases h1 z y with w | w
      · exact absurd w hz.2
      · exact Or.inr (Or.inr (Or.inr w))
  · obtain ⟨w1, w2⟩ := h2 z hz
    obtain ⟨c1, c2, c3, c4⟩ := a7 z w1
    exact ⟨c1, c2, ⟨c3, w2⟩, c4⟩
/-- all own jumps are aimed -/
theorem PdS.all (h : PdS pd pd1 xb xb1 xc xc1 js cs cs1) (hl : ∀ z : Nat, pd z → z < cs) : PdS pd (pdm pd1 js) xb xb1 xc xc1 [] cs cs1 := h.land hl (fun _ w => w) (fun _ w => Or.inl w) (fun z hz => absurd hz (List.not_mem_nil))
theorem pdm_out {z : Nat} (h : pd z) (hn : ¬ pdm pd xs z) : z ∈ xs := Classical.byContradiction fun w => hn ⟨h, w⟩
theorem pdm_keep {z : Nat} (h : pd z) (hn : ¬ z ∈ xs) : pdm pd xs z := ⟨h, hn⟩
theorem pdm_one {j z : Nat} (h : pd z) : pdm pd [j] z ∨ z = j := by
  by_cases w : z = j
  · exact Or.inr w
  · exact Or.inl ⟨h, fun q => w (List.mem_singleton.mp q)⟩
theorem LpS.dis (h : PdS pd pd1 xb xb1 xc xc1 js cs cs1) (hx : ∀ z : Nat, z ∈ xs → z ∈ js) : ∀ z : Nat, z ∈ xs → ¬ z ∈ xb1 ∧ ¬ z ∈ xc1 := fun z hz => (h.2.2.2.2.2.2 z (hx z hz)).2.2.2
theorem RqR.of (h : RqS Q Q1 gr) : RqR Q Q1 k gr := fun i _ hi => h i hi
theorem upQ_ne {st en ha so le i : Nat} {cl : Int32} (h : ¬ i = k) : (upQx Q k st en ha so cl le).1 i = Q.1 i ∧ (upQx Q k st en ha so cl le).2.1 i = Q.2.1 i ∧ (upQx Q k st en ha so cl le).2.2.1 i = Q.2.2.1 i ∧ (upQx Q k st en ha so cl le).2.2.2.1 i = Q.2.2.2.1 i ∧ (upQx Q k st en ha so cl le).2.2.2.2.1 i = Q.2.2.2.2.1 i ∧ (upQx Q k st en ha so cl le).2.2.2.2.2 i = Q.2.2.2.2.2 i := ⟨upM_ne h, upM_ne h, upM_ne h, upM_ne h, upI_ne h, upM_ne h⟩
theorem RqS.upq {st en ha so le : Nat} {cl : Int32} : RqS Q (upQx Q gr st en ha so cl le) gr := fun i hi => upQ_ne (by omega)
theorem upLx_ne {le i : Nat} (h : ¬ i = k) : (upLx Q k le).1 i = Q.1 i ∧ (upLx Q k le).2.1 i = Q.2.1 i ∧ (upLx Q k le).2.2.1 i = Q.2.2.1 i ∧ (upLx Q k le).2.2.2.1 i = Q.2.2.2.1 i ∧ (upLx Q k le).2.2.2.2.1 i = Q.2.2.2.2.1 i ∧ (upLx Q k le).2.2.2.2.2 i = Q.2.2.2.2.2 i := ⟨rfl, rfl, rfl, rfl, rfl, upM_ne h⟩
theorem RgQx.rows (h : RgQx B Q gr nd) (e : ∀ i : Nat, 20 ≤ i → i ≤ 24 → B1 i = B i) : RgQx B1 Q gr nd := fun k h1 h2 => by
  rw [e 20 (by omega) (by omega), e 21 (by omega) (by omega), e 22 (by omega) (by omega), e 23 (by omega) (by omega), e 24 (by omega) (by omega)]
  exact h k h1 h2
theorem RgQx.ber (h : RgQx B Q gr nd) (e20 : B1 20 = B 20) (e21 : B1 21 = B 21) (e22 : B1 22 = B 22) (e23 : B1 23 = B 23) (e24 : B1 24 = B 24) : RgQx B1 Q gr nd := fun k h1 h2 => by
  rw [e20, e21, e22, e23, e24]
  exact h k h1 h2
theorem RgQx.upl {le : Nat} (h : RgQx B Q gr nd) : RgQx B (upLx Q k le) gr nd := h
theorem updX_ne {f : Nat → Int32} {k i : Nat} {x : Int32} (h : ¬ i = k) : upd f k x i = f i := if_neg h
/-- one region more -/
theorem RgQx.add {st en ha so le : Nat} {cl : Int32} (h : RgQx B Q gr nd) (hg : gr < 625) (e20 : B1 20 = upd (B 20) gr (nI st)) (e21 : B1 21 = upd (B 21) gr (nI en)) (e22 : B1 22 = upd (B 22) gr (nI ha)) (e23 : B1 23 = upd (B 23) gr cl) (e24 : B1 24 = upd (B 24) gr (nI so)) (hb : st ≤ 10000 ∧ en ≤ 10000 ∧ ha < 10000 ∧ so ≤ 1000) (hc : cl = -1 ∨ ∃ c : Nat, c < nd ∧ cl = nI c) : RgQx B1 (upQx Q gr st en ha so cl le) (gr + 1) nd := fun i h1 h2 => by
  rw [e20, e21, e22, e23, e24]
  by_cases z : i = gr
  · subst z
    refine ⟨?_, ?_, ?_, ?_, ?_, ?_, ?_, ?_, ?_, ?_⟩
    · exact upd_eq.trans (congrArg nI upM_eq.symm)
    · exact upd_eq.trans (congrArg nI upM_eq.symm)
    · exact upd_eq.trans (congrArg nI upM_eq.symm)
    · exact upd_eq.trans upI_eq.symm
    · exact upd_eq.trans (congrArg nI upM_eq.symm)
    · show upM Q.1 i st i ≤ 10000
      rw [upM_eq]; exact hb.1
    · show upM Q.2.1 i en i ≤ 10000
      rw [upM_eq]; exact hb.2.1
    · show upM Q.2.2.1 i ha i < 10000
      rw [upM_eq]; exact hb.2.2.1
    · show upM Q.2.2.2.1 i so i ≤ 1000
      rw [upM_eq]; exact hb.2.2.2
    · show upI Q.2.2.2.2.1 i cl i = -1 ∨ ∃ c : Nat, c < nd ∧ upI Q.2.2.2.2.1 i cl i = nI c
      rw [upI_eq]; exact hc
  · obtain ⟨a1, a2, a3, a4, a5, a6⟩ := upQ_ne (Q := Q) (k := gr) (st := st) (en := en) (ha := ha) (so := so) (cl := cl) (le := le) z
    rw [a1, a2, a3, a4, a5, updX_ne z, updX_ne z, updX_ne z, updX_ne z, updX_ne z]
    exact h i (by omega) h2
/-- rows are full -/
theorem RgQx.full {st en ha so le : Nat} {cl : Int32} (h : RgQx B Q gr nd) (hg : 625 ≤ gr) : RgQx B (upQx Q gr st en ha so cl le) (gr + 1) nd := fun i h1 h2 => by
  obtain ⟨a1, a2, a3, a4, a5, a6⟩ := upQ_ne (Q := Q) (k := gr) (i := i) (st := st) (en := en) (ha := ha) (so := so) (cl := cl) (le := le) (by omega)
  rw [a1, a2, a3, a4, a5]
  exact h i (by omega) h2
theorem VrS.rfl : VrS B B vr := fun _ _ => ⟨Eq.refl _, Eq.refl _⟩
theorem VrS.trans (h : VrS B B1 vr) (q : VrS B1 B2 vr1) (hv : vr ≤ vr1) : VrS B B2 vr := fun i hi => ⟨(q i (by omega)).1.trans (h i hi).1, (q i (by omega)).2.trans (h i hi).2⟩
theorem BtR.rfl : BtR B B := fun _ _ => Eq.refl _
theorem BtR.trans (h : BtR B B1) (q : BtR B1 B2) : BtR B B2 := fun i hi => (q i hi).trans (h i hi)
theorem BtR.up {f : Nat → Int32} (h : BtR B B1) (hk : 16 ≤ k ∧ k ≤ 27) : BtR B (updA B1 k f) := fun i hi => by
  rw [show updA B1 k f i = B1 i from if_neg (fun z => hi (by rw [z]; exact hk))]
  exact h i hi
/-- a scope ends: variables are those that were -/
theorem EnV.back (h : EnV (B 26) (B 27) nd vr hd c0 sl) (hv : VrS B B1 vr) : EnV (B1 26) (B1 27) nd vr hd c0 sl := ⟨h.1, fun i hi => by
  rw [(hv i hi).1, (hv i hi).2]
  exact h.2 i hi⟩
end ZT
section ZU
variable {fi : Nat → Nat → Prop} {fdn : Nat → Nat} {fty : Nat → Nat → Nat} {X : PXm} {A A1 A2 A3 : Nat → AS} {Q Q1 Q2 Q3 : RX} {pd pd1 pd2 pd3 : Nat → Prop} {m sn sn1 sn2 lo cs c1 c2 cs1 hd hd1 h8 g0 g1 g2 j u k pc e9 f9 : Nat} {as as0 as1 as2 as3 wt bs st9 : Int32} {sl sl1 sl9 : Nat → Nat} {O L R H O1 L1 R1 H1 O2 L2 R2 H2 : Nat → Int32} {os : List Nat} {xs : List Nat}
theorem HdO.sameR (h : HdO A Q sn j pc) (e1 : A1 pc = A pc) (e2 : A1 (Q.2.2.1 j) = A (Q.2.2.1 j)) (q3 : Q1.2.2.1 j = Q.2.2.1 j) (q4 : Q1.2.2.2.1 j = Q.2.2.2.1 j) (q5 : Q1.2.2.2.2.1 j = Q.2.2.2.2.1 j) : HdO A1 Q1 sn j pc := by
  unfold HdO at h ⊢
  rw [q3, q4, q5, e1, e2]
  exact h
theorem lsR.rqr (hq : RqR Q Q1 g0 g1) (h : lsR Q1 g0 g1 k) : lsR Q g0 g1 k := ⟨h.1, h.2.1, (hq k h.1 h.2.1).2.2.2.2.1.symm.trans h.2.2⟩
theorem inR.rqr (hq : RqR Q Q1 g0 g1) (h0 : g0 ≤ k) (hk : k < g1) : inR Q1 k pc ↔ inR Q k pc := by
  obtain ⟨q1, q2, _⟩ := hq k h0 hk
  unfold inR
  rw [q1, q2]
/-- other regions are told otherwise -/
theorem PcS.rqr (h : PcS A Q O L pd as0 sn cs c1 g0 g1 hd sl) (hq : RqR Q Q1 g0 g1) : PcS A Q1 O L pd as0 sn cs c1 g0 g1 hd sl := by
  obtain ⟨⟨r1, r2, r3, r4⟩, h2, h3⟩ := h
  refine ⟨⟨fun k k1 k2 => ?_, fun j k hj hk hi => ?_, fun pc x p1 p2 p3 p4 p5 p6 p7 k hk k2 k3 => ?_, fun pc s h e p1 p2 p3 p4 p5 p6 p7 p8 => ?_⟩, fun pc p1 p2 p3 => ?_, h3⟩
  · obtain ⟨q1, q2, q3, q4, q5, q6⟩ := hq k k1 k2
    rw [q1, q2, q3, q4, q5, q6]
    exact r1 k k1 k2
  · obtain ⟨q1, q2, q3, q4, q5, q6⟩ := hq j hj.1 hj.2.1
    obtain ⟨t1, t2, t3, t4, t5, t6⟩ := hq k hk.1 hk.2.1
    rw [q3] at hi
    rcases r2 j k (lsR.rqr hq hj) (lsR.rqr hq hk) ((inR.rqr hq hk.1 hk.2.1).mp hi) with w | w
    · exact Or.inl (fun pc hp => (inR.rqr hq hk.1 hk.2.1).mpr (w pc ((inR.rqr hq hj.1 hj.2.1).mp hp)))
    · rw [q4, q6, t4, t6]; exact Or.inr w
  · obtain ⟨t1, t2, t3, t4, t5, t6⟩ := hq k hk.1 hk.2.1
    rw [t4, t6]
    exact r3 pc x p1 p2 p3 p4 p5 p6 p7 k (lsR.rqr hq hk) ((inR.rqr hq hk.1 hk.2.1).mp k2) (fun z => k3 ((inR.rqr hq hk.1 hk.2.1).mpr z))
  · obtain ⟨w1, w2, w3, w4⟩ := r4 pc s h e p1 p2 p3 p4 p5 p6 p7 p8
    refine ⟨w1, w2, fun j hj hj2 => ?_, fun k hk hi => ?_⟩
    · obtain ⟨q1, q2, q3, q4, q5, q6⟩ := hq j hj.1 hj.2.1
      rw [q4, q6]
      exact w3 j (lsR.rqr hq hj) (q3.symm.trans hj2)
    · exact (inR.rqr hq hk.1 hk.2.1).mpr (w4 k (lsR.rqr hq hk) ((inR.rqr hq hk.1 hk.2.1).mp hi))
  · obtain ⟨a1, a2, a3, a4⟩ := h2 pc p1 p2 p3
    refine ⟨a1, a2, a3, fun k k1 k2 k3 => ?_⟩
    obtain ⟨t1, t2, t3, t4, t5, t6⟩ := hq k k1 k2
    exact (a4 k k1 k2 ((inR.rqr hq k1 k2).mp k3)).sameR (Eq.refl _) (Eq.refl _) t3 t4 t5
/-- a scope ends -/
theorem StW.scope2 (h : StW fi fdn fty X A A1 Q Q1 pd pd1 m sn lo cs cs1 as0 as1 hd hd1 sl sl1 g0 g1 O1 L1 R1 H1 []) (hc : cs < cs1 ∨ (hd1 = hd ∧ sl1 = sl)) (hc9 : cs1 < 10000) (hw : WfA (1, hd, sl, [])) (hs : hd ≤ sn) : ∃ A2 : Nat → AS, StW fi fdn fty X A A2 Q Q1 pd pd1 m sn lo cs cs1 as0 as1 hd hd sl sl g0 g1 O1 L1 R1 H1 [] ∧ ∀ z : Nat, z < cs1 → A2 z = A1 z := by
  rcases hc with z | ⟨e1, e2⟩
  · obtain ⟨h1, h2, h3, h4, h5, h6, h7, h8, h9⟩ := h
    refine ⟨upS A1 cs1 (rcA as1, hd, sl, []), ⟨?_, ?_, fun x hx => (upS_ne (by omega)).trans (h3 x hx), h4, h5, h6, ⟨Nat.le_refl _, fun _ _ => rfl⟩, h8, h9⟩, fun z hz => upS_ne (by omega)⟩
    · have e := h1.land (xs := []) (pd1 := pd1) (as1 := as1) (hd1 := hd) (sl1 := sl) (os1 := []) (fun w => ⟨rcA_1 w, h7.1, fun s hs9 => (h7.2 s hs9).symm, trivial⟩) (fun w hw9 => absurd hw9 (List.not_mem_nil)) (fun w q _ => q) hw hs (fun w hw9 => absurd hw9 (List.not_mem_nil))
      rw [aim_nil] at e
      exact e
    · have e := h2.lands (xs := []) (pd1 := pd1) (as1 := as1) (sl1 := sl) (fun _ w => w) (fun w q1 q2 => absurd q1 q2) (fun w hw9 => absurd hw9 (List.not_mem_nil)) hc9
      rw [aim_nil] at e
      exact e
  · subst e1
    subst e2
    exact ⟨A1, h, fun _ _ => rfl⟩
/-- own jumps (JUMP) come to the place -/
theorem StW.lnd (h : StW fi fdn fty X A A1 Q Q1 pd pd1 m sn lo cs c1 as0 as1 hd hd1 sl sl1 g0 g1 O1 L1 R1 H1 []) (hp : ∀ z : Nat, z ∈ xs → pd1 z) (hj : LpJ O1 A1 xs lo c1 hd sl bs) (hb : ¬ bs = -1 → ¬ as3 = -1) (g : ¬ as1 = -1 → ¬ as3 = -1) (hxs : ∀ z : Nat, z ∈ xs → cs ≤ z) (hc : cs < c1 ∧ c1 < 10000) (has : ¬ as3 = -1 → ¬ as0 = -1) (hw : WfA (1, hd, sl, [])) (hs : hd ≤ sn) :
    StW fi fdn fty X A (upS A1 c1 (rcA as3, hd, sl, [])) Q Q1 pd (pdm pd1 xs) m sn lo cs c1 as0 as3 hd hd sl sl g0 g1 O1 (aim L1 xs c1) R1 H1 [] := by
  have h7 := h.2.2.2.2.2.2.1
  have e := h.1.lands (pd1 := pdm pd1 xs) hp (fun z hz hn => pdm_keep hz hn) hj hb hw hs (fun z => ⟨rcA_1 (g z), h7.1, fun s hs9 => (h7.2 s hs9).symm, trivial⟩)
  refine h.landed e (fun z hz => hz.1) (fun z hz hn => pdm_out hz hn) hxs (fun z hz w => ?_) hc has
  rcases (hj z hz).2.2.1 with q | q <;> rw [q] at w <;> exact absurd w (by decide)
/-- the jump over what is done if it is true -/
theorem StW.ifl (h : StW fi fdn fty X A A1 Q Q1 pd pd1 m sn lo cs c1 as0 as1 hd hd1 sl sl1 g0 g1 O1 L1 R1 H1 []) (hj : lo ≤ j ∧ j + 1 ≤ c1) (hcj : cs ≤ j) (hO : O1 j = nI 7) (hA : A1 j = (rcA as, hd, sl, [u])) (hA1 : A1 (j + 1) = (rcA wt, hd, sl, [])) (hb : BoT u) (q1 : ¬ as = -1 → maT u → ¬ wt = -1) (q2 : ¬ as = -1 → maF u → ¬ as3 = -1) (g : ¬ as1 = -1 → ¬ as3 = -1) (hc : c1 < 10000) (has : ¬ as3 = -1 → ¬ as0 = -1) (hw : WfA (1, hd, sl, [])) (hs : hd ≤ sn) :
    StW fi fdn fty X A (upS A1 c1 (rcA as3, hd, sl, [])) Q Q1 pd (pdm pd1 [j]) m sn lo cs c1 as0 as3 hd hd sl sl g0 g1 O1 (aim L1 [j] c1) R1 H1 [] := by
  have h7 := h.2.2.2.2.2.2.1
  have e := (h.1.pdm (fun z hz => pdm_one (j := j) hz)).ifl hj hO hA hA1 hb q1 q2 (fun z => ⟨rcA_1 (g z), h7.1, fun s hs9 => (h7.2 s hs9).symm, trivial⟩) hw hs
  refine h.landed e (fun z hz => hz.1) (fun z hz hn => pdm_out hz hn) (in1 hcj) (fun z hz w => ?_) ⟨by omega, hc⟩ has
  rw [List.mem_singleton.mp hz, hO] at w
  exact absurd w (by decide)
/-- a place to which one doesn't come is told otherwise -/
theorem EmS.re (h : EmS fi fdn fty X O L R H A pd m sn lo cs (-1) hd1 sl1 os) (hs : sn ≤ sn1) (hw : WfA (1, hd, sl, [])) (h9 : hd ≤ sn1) : EmS fi fdn fty X O L R H (upS A cs (rcA as, hd, sl, [])) pd m sn1 lo cs as hd sl [] := by
  have e := (h.more hs).land (xs := []) (pd1 := pd) (as1 := as) (hd1 := hd) (sl1 := sl) (os1 := []) (fun w => absurd rfl w) (fun w hw9 => absurd hw9 (List.not_mem_nil)) (fun w q _ => q) hw h9 (fun w hw9 => absurd hw9 (List.not_mem_nil))
  rw [aim_nil] at e
  exact e
/-- less is held at the place -/
theorem EmS.low (h : EmS fi fdn fty X O L R H A pd m sn lo cs as hd1 sl1 []) (hh : hd ≤ hd1) (hw : WfA (1, hd, sl1, [])) : EmS fi fdn fty X O L R H (upS A cs (rcA as, hd, sl1, [])) pd m sn lo cs as hd sl1 [] := by
  have h4 := h.2.2.2.1
  have e := h.land (xs := []) (pd1 := pd) (as1 := as) (hd1 := hd) (sl1 := sl1) (os1 := []) (fun w => ⟨rcA_1 w, hh, fun _ _ => rfl, trivial⟩) (fun w hw9 => absurd hw9 (List.not_mem_nil)) (fun w q _ => q) hw (by omega) (fun w hw9 => absurd hw9 (List.not_mem_nil))
  rw [aim_nil] at e
  exact e
/-- what a CATCH leaves: its variable has the slot hd -/
def CaW (fi : Nat → Nat → Prop) (fdn : Nat → Nat) (fty : Nat → Nat → Nat) (X : PXm) (A A1 : Nat → AS) (Q Q1 : RX) (pd pd1 : Nat → Prop) (m sn lo cs cs1 : Nat) (as0 as1 : Int32) (hd : Nat) (sl : Nat → Nat) (c g0 g1 : Nat) (O1 L1 R1 H1 : Nat → Int32) : Prop :=
  EmS fi fdn fty X O1 L1 R1 H1 A1 pd1 m sn lo cs1 as1 hd (upM sl hd c) [] ∧ PcS A1 Q1 O1 L1 pd1 as0 sn cs cs1 g0 g1 hd sl ∧ (∀ x : Nat, x < cs → A1 x = A x) ∧ (∃ h8 : Nat, hd ≤ h8 ∧ h8 ≤ hd + 1 ∧ A1 cs = (rcA as0, h8, upM sl hd c, [])) ∧ RqS Q Q1 g0 ∧ (∀ z : Nat, z < cs → (pd1 z ↔ pd z)) ∧ (¬ as1 = -1 → ¬ as0 = -1) ∧ cs ≤ cs1 ∧ g0 ≤ g1 ∧ hd + 1 ≤ sn
theorem upM_lo {f : Nat → Nat} {c : Nat} : ∀ s : Nat, s < hd → upM f hd c s = f s := fun s hs => upM_ne (by omega)
theorem StW.caw {c : Nat} (h : StW fi fdn fty X (upS A cs (rcA as1, hd + 1, upM sl hd c, [])) A2 Q Q2 pd pd2 m sn lo cs c2 as1 as2 (hd + 1) (hd + 1) (upM sl hd c) (upM sl hd c) g0 g1 O2 L2 R2 H2 []) (e : as1 = -1 ↔ as0 = -1) (hw : WfA (1, hd, upM sl hd c, [])) (hc : c2 < 10000) : ∃ A3 : Nat → AS, CaW fi fdn fty X A A3 Q Q2 pd pd2 m sn lo cs c2 as0 as2 hd sl c g0 g1 O2 L2 R2 H2 ∧ ∀ z : Nat, z < c2 → A3 z = A2 z := by
  obtain ⟨h1, h2, h3, h4, h5, h6, h7, h8, h9⟩ := h
  have ra : rcA as1 = rcA as0 := by
    unfold rcA
    by_cases w : as1 = -1
    · rw [if_pos w, if_pos (e.mp w)]
    · rw [if_neg w, if_neg (fun y => w (e.mpr y))]
  have hn : ¬ as1 = -1 → ¬ as0 = -1 := fun w y => w (e.mpr y)
  have hsn := h1.2.2.2.1
  refine ⟨upS A2 c2 (rcA as2, hd, upM sl hd c, []), ⟨h1.low (by omega) hw, ?_, fun x hx => ?_, ?_, h4, h5, fun w => hn (h6 w), h8, h9, hsn⟩, fun z hz => upS_ne (by omega)⟩
  · have p := (h2.less (hd := hd) (sl := sl) (as1 := as0) (by omega) (fun s hs => upM_lo s hs) hn).lands (xs := []) (pd1 := pd2) (as1 := as2) (sl1 := upM sl hd c) (fun _ w => w) (fun w q1 q2 => absurd q1 q2) (fun w hw9 => absurd hw9 (List.not_mem_nil)) hc
    rw [aim_nil] at p
    exact p
  · rw [upS_ne (by omega), h3 x (by omega), upS_ne (by omega)]
  · by_cases z : cs = c2
    · refine ⟨hd, Nat.le_refl _, by omega, ?_⟩
      rw [z, upS_eq]
      have q := h1.1.2
      have q2 := h3 cs (Nat.le_refl _)
      rw [upS_eq, z, q] at q2
      have q3 : rcA as2 = rcA as1 := congrArg Prod.fst q2
      rw [q3, ra]
    · refine ⟨hd + 1, by omega, Nat.le_refl _, ?_⟩
      rw [upS_ne z, h3 cs (Nat.le_refl _), upS_eq, ra]
/-- a CATCH's region and what it does; then a jump onward -/
theorem PcS.catch2 {c9 h9 cs2 : Nat} (b : PcS A Q O L pd as0 sn cs h9 g0 g1 hd sl) (l : PcS A Q O L pd as0 sn h9 cs2 (g1 + 1) g2 hd sl) (n1 : Q.1 g1 = cs) (n2 : Q.2.1 g1 = e9) (n3 : Q.2.2.1 g1 = h9) (n4 : Q.2.2.2.1 g1 = hd) (n5 : Q.2.2.2.2.1 g1 = nI c9) (hc9 : c9 < 60) (he : cs ≤ e9 ∧ e9 ≤ h9) (hA : A h9 = (rcA as0, h8, sl9, [])) (hh8 : h8 ≤ hd + 1) (hs1 : ∀ i : Nat, i < hd → sl9 i = sl i) (hs2 : sl9 hd = c9) (hsn : hd < sn) (i1 : cs < h9) (i2 : h9 < cs2) (i3 : g0 ≤ g1) (i4 : g1 + 1 ≤ g2) : PcS A Q O L pd as0 sn cs cs2 g0 g2 hd sl := by
  have nl : ¬ Q.2.2.2.2.1 g1 = -1 := by rw [n5]; exact nI_m1 (by omega)
  obtain ⟨⟨a1, a2, a3, a4⟩, a5, a6⟩ := b
  obtain ⟨⟨b1, b2, b3, b4⟩, b5, b6⟩ := l
  have sp : ∀ k : Nat, lsR Q g0 g2 k → lsR Q g0 g1 k ∨ lsR Q (g1 + 1) g2 k := fun k hk => by
    by_cases z : k < g1
    · exact Or.inl ⟨hk.1, z, hk.2.2⟩
    · by_cases w : k = g1
      · rw [w] at hk; exact absurd hk.2.2 nl
      · exact Or.inr ⟨by omega, hk.2.1, hk.2.2⟩
  refine ⟨⟨fun k k1 k2 => ?_, fun j k hj hk hi => ?_, fun pc x p1 p2 p3 p4 p5 p6 p7 k hk k2 k3 => ?_, fun pc s h e p1 p2 p3 p4 p5 p6 p7 p8 => ?_⟩, fun pc p1 p2 p3 => ?_, fun pc x p1 p2 p3 p4 p5 p6 p7 => ?_⟩
  · by_cases z : k < g1
    · obtain ⟨x1, x2, x3, x4, x5⟩ := a1 k k1 z
      exact ⟨x1, x2, by omega, x4, fun w => ⟨(x5 w).1, by have := (x5 w).2; omega⟩⟩
    · by_cases w : k = g1
      · subst w
        exact ⟨by omega, by omega, by omega, by omega, fun w => absurd w nl⟩
      · obtain ⟨x1, x2, x3, x4, x5⟩ := b1 k (by omega) k2
        exact ⟨by omega, x2, x3, x4, x5⟩
  · rcases sp j hj with j1 | j1 <;> rcases sp k hk with k1 | k1
    · exact a2 j k j1 k1 hi
    · have x1 := a1 j j1.1 j1.2.1
      have y1 := b1 k k1.1 k1.2.1
      unfold inR at hi
      omega
    · have x1 := b1 j j1.1 j1.2.1
      have y1 := a1 k k1.1 k1.2.1
      unfold inR at hi
      omega
    · exact b2 j k j1 k1 hi
  · rcases sp k hk with k1 | k1
    · have y1 := a1 k k1.1 k1.2.1
      by_cases z : pc < h9
      · exact a3 pc x p1 z p3 p4 p5 p6 p7 k k1 k2 k3
      · unfold inR at k2; omega
    · have y1 := b1 k k1.1 k1.2.1
      by_cases z : pc < h9
      · unfold inR at k2; omega
      · exact b3 pc x (by omega) p2 p3 p4 p5 p6 p7 k k1 k2 k3
  · by_cases z : pc < h9
    · obtain ⟨x1, x2, x3, x4⟩ := a4 pc s h e p1 z p3 p4 p5 p6 p7 p8
      refine ⟨x1, x2, fun j hj hj2 => ?_, fun k hk hi => ?_⟩
      · rcases sp j hj with j1 | j1
        · exact x3 j j1 hj2
        · have y1 := b1 j j1.1 j1.2.1
          omega
      · rcases sp k hk with k1 | k1
        · exact x4 k k1 hi
        · have y1 := b1 k k1.1 k1.2.1
          unfold inR at hi; omega
    · obtain ⟨x1, x2, x3, x4⟩ := b4 pc s h e (by omega) p2 p3 p4 p5 p6 p7 p8
      refine ⟨by omega, x2, fun j hj hj2 => ?_, fun k hk hi => ?_⟩
      · rcases sp j hj with j1 | j1
        · have y1 := a1 j j1.1 j1.2.1
          omega
        · exact x3 j j1 hj2
      · rcases sp k hk with k1 | k1
        · have y1 := a1 k k1.1 k1.2.1
          unfold inR at hi; omega
        · exact x4 k k1 hi
  · by_cases z : pc < h9
    · obtain ⟨x1, x2, x3, x4⟩ := a5 pc p1 z p3
      refine ⟨x1, x2, x3, fun k k1 k2 k3 => ?_⟩
      by_cases w : k < g1
      · exact x4 k k1 w k3
      · by_cases w2 : k = g1
        · subst w2
          unfold HdO
          rw [n3, n4, n5, hA]
          exact ⟨rcA_1 x1, rfl, x2, fun i hi => (hs1 i hi).trans (x3 i hi).symm, z, Or.inl ⟨c9, hc9, rfl, hh8, hsn, hs2⟩⟩
        · have y1 := b1 k (by omega) k2
          unfold inR at k3; omega
    · obtain ⟨x1, x2, x3, x4⟩ := b5 pc (by omega) p2 p3
      refine ⟨x1, x2, x3, fun k k1 k2 k3 => ?_⟩
      by_cases w : k < g1
      · have y1 := a1 k k1 w
        unfold inR at k3; omega
      · by_cases w2 : k = g1
        · subst w2
          unfold inR at k3; omega
        · exact x4 k (by omega) k2 k3
  · by_cases z : pc < h9
    · have w := a6 pc x p1 z p3 p4 p5 p6 p7
      omega
    · exact b6 pc x (by omega) p2 p3 p4 p5 p6 p7
/-- aims of jumps out of LASTS lie strictly before c1 -/
def AiL (A : Nat → AS) (O L : Nat → Int32) (pd : Nat → Prop) (cs c1 : Nat) : Prop := ∀ pc x : Nat, cs ≤ pc → pc < c1 → (A pc).1 = 1 → O pc = nI 28 → ¬ pd pc → x < 10000 → L pc = nI x → x < c1
/-- the place behind a piece may be told otherwise, if nothing goes there -/
theorem PcS.end9 {b : AS} (h : PcS A Q O L pd as0 sn cs c1 g0 g1 hd sl) (hl : AiL A O L pd cs c1) : PcS (upS A c1 b) Q O L pd as0 sn cs c1 g0 g1 hd sl := by
  obtain ⟨⟨r1, r2, r3, r4⟩, h2, h3⟩ := h
  refine ⟨⟨r1, r2, fun pc x p1 p2 p3 p4 p5 p6 p7 k hk k2 k3 => ?_, fun pc s h e p1 p2 p3 p4 p5 p6 p7 p8 => ?_⟩, fun pc p1 p2 p3 => ?_, fun pc x p1 p2 p3 p4 p5 p6 p7 => ?_⟩
  · rw [upS_ne (by omega)] at p3
    have w := hl pc x p1 p2 p3 p4 p5 p6 p7
    rw [upS_ne (by omega)]
    exact r3 pc x p1 p2 p3 p4 p5 p6 p7 k hk k2 k3
  · rw [upS_ne (by omega)] at p3 p8
    exact r4 pc s h e p1 p2 p3 p4 p5 p6 p7 p8
  · rw [upS_ne (by omega)] at p3 ⊢
    obtain ⟨a1, a2, a3, a4⟩ := h2 pc p1 p2 p3
    refine ⟨a1, a2, a3, fun k k1 k2 k3 => ?_⟩
    have y := r1 k k1 k2
    exact (a4 k k1 k2 k3).sameR (upS_ne (by omega)) (upS_ne (by omega)) rfl rfl rfl
  · rw [upS_ne (by omega)] at p3
    exact h3 pc x p1 p2 p3 p4 p5 p6 p7
theorem AiL.later (h : AiL A O L pd cs c1) (hs : SmS A A1 O O1 L L1 pd pd1 c1) : AiL A1 O1 L1 pd1 cs c1 := fun pc x p1 p2 p3 p4 p5 p6 p7 => by
  obtain ⟨s1, s2, s3, s4⟩ := hs pc p2
  rw [s1] at p3
  rw [s2] at p4
  rw [s3] at p7
  exact h pc x p1 p2 p3 p4 (fun z => p5 (s4.mpr z)) p6 p7
theorem PcS.laterX (h : PcS A Q O L pd as0 sn cs c1 g0 g1 hd sl) (hl : AiL A O L pd cs c1) (hs : SmS A A1 O O1 L L1 pd pd1 c1) (hq : RqS Q Q1 g1) (hn : sn ≤ sn1) : PcS A1 Q1 O1 L1 pd1 as0 sn1 cs c1 g0 g1 hd sl :=
  (h.end9 (b := A1 c1) hl).later (fun x hx => ⟨(hs x hx).1.trans (upS_ne (by omega)).symm, (hs x hx).2.1, (hs x hx).2.2.1, (hs x hx).2.2.2⟩) upS_eq.symm hq hn
/-- behind an instruction that is no LEAVE nothing goes to its own end -/
theorem AiL.ins (h : PcS A Q O L pd as0 sn cs c1 g0 g1 hd sl) (hO : O c1 = nI k) (hk : k < 31 ∧ ¬ k = 28) : AiL A O L pd cs (c1 + 1) := fun pc x p1 p2 p3 p4 p5 p6 p7 => by
  by_cases z : pc = c1
  · rw [z, hO] at p4
    exact absurd ((nI_eq (by omega) (by omega)).mp p4) hk.2
  · have w := h.2.2 pc x p1 (by omega) p3 p4 p5 p6 p7
    omega
theorem StW.catch {c : Nat} (h : StW fi fdn fty X A A1 Q Q1 pd pd1 m sn lo cs c1 as0 (-1) hd hd1 sl sl1 g0 g1 O1 L1 R1 H1 os) (ha : AiL A1 O1 L1 pd1 cs c1) (hr : ∀ x : Nat, x < c1 → O2 x = O1 x ∧ L2 x = L1 x) (hs : sn ≤ sn2) (q : CaW fi fdn fty X A1 A2 (upQx Q1 g1 cs e9 c1 hd (nI c) 0) Q2 pd1 pd2 m sn2 lo c1 c2 as0 as2 hd sl c (g1 + 1) g2 O2 L2 R2 H2) (hc9 : c < 60) (he : cs ≤ e9 ∧ e9 ≤ c1) (hi : cs < c1) (hk : k = 6 ∨ k = 29) (r l : Int32) :
    StW fi fdn fty X A (upS A2 (c2 + 1) (rcA (-1), hd, upM sl hd c, [])) Q Q2 pd (fun z => pd2 z ∨ z = c2) m sn2 lo cs (c2 + 1) as0 (-1) hd hd sl (upM sl hd c) g0 g2 (upI O2 c2 (nI k)) (upI L2 c2 l) (upI R2 c2 r) (upI H2 c2 (nI hd)) [] ∧ AiL (upS A2 (c2 + 1) (rcA (-1), hd, upM sl hd c, [])) (upI O2 c2 (nI k)) (upI L2 c2 l) (fun z => pd2 z ∨ z = c2) cs (c2 + 1) := by
  obtain ⟨h1, h2, h3, h4, h5, h6, h7, h8, h9⟩ := h
  obtain ⟨q1, q2, q3, ⟨h8', a1, a2, a3⟩, q4, q5, q6, q7, q8, q9⟩ := q
  have hA2 : A2 c2 = (rcA as2, hd, upM sl hd c, []) := q1.1.2
  obtain ⟨p1, p2⟩ := q1.pend (l := l) (r := r) (as1 := (-1)) (os1 := []) (k := k) (Nat.zero_le _) (by omega)
  have qr : RqS Q1 Q2 g1 := fun i hi9 => by
    obtain ⟨t1, t2, t3, t4, t5, t6⟩ := q4 i (by omega)
    obtain ⟨y1, y2, y3, y4, y5, y6⟩ := upQ_ne (Q := Q1) (k := g1) (i := i) (st := cs) (en := e9) (ha := c1) (so := hd) (cl := nI c) (le := 0) (by omega)
    exact ⟨t1.trans y1, t2.trans y2, t3.trans y3, t4.trans y4, t5.trans y5, t6.trans y6⟩
  obtain ⟨n1, n2, n3, n4, n5, n6⟩ := q4 g1 (by omega)
  have sm1 : SmS A1 (upS A2 (c2 + 1) (rcA (-1), hd, upM sl hd c, [])) O1 (upI O2 c2 (nI k)) L1 (upI L2 c2 l) pd1 (fun z => pd2 z ∨ z = c2) c1 := fun x hx => ⟨(upS_ne (by omega)).trans (q3 x hx), (upI_ne (by omega)).trans (hr x hx).1, (upI_ne (by omega)).trans (hr x hx).2, ⟨fun w => (q5 x hx).mp (w.resolve_right (by omega)), fun w => Or.inl ((q5 x hx).mpr w)⟩⟩
  have sm2 : SmS A2 (upS A2 (c2 + 1) (rcA (-1), hd, upM sl hd c, [])) O2 (upI O2 c2 (nI k)) L2 (upI L2 c2 l) pd2 (fun z => pd2 z ∨ z = c2) c2 := fun x hx => ⟨upS_ne (by omega), upI_ne (by omega), upI_ne (by omega), ⟨fun w => w.resolve_right (by omega), fun w => Or.inl w⟩⟩
  have b2 := h2.laterX ha sm1 qr hs
  have l2 := q2.later sm2 (upS_ne (by omega)) (RqS.rfl (Q := Q2) (g := g2)) (Nat.le_refl _)
  have o2 : PcS (upS A2 (c2 + 1) (rcA (-1), hd, upM sl hd c, [])) Q2 (upI O2 c2 (nI k)) (upI L2 c2 l) (fun z => pd2 z ∨ z = c2) as2 sn2 c2 (c2 + 1) g2 g2 hd (upM sl hd c) := PcS.one ((upS_ne (by omega)).trans hA2) upI_eq (by omega) (fun w => by omega)
  have l3 := l2.join o2 (Nat.le_refl _) upM_lo q6 q7 (by omega) q8 (Nat.le_refl _)
  have b3 := PcS.catch2 (c9 := c) (h9 := c1) (h8 := h8') (sl9 := upM sl hd c) b2 l3 (n1.trans upM_eq) (n2.trans upM_eq) (n3.trans upM_eq) (n4.trans upM_eq) (n5.trans upI_eq) hc9 he ((upS_ne (by omega)).trans a3) a2 upM_lo upM_eq (by omega) hi (by omega) h9 q8
  refine ⟨⟨p1, b3, fun x hx => (upS_ne (by omega)).trans ((q3 x (by omega)).trans (h3 x hx)), h4.trans qr h9, fun z hz => (sm1 z (by omega)).2.2.2.trans (h5 z hz), fun w => absurd rfl w, ⟨Nat.le_refl _, upM_lo⟩, by omega, by omega⟩, ?_⟩
  have j2 := b2.2.2
  intro pc x y1 y2 y3 y4 y5 y6 y7
  by_cases z : pc < c1
  · have w := b2.2.2 pc x y1 z y3 y4 y5 y6 y7
    omega
  · by_cases z2 : pc = c2
    · rw [z2, upI_eq] at y4
      have w := (nI_eq (by omega) (by omega)).mp y4
      omega
    · have w := l2.2.2 pc x (by omega) (by omega) y3 y4 y5 y6 y7
      omega
/-- the slots of a LAST that begins at h -/
def slQ (sl : Nat → Nat) (hd h f : Nat) : Nat → Nat := upM (upM sl hd (1000 + 2 * h + f)) (hd + 1) 999
theorem slQ_lo {h f : Nat} : ∀ i : Nat, i < hd → slQ sl hd h f i = sl i := fun i hi => by
  unfold slQ
  rw [upM_ne (by omega), upM_ne (by omega)]
theorem slQ_0 {h f : Nat} : slQ sl hd h f hd = 1000 + 2 * h + f := by
  unfold slQ
  rw [upM_ne (by omega), upM_eq]
theorem slQ_1 {h f : Nat} : slQ sl hd h f (hd + 1) = 999 := upM_eq
theorem WfA.last {h f : Nat} (hw : WfA (1, hd, sl, os)) : WfA (1, hd + 2, slQ sl hd h f, []) := fun s hs h9 => by
  have hs9 : s < hd + 2 := hs
  have h8 : 1000 ≤ slQ sl hd h f s := h9
  by_cases z : s = hd + 1
  · rw [z, slQ_1] at h8; omega
  · by_cases y : s = hd
    · rw [y]
      exact ⟨show hd + 1 < hd + 2 by omega, slQ_1⟩
    · rw [slQ_lo s (by omega)] at h8
      obtain ⟨w1, w2⟩ := hw s (show s < hd by omega) h8
      have w3 : s + 1 < hd := w1
      refine ⟨show s + 1 < hd + 2 by omega, ?_⟩
      show slQ sl hd h f (s + 1) = 999
      rw [slQ_lo (s + 1) w3]; exact w2
def f9Q (st : Int32) : Nat := if st = -1 then 0 else 1
theorem f9Q_le : f9Q st9 ≤ 1 := by
  unfold f9Q
  by_cases z : st9 = -1
  · rw [if_pos z]; omega
  · rw [if_neg z]; omega
theorem f9Q_1 (h : ¬ st9 = -1) : f9Q st9 = 1 := if_neg h
theorem f9Q_of (h : f9Q st9 = 1) : ¬ st9 = -1 := fun z => by
  rw [show f9Q st9 = 0 from if_pos z] at h
  exact absurd h (by decide)
/-- into a LAST -/
theorem EmS.ent2 (h : EmS fi fdn fty X O L R H A pd m sn lo cs (-1) hd1 sl1 os) (hs : sn ≤ sn1) (h2 : hd + 2 ≤ sn1) (hp : ∀ z : Nat, z ∈ xs → pd z) (hj : EntJ O R A xs lo cs hd sl st9) (hb : ¬ st9 = -1 → ¬ as0 = -1) (hw : WfA (1, hd, sl, [])) :
    EmS fi fdn fty X O (aim L xs cs) R H (upS A cs (rcA as0, hd + 2, slQ sl hd cs (f9Q st9), [])) (_root_.Jvm.Pilot.@@N@@.pdm pd xs) m sn1 lo cs as0 (hd + 2) (slQ sl hd cs (f9Q st9)) [] :=
  (h.more hs).ent h2 hp (fun z hz hn => pdm_keep hz hn) hj (fun z => ⟨hb z, f9Q_1 z⟩) slQ_lo slQ_0 slQ_1 hw.last
/-- a try with a LAST, as a whole -/
theorem StW.last {sn3 g3 : Nat} {A3 : Nat → AS} {O3 L3 R3 H3 : Nat → Int32} {as4 r : Int32} (h : StW fi fdn fty X A A1 Q Q1 pd pd1 m sn lo cs c1 as0 (-1) hd hd1 sl sl1 g0 g1 O1 L1 R1 H1 os) (ha : AiL A1 O1 L1 pd1 cs c1) (hj : EntJ O1 R1 A1 xs lo c1 hd sl st9) (hxs9 : ∀ z : Nat, z ∈ xs → cs ≤ z) (hr : ∀ x : Nat, x < c1 → O3 x = O1 x ∧ L3 x = aim L1 xs c1 x) (hs : sn ≤ sn3)
    (q : StW fi fdn fty X (upS A1 c1 (rcA as0, hd + 2, slQ sl hd c1 (f9Q st9), [])) A3 (upQx Q1 g1 cs c1 c1 hd (-1) 0) Q3 (pdm pd1 xs) pd3 m sn3 lo c1 e9 as0 as3 (hd + 2) (hd + 2) (slQ sl hd c1 (f9Q st9)) (slQ sl hd c1 (f9Q st9)) (g1 + 1) g3 O3 L3 R3 H3 []) (h4 : as4 = -1 ↔ as3 = -1 ∨ st9 = -1) (hi : cs < c1) (hhd : hd < 10000) (hw : WfA (1, hd, sl, [])) :
    StW fi fdn fty X A (upS A3 (e9 + 1) (rcA as4, hd, sl, [])) Q (upLx Q3 g1 e9) pd pd3 m sn3 lo cs (e9 + 1) as0 as4 hd hd sl sl g0 g3 (upI O3 e9 (nI 30)) (upI L3 e9 (nI hd)) (upI R3 e9 r) (upI H3 e9 (nI (hd + 2))) [] := by
  obtain ⟨h1, h2, h3, h44, h5, h6, h7, h8, h9⟩ := h
  obtain ⟨q1, q2, q3, q4, q5, q6, q7, q8, q9⟩ := q
  have qsn := q1.2.2.2.1
  have hA3 : A3 e9 = (rcA as3, hd + 2, slQ sl hd c1 (f9Q st9), []) := q1.1.2
  have hA1 : A3 c1 = (rcA as0, hd + 2, slQ sl hd c1 (f9Q st9), []) := (q3 c1 (Nat.le_refl _)).trans upS_eq
  have nx : ∀ x : Nat, x < c1 → O1 x = nI 28 → ¬ x ∈ xs := fun x _ e z => by
    rw [(hj x z).2.2.1] at e
    exact absurd e (by decide)
  obtain ⟨p1, p2⟩ := q1.emit (hq := hd + 2) (k := 30) (l := nI hd) (r := r) (as1 := as4) (hd1 := hd) (sl1 := sl) (os1 := []) (Nat.le_refl _) (by omega) (Nat.zero_le _) ⟨Nat.le_refl _, qsn⟩ (fun w => by omega) hw (by omega) (fun z => ⟨hd, c1, f9Q st9, rfl, rfl, show hd + 1 < hd + 2 by omega, f9Q_le, by omega, slQ_0, fun i hi9 => by
    rw [upS_ne (by omega), hA1], fun e => by
    refine ⟨rcA_1 (fun w => ?_), Nat.le_refl _, fun s hs9 => (slQ_lo s hs9).symm, trivial⟩
    rcases h4.mp w with y | y
    · exact z y
    · exact f9Q_of e y⟩)
  have qr : RqS Q1 (upLx Q3 g1 e9) g1 := fun i hi9 => by
    obtain ⟨t1, t2, t3, t4, t5, t6⟩ := q4 i (by omega)
    obtain ⟨y1, y2, y3, y4, y5, y6⟩ := upQ_ne (Q := Q1) (k := g1) (i := i) (st := cs) (en := c1) (ha := c1) (so := hd) (cl := -1) (le := 0) (by omega)
    obtain ⟨z1, z2, z3, z4, z5, z6⟩ := upLx_ne (Q := Q3) (k := g1) (le := e9) (i := i) (by omega)
    exact ⟨z1.trans (t1.trans y1), z2.trans (t2.trans y2), z3.trans (t3.trans y3), z4.trans (t4.trans y4), z5.trans (t5.trans y5), z6.trans (t6.trans y6)⟩
  obtain ⟨n1, n2, n3, n4, n5, n6⟩ := q4 g1 (by omega)
  -- the piece ahead of the LAST, its ways into it aimed
  have bA : PcS A1 Q1 O1 (aim L1 xs c1) (pdm pd1 xs) as0 sn cs c1 g0 g1 hd sl := by
    obtain ⟨⟨r1, r2, r3, r4⟩, k2, k3⟩ := h2
    refine ⟨⟨r1, r2, fun pc x y1 y2 y3 y4 y5 y6 y7 => ?_, fun pc s h e y1 y2 y3 y4 y5 y6 y7 y8 => ?_⟩, k2, fun pc x y1 y2 y3 y4 y5 y6 y7 => ?_⟩
    · have n := nx pc y2 y4
      rw [aim_no n] at y7
      exact r3 pc x y1 y2 y3 y4 (fun w => y5 ⟨w, n⟩) y6 y7
    · have n : ¬ pc ∈ xs := fun z => by
        rw [(hj pc z).2.2.1] at y4
        exact absurd y4 (by decide)
      rw [aim_no n] at y6
      exact r4 pc s h e y1 y2 y3 y4 y5 y6 y7 y8
    · have n := nx pc y2 y4
      rw [aim_no n] at y7
      exact k3 pc x y1 y2 y3 y4 (fun w => y5 ⟨w, n⟩) y6 y7
  have aA : AiL A1 O1 (aim L1 xs c1) (pdm pd1 xs) cs c1 := fun pc x y1 y2 y3 y4 y5 y6 y7 => by
    have n := nx pc y2 y4
    rw [aim_no n] at y7
    exact ha pc x y1 y2 y3 y4 (fun w => y5 ⟨w, n⟩) y6 y7
  have sm1 : SmS A1 (upS A3 (e9 + 1) (rcA as4, hd, sl, [])) O1 (upI O3 e9 (nI 30)) (aim L1 xs c1) (upI L3 e9 (nI hd)) (pdm pd1 xs) pd3 c1 := fun x hx => ⟨(upS_ne (by omega)).trans ((q3 x (by omega)).trans (upS_ne (by omega))), (upI_ne (by omega)).trans (hr x hx).1, (upI_ne (by omega)).trans (hr x hx).2, q5 x hx⟩
  have sm2 : SmS A3 (upS A3 (e9 + 1) (rcA as4, hd, sl, [])) O3 (upI O3 e9 (nI 30)) L3 (upI L3 e9 (nI hd)) pd3 pd3 e9 := fun x hx => ⟨upS_ne (by omega), upI_ne (by omega), upI_ne (by omega), Iff.rfl⟩
  have b2 := bA.laterX aA sm1 qr hs
  have a2 := aA.later sm1
  have l2 := (q2.later sm2 (upS_ne (by omega)) (RqS.rfl (Q := Q3) (g := g3)) (Nat.le_refl _)).rqr (Q1 := upLx Q3 g1 e9) (fun i i1 i2 => upLx_ne (by omega))
  have b3 := PcS.last (f9 := f9Q st9) (sl9 := slQ sl hd c1 (f9Q st9)) b2 l2 hi q8 h9 q9 hhd (n1.trans upM_eq) (n2.trans upM_eq) (n3.trans upM_eq) (n4.trans upM_eq) (n5.trans upI_eq) upM_eq a2 upI_eq upI_eq ((upS_ne (by omega)).trans hA1) slQ_lo slQ_0 f9Q_le slQ_1 qsn (fun w => by
    rw [upS_ne (by omega), hA3] at w ⊢
    exact ⟨q6 (rcA_of w), Nat.le_refl _, fun _ _ => rfl⟩)
  refine ⟨p1, b3, fun x hx => (upS_ne (by omega)).trans ((q3 x (by omega)).trans ((upS_ne (by omega)).trans (h3 x hx))), h44.trans qr h9, fun z hz => ?_, fun w => ?_, ⟨Nat.le_refl _, fun _ _ => rfl⟩, by omega, by omega⟩
  · refine (q5 z (by omega)).trans ⟨fun w => (h5 z hz).mp w.1, fun w => ⟨(h5 z hz).mpr w, fun y => ?_⟩⟩
    exact absurd (hxs9 z y) (by omega)
  · have w3 : ¬ as3 = -1 := fun y => w (h4.mpr (Or.inl y))
    exact q6 w3
end ZU
