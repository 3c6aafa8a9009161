/-! E's, one kind after the other -/
/-- what a plain E leaves -/
def PlQ (pb : PNb) (B B1 : Nat → Nat → Int32) (A A1 : Nat → AS) (pd : Nat → Prop) (m sn lo cs cs1 : Nat) (as0 as1 : Int32) (hd : Nat) (sl : Nat → Nat) (os : List Nat) (t1 : Nat) (k : Int32) : Prop :=
  (t1 = 63 ∧ ¬ CaK k) ∨ (EvB pb B B1 A A1 pd m sn lo cs cs1 as0 as1 hd sl (rsO t1 os) ∧ cs < cs1)
/-- a PREFIX's sign, a SIGN's -/
def PfK (k : Int32) : Prop := k = 45 ∨ k = 52
def SnK (k : Int32) : Prop := (k = 54 ∨ k = 55 ∨ k = 56 ∨ k = 57 ∨ k = 58 ∨ k = 59) ∨ (k = 44 ∨ k = 45 ∨ k = 46 ∨ k = 47 ∨ k = 48 ∨ k = 49 ∨ k = 50 ∨ k = 51 ∨ k = 62 ∨ k = 63 ∨ k = 64)
def ObK (pb : PNb) (K : PK) (ty : Nat → Int32) (sz q : Nat) : Prop := K.2.1 0 q = 8 → tyN ty sz (K.2.1 1 q) < 60 ∧ (bX pb).1 (tyN ty sz (K.2.1 1 q))
section ZH
variable {pb : PNb} {B B1 B2 : Nat → Nat → Int32} {K K1 : PK} {A A1 A2 : Nat → AS} {pd : Nat → Prop} {m sn lo cs cs1 cs2 hd t u t1 u1 t2 u2 nd sz vr c0 i : Nat} {as as1 as2 wt wf wt1 wf1 wt2 wf2 x k l : Int32} {sl : Nat → Nat} {os os1 os2 : List Nat} {S : Nat → Nat} {fi : Nat → Nat → Prop}
theorem UTb.ty (h : t < 128) : UTb t (nI t) as as as := by
  by_cases z : t = 61
  · subst z; exact UTb.any rfl
  · exact UTb.plain rfl z h
theorem PlQ.va (h : PlQ pb B B1 A A1 pd m sn lo cs cs1 as as1 hd sl os t1 k) (ht : t1 < 128) : VaQ pb B B1 A A1 pd m sn lo cs cs1 as as1 as1 as1 hd sl os t1 t1 k := by
  rcases h with h | h
  · exact Or.inl h
  · exact Or.inr ⟨h.1, UTb.ty ht, h.2⟩
theorem rsO_cons (h : ¬ t = 63) : t :: os = rsO t os := (rsO_ne h).symm
/-- by the type that is asked -/
theorem UTb.int (h : UTb u (nI t) as wt wf) (ht : t < 128) (f : FtQ pb t 60) : u = 60 := by
  have e := f.2.2.2.1 rfl
  rw [h.eq ht (by omega), e]
theorem UTb.tru (h : UTb u (nI t) as wt wf) (ht : t < 128) (f : FtQ pb t 61) : BoT u ∧ AsW as wt wf ∧ (¬ as = -1 → (maT u → ¬ wt = -1) ∧ (maF u → ¬ wf = -1)) := by
  have e := f.2.2.2.2.1 rfl
  subst e
  refine h.bo rfl ?_
  rcases h with ⟨_, h1, h2, _⟩ | ⟨_, h1, _⟩
  · omega
  · unfold BoT at h1; omega
theorem UTb.tlf (h : UTb u (nI t) as wt wf) (ht : t < 128) (f : FtQ pb t t2) : TL pb.1 u t2 := fun S v hv => f.2.2.1 S v (h.tl ht S v hv)
theorem RfT.of (h : t < 128) (h0 : ¬ t = 60) (h1 : ¬ t = 61) (h3 : ¬ t = 63) : RfT t := by unfold RfT; omega
theorem CoQ.lt {bt : Nat → Nat → Prop} {r : Nat} (h : CoQ bt nd t u r) (ht : t < 128) (hu : u < 128) : r < 128 := by
  rcases h with h | ⟨h, _⟩ | ⟨h, _⟩ <;> omega
theorem CoQ.n63 {bt : Nat → Nat → Prop} {r : Nat} (h : CoQ bt nd t u r) (hr : ¬ r = 63) : ¬ t = 63 ∧ ¬ u = 63 := by
  rcases h with h | ⟨h1, h2⟩ | ⟨h1, h2⟩
  · exact absurd h hr
  · rcases h2 with h2 | h2
    · omega
    · exact ⟨h2.1, h2.2.1⟩
  · exact ⟨h2.2.1, h2.1⟩
theorem CoQ.tl {r dr : Nat} (hn : nd ≤ 37) (hf : FiO pb K dr nd) (h : CoQ (btK K dr) nd t u r) (ht : t < 128) (hu : u < 128) (hr : ¬ r = 63) : TL pb.1 t r ∧ TL pb.1 u r ∧ r < 128 ∧ (r = 61 → t = 61 ∧ u = 61) ∧ (t = 61 ∨ u = 61 → r = 61) := by
  rcases h with h | ⟨h1, h2⟩ | ⟨h1, h2⟩
  · exact absurd h hr
  · subst h1
    rcases h2 with h2 | h2
    · subst h2; exact ⟨TL.rfl, TL.rfl, ht, fun e => ⟨e, e⟩, fun e => e.elim id id⟩
    · have f := FtQ.of hn hf h2 ht hu
      exact ⟨f.2.2.1, TL.rfl, hu, fun e => ⟨f.2.2.2.2.1 e, e⟩, fun e => e.elim f.2.2.2.2.2 id⟩
  · subst h1
    have f := FtQ.of hn hf h2 hu ht
    exact ⟨TL.rfl, f.2.2.1, ht, fun e => ⟨e, f.2.2.2.2.1 e⟩, fun e => e.elim id f.2.2.2.2.2⟩
theorem UTb.pl (h : UTb u (nI t) as wt wf) (ht : t < 128) (h61 : ¬ t = 61) : wt = as ∧ wf = as := by
  rcases h with ⟨_, _, _, h1, h2⟩ | ⟨h1, _⟩
  · exact ⟨h1, h2⟩
  · exact absurd ((nI_eq (b := 61) (by omega) (by omega)).mp h1) h61
theorem UTb.turn9 (h : UTb u (nI t) as wt wf) (ht : t < 128) (f : FtQ pb t 61) : UTb (flp u) (nI 61) as wf wt ∧ BoT u ∧ ¬ flp u = 63 := by
  obtain ⟨h1, h2, h3⟩ := h.tru ht f
  obtain ⟨f1, f2, f3⟩ := flp_bo h1
  refine ⟨Or.inr ⟨rfl, f1, ⟨fun z => ⟨(h2.mp z).2, (h2.mp z).1⟩, fun z => h2.mpr ⟨z.2, z.1⟩⟩, fun z => ⟨fun q => (h3 z).2 (f2 q), fun q => (h3 z).1 (f3 q)⟩⟩, h1, fun e => ?_⟩
  unfold BoT at f1; omega
/-- a SIGN that is no comparing of any two, nor of truths -/
theorem SgT.num (h : SnK l) (h1 : ¬ (l = 54 ∨ l = 55 ∨ l = 56 ∨ l = 57 ∨ l = 58 ∨ l = 59)) : SgT l t u 60 := Or.inr (Or.inl ⟨h.resolve_left h1, rfl⟩)
theorem SgT.bit (h1 : l = 49 ∨ l = 50 ∨ l = 51) : SgT l t u 60 := Or.inr (Or.inl ⟨by rcases h1 with e | e | e <;> rw [e] <;> decide, rfl⟩)
theorem SgT.bo (h1 : l = 49 ∨ l = 50 ∨ l = 51) (h2 : BoT t) (h3 : BoT u) : SgT l t u 61 := Or.inr (Or.inr ⟨h1, h2, h3, rfl⟩)
theorem UTb.bo9 (h : UTb u (nI t) as wt wf) (ht : t < 128) (e : t = 61) : BoT u := by
  rcases h with ⟨h1, h2, h3, _⟩ | ⟨_, h1, _⟩
  · exact absurd ((nI_eq (by omega) (by omega)).mp h1 |>.symm.trans e) h2
  · exact h1
theorem SnK.mid (h : SnK l) (h1 : ¬ l < 54) (h2 : ¬ l > 57) : l = 54 ∨ l = 55 ∨ l = 56 ∨ l = 57 ∨ l = 58 ∨ l = 59 := by
  rcases h with h | h
  · exact h
  · rcases h with e | e | e | e | e | e | e | e | e | e | e <;> subst e <;> first | exact absurd (by decide) h1 | exact absurd (by decide) h2
/-- whose method it is -/
def OwC (K : PK) (dr mq c0 : Nat) : Prop := ∃ d : Nat, K.2.2.1 5 mq = some d ∧ K.1 d = 4 ∧ K.2.2.2.2.1 dr c0 = some d ∧ K.2.1 15 d = nI c0
theorem OwC.be {dr mq : Nat} (hb : BdE K K1) (hm : K.1 mq = 3) (hdr : ¬ K.1 dr = 0) (h : OwC K dr mq c0) : OwC K1 dr mq c0 := by
  obtain ⟨d, h1, h2, h3, h4⟩ := h
  exact ⟨d, (hb.C (by rw [hm]; decide) 5).trans h1, hb.T h2 (by decide), by rw [(hb.1 dr hdr).2.2.2.2.1]; exact h3, (hb.I (by rw [h2]; decide) (by decide) (by decide)).trans h4⟩
theorem EmS.load0 {fdn : Nat → Nat} {fty : Nat → Nat → Nat} {X : PXm} {O L R H : Nat → Int32} {r : Int32} (h : EmS fi fdn fty X O L R H A pd m sn lo cs as hd sl os) (hl : os.length ≤ 248) (hs : sl t = u) (ht : t < hd) (h9 : u < 900) : EvQ fi fdn fty X O L R H (upI O cs (nI 2)) (upI L cs (nI t)) (upI R cs r) (upI H cs (nI hd)) A (upS A (cs + 1) (rcA as, hd, sl, u :: os)) pd m sn lo cs (cs + 1) as as hd sl (u :: os) := by
  subst hs
  exact h.load hl ht h9
theorem EmS.fieldT {fdn : Nat → Nat} {fty : Nat → Nat → Nat} {X : PXm} {O L R H : Nat → Int32} {r : Int32} {c n : Nat} (h : EmS fi fdn fty X O L R H A pd m sn lo cs as hd sl (c :: os)) (hl : (c :: os).length ≤ 248) (hc : c < 60) (hn : n < fdn c) (he : fty c n = u) : EvQ fi fdn fty X O L R H (upI O cs (nI 17)) (upI L cs (nI n)) (upI R cs r) (upI H cs (nI hd)) A (upS A (cs + 1) (rcA as, hd, sl, u :: os)) pd m sn lo cs (cs + 1) as as hd sl (u :: os) := by
  subst he
  exact h.field hl hc hn
theorem PfT.int (h : PfK l) : PfT l t 60 := Or.inl ⟨h, rfl⟩
theorem SgT.cmp (h : l = 54 ∨ l = 55 ∨ l = 56 ∨ l = 57 ∨ l = 58 ∨ l = 59) : SgT l t u 61 := Or.inl ⟨h, rfl⟩
theorem EnV.var (h : EnV (B 26) (B 27) nd vr hd c0 sl) (hi : i < vr) : ∃ s t : Nat, B 27 i = nI s ∧ s < hd ∧ B 26 i = nI t ∧ TyV nd t ∧ sl s = tyc t := by
  obtain ⟨s, t, h1, h2, h3, h4⟩ := h.2 i hi
  exact ⟨s, t, h1, h3, h4⟩
theorem tyc_900 (h : TyV nd t) (hn : nd ≤ 37) : tyc t < 900 := by
  have := h.lt hn
  unfold tyc
  split <;> omega
theorem VT.null9 : VT fi S 62 (nmV 0) := by
  rw [nmV_0]
  exact VT.zero (Or.inr (Or.inr (by unfold RfT; omega)))
theorem VT.tru1 : VT fi S 161 (nmV 1) := Or.inr (Or.inr (Or.inl ⟨rfl, by decide⟩))
theorem VT.t0 : VT fi S 162 (nmV 0) := Or.inr (Or.inr (Or.inr (Or.inl ⟨rfl, by decide⟩)))
end ZH
