/-! the end of a LAST; outward -/
section YK
variable {y : TY} {S nn it : Nat → Nat} {J J1 : Nat → Nat → Int64} {sp st st1 : Nat → Int64} {f O L R H : Nat → Int32} {hp on j ba pc tp x k s o fl sl h9 e d c p : Nat} {v w z : Int64} {K : PK} {B : Nat → Nat → Int32} {dr nd nm cs rg : Nat}
theorem MIy.mw (h : MIy y H S nn sp hp f st on j ba pc tp) (hm : MOy y O L R H j) : MWy y H S nn sp hp f st on j ba pc := h.thr2 hm (fun _ _ => rfl)
/-- how the try was left -/
theorem MIy.pro (h : MIy y H S nn sp hp f st on j ba pc tp) (hs : sl + 1 < (yA y j pc).2.1) (he : e ≤ 1) (hc : (yA y j pc).2.2.1 sl = 1000 + 2 * h9 + e) : PrO (yfi y) S (yrt y j) (ywp y j) h9 e (st (ba + sl)) (st (ba + (sl + 1))) := h.1.2.1.2 sl h9 e hs he hc
theorem MIy.vo (h : MIy y H S nn sp hp f st on j ba pc tp) (hs : sl < (yA y j pc).2.1) : VO S (st (ba + sl)) := h.1.2.1.1.2.2.2.2.1 sl hs
/-- out of a LAST at its end: on behind it -/
theorem FFy.held (h : FFy y S j st (yA y j pc) ba tp) (hs : sl ≤ (yA y j pc).2.1) : FFy y S j st ((yA y j pc).1, sl, (yA y j pc).2.2.1, (yA y j pc).2.2.2) ba tp := by
  obtain ⟨⟨h1, h2, h3, h4, h5, h6⟩, hp9⟩ := h
  refine ⟨⟨h1, by show sl ≤ ysl y j; omega, h3, fun s hs9 ht => h4 s (by have q : s < sl := hs9; omega) ht, fun s hs9 => h5 s (by have q : s < sl := hs9; omega), h6⟩, fun s h9 e hs9 he hc => hp9 s h9 e (by have q : s + 1 < sl := hs9; omega) he hc⟩
theorem nI_ne (x : Nat) (hx : x < 2 ^ 31) : ¬ nI x = -2 ∧ ¬ nI x = -1 ∧ ¬ nI x = -3 := by
  have a := nI_toInt hx
  have h1 : (-2 : Int32).toInt = -2 := by decide
  have h2 : (-1 : Int32).toInt = -1 := by decide
  have h3 : (-3 : Int32).toInt = -3 := by decide
  refine ⟨fun q => ?_, fun q => ?_, fun q => ?_⟩ <;> rw [q] at a <;> omega
/-- outward: caught, or over, or on with the caller -/
def OuG (y : TY) (it : Nat → Nat) (O H f : Nat → Int32) (S nn : Nat → Nat) (J1 : Nat → Nat → Int64) (s hp fl m0 tp1 : Nat) (en1 nx1 : Int32) (z1 : Int64) (ba1 on1 mr1 : Nat) : Prop :=
  (en1 = 1) ∨ (en1 = 5 ∧ z1 = 0 ∧ ∃ j1 x : Nat, it j1 = mr1 ∧ nx1 = nI x ∧ MIy y H S nn (J1 s) hp f (J1 29) on1 j1 ba1 x tp1 ∧ mT O f fl on1 x + 1 ≤ m0)
theorem OuG.catch {m0 : Nat} (h : MWy y H S nn (J s) hp f (J 29) on j ba pc) (hm : MOy y O L R H j) (hk : yr0 y j ≤ k ∧ k < yr1 y j) (hi : inR (yQ y) k pc) (hc : c < 60) (e : (yQ y).2.2.2.2.1 k = nI c) (hv : VT (yfi y) S c v) (hs : ¬ s = 29) (hg : mG f fl on pc ≤ m0) :
    OuG y it O H f S nn (updJ J 29 (vp_updL (J 29) (ba + (yQ y).2.2.2.1 k) v)) s hp fl m0 (ba + ysl y j) 5 (nI ((yQ y).2.2.1 k)) 0 ba on (it j) := by
  obtain ⟨q1, q2⟩ := h.caught hm hk hi hc e hv
  have w := mG_x (O := O) (f := f) (fl := fl) (on := on) q2 (by have z9 : yhi y j ≤ 10000 := hm.2.1.2; have z8 : pc < yhi y j := h.1.1.2.2.2.2.1; omega)
  refine Or.inr ⟨rfl, rfl, j, _, rfl, rfl, ?_, by omega⟩
  rw [updJ_ne hs]
  exact q1
theorem OuG.last {m0 : Nat} (h : MWy y H S nn (J s) hp f (J 29) on j ba pc) (hm : MOy y O L R H j) (hk : yr0 y j ≤ k ∧ k < yr1 y j) (hi : inR (yQ y) k pc) (e : (yQ y).2.2.2.2.1 k = -1) (hv : RaO S v) (hs : ¬ s = 29) (hg : mG f fl on pc ≤ m0) :
    OuG y it O H f S nn (updJ J 29 (vp_updL (vp_updL (J 29) (ba + (yQ y).2.2.2.1 k) (nmV (-2))) (ba + ((yQ y).2.2.2.1 k + 1)) v)) s hp fl m0 (ba + ysl y j) 5 (nI ((yQ y).2.2.1 k)) 0 ba on (it j) := by
  obtain ⟨p, d, p1, p2, p3, p4⟩ := hv
  obtain ⟨q1, q2⟩ := h.last (y0 := -2) hm hk hi e (v := v) (Or.inr ⟨p, d, p1, p2, p3⟩) (fun e9 _ => Or.inr (Or.inl ⟨rfl, p, d, p1, p2, p3, p4⟩))
  have w := mG_x (O := O) (f := f) (fl := fl) (on := on) q2 (by have z9 : yhi y j ≤ 10000 := hm.2.1.2; have z8 : pc < yhi y j := h.1.1.2.2.2.2.1; omega)
  refine Or.inr ⟨rfl, rfl, j, _, rfl, rfl, ?_, by omega⟩
  rw [updJ_ne hs]
  exact q1
end YK
