/-! what is of one type is of another; truths -/
section XY
variable {fi : Nat → Nat → Prop} {S : Nat → Nat} {t u : Nat} {v w : Int64} {x : Int32}
theorem TL.ref (ht : RfT t) (hu : RfT u) (h : ∀ d : Nat, fi d t → fi d u) : TL fi t u := fun S v hv => by
  rcases hv with ⟨e, _⟩ | ⟨e, _⟩ | ⟨e, _⟩ | ⟨e, _⟩ | ⟨_, q⟩
  · unfold RfT at ht; omega
  · unfold RfT at ht; omega
  · unfold RfT at ht; omega
  · unfold RfT at ht; omega
  · refine Or.inr (Or.inr (Or.inr (Or.inr ⟨hu, ?_⟩)))
    rcases q with q | ⟨p, d, q1, q2, q3, q4⟩
    · exact Or.inl q
    · exact Or.inr ⟨p, d, q1, q2, q3, h d q4⟩
theorem BoT.val (h : BoT t) (hv : VT fi S t v) : v = 0 ∨ v = 1 := by
  rcases hv with ⟨e, _⟩ | ⟨_, q⟩ | ⟨_, q⟩ | ⟨_, q⟩ | ⟨q, _⟩
  · unfold BoT at h; omega
  · exact q
  · exact Or.inr q
  · exact Or.inl q
  · unfold BoT at h; unfold RfT at q; omega
theorem VT.truth (h : v = 0 ∨ v = 1) : VT fi S 61 v := Or.inr (Or.inl ⟨Or.inl rfl, h⟩)
theorem BoT.le (h : BoT t) : TL fi t 61 := fun S v hv => VT.truth (h.val hv)
theorem VT.num : VT fi S 60 (nmV x) := Or.inl ⟨rfl, x, rfl⟩
theorem VT.int (h : VT fi S 60 v) : ∃ x : Int32, v = nmV x := by
  rcases h with ⟨_, q⟩ | ⟨e | e, _⟩ | ⟨e, _⟩ | ⟨e, _⟩ | ⟨q, _⟩
  · exact q
  · omega
  · omega
  · omega
  · omega
  · unfold RfT at q; omega
/-- a truth that can't be so -/
theorem VT.no (h : VT fi S 160 v) : False := by
  rcases h with ⟨e, _⟩ | ⟨e | e, _⟩ | ⟨e, _⟩ | ⟨e, _⟩ | ⟨q, _⟩
  · omega
  · omega
  · omega
  · omega
  · omega
  · unfold RfT at q; omega
theorem VT.isT (hb : BoT t) (h : VT fi S t v) (hv : ¬ v = 0) : maT t := by
  rcases h with ⟨e, _⟩ | ⟨e, _⟩ | ⟨e, _⟩ | ⟨e, q⟩ | ⟨q, _⟩
  · unfold BoT at hb; omega
  · unfold maT; omega
  · unfold maT; omega
  · exact absurd q hv
  · unfold BoT at hb; unfold RfT at q; omega
theorem VT.isF (hb : BoT t) (h : VT fi S t v) (hv : v = 0) : maF t := by
  rcases h with ⟨e, _⟩ | ⟨e, _⟩ | ⟨e, q⟩ | ⟨e, _⟩ | ⟨q, _⟩
  · unfold BoT at hb; omega
  · unfold maF; omega
  · rw [hv] at q; exact absurd q (by decide)
  · unfold maF; omega
  · unfold BoT at hb; unfold RfT at q; omega
theorem VT.flip (hb : BoT t) (h : VT fi S t v) : VT fi S (flp t) (nmV (v.toInt32 ^^^ 1)) := by
  have e0 : nmV ((0 : Int64).toInt32 ^^^ 1) = 1 := by decide
  have e1 : nmV ((1 : Int64).toInt32 ^^^ 1) = 0 := by decide
  unfold flp
  rcases h with ⟨e, _⟩ | ⟨e, q⟩ | ⟨e, q⟩ | ⟨e, q⟩ | ⟨q, _⟩
  · unfold BoT at hb; omega
  · rw [if_neg (by omega), if_neg (by omega)]
    refine Or.inr (Or.inl ⟨e, ?_⟩)
    rcases q with q | q
    · rw [q]; exact Or.inr e0
    · rw [q]; exact Or.inl e1
  · rw [if_pos e, q]; exact Or.inr (Or.inr (Or.inr (Or.inl ⟨rfl, e1⟩)))
  · rw [if_neg (by omega), if_pos e, q]; exact Or.inr (Or.inr (Or.inl ⟨rfl, e0⟩))
  · unfold BoT at hb; unfold RfT at q; omega
theorem and01 (h : v = 0 ∨ v = 1) (q : w = 0 ∨ w = 1) : (nmV (v.toInt32 &&& w.toInt32) = 0 ∨ nmV (v.toInt32 &&& w.toInt32) = 1) ∧ (nmV (v.toInt32 ||| w.toInt32) = 0 ∨ nmV (v.toInt32 ||| w.toInt32) = 1) ∧ (nmV (v.toInt32 ^^^ w.toInt32) = 0 ∨ nmV (v.toInt32 ^^^ w.toInt32) = 1) := by
  rcases h with h | h <;> rcases q with q | q <;> rw [h, q] <;> decide
end XY
