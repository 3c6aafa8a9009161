/-! calls and ways outward, as the contracts have them -/
def frU (f : Nat → Int32) (on : Nat) (x1 x2 x3 : Int32) : Nat → Int32 := upd (upd (upd f (3 * on) x1) (3 * on + 1) x2) (3 * on + 2) x3
section YG
variable {f : Nat → Int32} {on i n : Nat} {x1 x2 x3 : Int32}
theorem frU_0 : frU f on x1 x2 x3 (3 * on) = x1 := by
  unfold frU upd
  rw [if_neg (by omega), if_neg (by omega), if_pos rfl]
theorem frU_1 : frU f on x1 x2 x3 (3 * on + 1) = x2 := by
  unfold frU upd
  rw [if_neg (by omega), if_pos rfl]
theorem frU_2 : frU f on x1 x2 x3 (3 * on + 2) = x3 := by
  unfold frU upd
  rw [if_pos rfl]
theorem frU_lo (h : i < 3 * on) : frU f on x1 x2 x3 i = f i := by
  unfold frU upd
  rw [if_neg (by omega), if_neg (by omega), if_neg (by omega)]
theorem smf_same {f1 : Nat → Int32} : ∀ {n : Nat}, (∀ i : Nat, i ≤ 3 * n → f1 i = f i) → smf f1 n = smf f n := fun {n} h => sm_same (fun k hk => by rw [h (3 * k) (by omega)])
theorem smf_up : smf f (n + 1) = smf f n + (10000 - (f (3 * (n + 1))).toNatClampNeg) := rfl
end YG
section YH
variable {y : TY} {S nn it : Nat → Nat} {J J1 : Nat → Nat → Int64} {sp st st1 : Nat → Int64} {f O L R H : Nat → Int32} {hp on j kk ba pc tp x t u k d e p c s o fl fl1 m0 mr n : Nat} {a a1 : AS} {ar os l : List Nat} {v w z : Int64} {y0 : Int32}
/-- a call begins -/
theorem StG.call (h : MIa y H S nn (J s) hp f (J 29) on j ba pc (ar ++ t :: os) tp) (hm : MOy y O L R H j) (hk : MOy y O L R H kk) (hkk : kk < ynm y) (hon : on < 100) (he : (yA y j pc).2.2.2 = ar ++ t :: os) (hq : ArgL (yfi y) ((yX y).2.2.2.1 kk) ar) (hl : (yX y).2.2.1 kk = ar.length) (ho : VT (yfi y) S ((yX y).2.2.2.2.2 kk) (J 29 (tp - ar.length - 1)))
    (hb : Beh (yfi y) ((yX y).2.2.2.2.1 kk) os (yA y j pc) (yA y j (pc + 1))) (hop : O pc = nI 23 ∨ O pc = nI 24) (hlo : LoE J s o) (hfl : fl = fl1 + 1) (hmr : it kk = mr) (hnm : ynm y ≤ 100000) (hz : z = 0) :
    StG y it O H (mT O f fl on pc) pc (tp - ar.length - 1 + ysl y kk) 5 (nI (ylo y kk)) z J fl1 s o hp (frU f on (nI pc) (nI ba) (nI j)) (on + 1) (tp - ar.length - 1) mr := by
  obtain ⟨⟨a1, a2, a3, a4, a5, a6, a7⟩, b, c9, d9, e9, e10⟩ := h
  obtain ⟨n, hn⟩ : ∃ n, on = n + 1 := ⟨on - 1, by omega⟩
  subst hn
  have hmi : MI (yfi y) (yfd y) (yft y) (yM y) (ynm y) S nn (J s) hp f (J 29) (n + 1) j ba pc tp := ⟨⟨a1, a2, a3, a4, a5, a6⟩, by
    have q : FFy y S j (J 29) (wos (ar ++ t :: os) (yA y j pc)) ba tp := b
    rw [← he] at q
    exact q, c9, d9⟩
  have r := MI.call (f1 := frU f (n + 1) (nI pc) (nI ba) (nI j)) hmi hm hk hkk (by omega) he hq hl ho hb frU_0 frU_1 frU_2 (fun i hi => frU_lo hi)
  refine Or.inr ⟨rfl, hlo, S, nn, kk, hmr, Or.inl ⟨hz, ylo y kk, rfl, ⟨r, e9, fun k pc2 i k1 k2 g1 g2 g3 g4 => ?_⟩, ?_⟩⟩
  · by_cases e : k = n + 1
    · subst e
      rw [frU_0] at g1
      rw [frU_2] at g2
      have z1 : pc = pc2 := (nI_eq (by have z9 : yhi y j ≤ 10000 := hm.2.1.2; omega) (by omega)).mp g1
      have z2 : j = i := (nI_eq (by omega) (by omega)).mp g2
      subst z1; subst z2
      exact MOy.held hm a4 a5 b.1.1 (hop.elim (fun q => Or.inr (Or.inr (Or.inl q))) (fun q => Or.inr (Or.inr (Or.inr q))))
    · rw [frU_lo (by omega)] at g1 g2
      exact e10 k pc2 i k1 (by omega) g1 g2 g3 g4
  · have s1 : smf (frU f (n + 1) (nI pc) (nI ba) (nI j)) (n + 1) = smf f n + (10000 - pc) := by
      rw [smf_up, frU_0, nI_clamp (by have z9 : yhi y j ≤ 10000 := hm.2.1.2; omega), smf_same (fun i hi => frU_lo (by omega))]
    have w2 := wt_le (O := O) (pc := ylo y kk)
    show 20000 * fl1 + smf (frU f (n + 1) (nI pc) (nI ba) (nI j)) (n + 1) + wt O (ylo y kk) + 1 ≤ 20000 * fl + smf f n + wt O pc
    rw [s1]
    have w1 : wt O pc = 10000 - pc := wt_at (by rcases hop with q | q <;> rw [q] <;> decide)
    omega
/-- caught -/
theorem MWy.caught (h : MWy y H S nn sp hp f st on j ba pc) (hm : MOy y O L R H j) (hk : yr0 y j ≤ k ∧ k < yr1 y j) (hi : inR (yQ y) k pc) (hc : c < 60) (e : (yQ y).2.2.2.2.1 k = nI c) (hv : VT (yfi y) S c v) : MIy y H S nn sp hp f (vp_updL st (ba + (yQ y).2.2.2.1 k) v) on j ba ((yQ y).2.2.1 k) (ba + ysl y j) ∧ pc < (yQ y).2.2.1 k := by
  obtain ⟨n, hn⟩ : ∃ n, on = n + 1 := ⟨on - 1, by have := h.1.1.1; omega⟩
  subst hn
  obtain ⟨a1, a2, a3, a4, a5, a6⟩ := h.1.1
  obtain ⟨w1, w2, w3, w4, w5⟩ := hm.2.2.2.1 pc a4 a5 h.1.2.1.1.1
  obtain ⟨z1, z2⟩ := w5 k hk.1 hk.2 hi
  have wf := (hm.2.2.2.1 _ (by have := z1.2.2.2.2.1; omega) z2 z1.1).1
  exact ⟨⟨MW.caught (st1 := vp_updL st (ba + (yQ y).2.2.2.1 k) v) (v := v) h.1 hm hk hi hc e wf hv vpL_eq (fun i _ hn => vpL_ne hn), h.2⟩, z1.2.2.2.2.1⟩
/-- into a LAST -/
theorem MWy.last (h : MWy y H S nn sp hp f st on j ba pc) (hm : MOy y O L R H j) (hk : yr0 y j ≤ k ∧ k < yr1 y j) (hi : inR (yQ y) k pc) (e : (yQ y).2.2.2.2.1 k = -1) (hv : VO S v) (hp9 : ∀ e : Nat, e ≤ 1 → PrO (yfi y) S (yrt y j) (ywp y j) ((yQ y).2.2.1 k) e (nmV y0) v) :
    MIy y H S nn sp hp f (vp_updL (vp_updL st (ba + (yQ y).2.2.2.1 k) (nmV y0)) (ba + ((yQ y).2.2.2.1 k + 1)) v) on j ba ((yQ y).2.2.1 k) (ba + ysl y j) ∧ pc < (yQ y).2.2.1 k := by
  obtain ⟨n, hn⟩ : ∃ n, on = n + 1 := ⟨on - 1, by have := h.1.1.1; omega⟩
  subst hn
  obtain ⟨a1, a2, a3, a4, a5, a6⟩ := h.1.1
  obtain ⟨w1, w2, w3, w4, w5⟩ := hm.2.2.2.1 pc a4 a5 h.1.2.1.1.1
  obtain ⟨z1, z2⟩ := w5 k hk.1 hk.2 hi
  have wf := (hm.2.2.2.1 _ (by have := z1.2.2.2.2.1; omega) z2 z1.1).1
  refine ⟨⟨MW.last (w := nmV y0) (v := v) (st1 := vp_updL (vp_updL st (ba + (yQ y).2.2.2.1 k) (nmV y0)) (ba + ((yQ y).2.2.2.1 k + 1)) v) h.1 hm hk hi e wf ⟨y0, rfl⟩ hv (fun e9 _ h9 => hp9 e9 h9) ?_ ?_ (fun i _ hn1 hn2 => ?_), h.2⟩, z1.2.2.2.2.1⟩
  · rw [vpL_ne (by omega)]; exact vpL_eq
  · rw [show ba + (yQ y).2.2.2.1 k + 1 = ba + ((yQ y).2.2.2.1 k + 1) by omega]; exact vpL_eq
  · rw [vpL_ne (by omega)]; exact vpL_ne hn1
theorem MWy.slot (h : MWy y H S nn sp hp f st on j ba pc) (hm : MOy y O L R H j) (hk : yr0 y j ≤ k ∧ k < yr1 y j) (hi : inR (yQ y) k pc) : (yQ y).2.2.2.1 k < ysl y j ∧ ((yQ y).2.2.2.2.1 k = -1 → (yQ y).2.2.2.1 k + 1 < ysl y j) ∧ ysl y j ≤ 319 ∧ ba ≤ 320 * (on - 1) ∧ on ≤ 100 ∧ 1 ≤ on := by
  obtain ⟨a1, a2, a3, a4, a5, a6⟩ := h.1.1
  obtain ⟨w1, w2, w3, w4, w5⟩ := hm.2.2.2.1 pc a4 a5 h.1.2.1.1.1
  obtain ⟨⟨d1, d2, d3, d4, d5, d6⟩, z2⟩ := w5 k hk.1 hk.2 hi
  rcases d6 with ⟨c, x1, x2, x3, x4, x5⟩ | ⟨x2, x3, x4, x5⟩
  · have e9 : ysl y j = (yM y).2.1 j := rfl
    refine ⟨x4, fun q => ?_, by omega, a6, a2, a1⟩
    have z : (nI c).toInt = -1 := by rw [← x2, q]; decide
    rw [nI_toInt (by omega)] at z
    omega
  · have e9 : ysl y j = (yM y).2.1 j := rfl
    exact ⟨by omega, fun _ => by omega, by omega, a6, a2, a1⟩
/-- a jump within the frame, into a handler: steps that are left -/
theorem mT_on (ho : ¬ O pc = 0) (hp9 : pc < 10000) (hx : pc < x) (hf : fl1 ≤ fl) : mT O f fl1 on x + 1 ≤ mT O f fl on pc := by
  have w1 := wt_on (O := O) (pc := pc) (x := x) ho hp9 (Or.inl hx)
  unfold mT
  omega
/-- out of a frame -/
theorem MWy.out (h : MWy y H S nn sp hp f st (n + 2) j ba pc) : ∃ i p b : Nat, f (3 * (n + 1)) = nI p ∧ f (3 * (n + 1) + 1) = nI b ∧ f (3 * (n + 1) + 2) = nI i ∧ i < ynm y ∧ p < yhi y i ∧ b ≤ 320 * n ∧ MWy y H S nn sp hp f st (n + 1) i b p := by
  obtain ⟨i, p, b, h1, h2, h3, h4, h5, h6, h7⟩ := MW.out h.1
  exact ⟨i, p, b, h1, h2, h3, h4, h5, h6, h7, h.2.1, fun k pc2 i2 k1 k2 g1 g2 g3 g4 => h.2.2 k pc2 i2 k1 (by omega) g1 g2 g3 g4⟩
/-- steps that are left while something goes outward -/
def mG (f : Nat → Int32) (fl on pc : Nat) : Nat := 20000 * fl + smf f (on - 1) + (10000 - pc)
theorem mG_in (ho : ¬ O pc = 0) : mT O f fl on pc = mG f fl on pc := by
  unfold mT mG
  rw [wt_at ho]
theorem mG_x (hx : pc < x) (hp9 : pc < 10000) : mT O f fl on x + 1 ≤ mG f fl on pc := by
  have w := wt_le (O := O) (pc := x)
  unfold mT mG
  omega
theorem mG_out (h1 : f (3 * (n + 1)) = nI p) (hp9 : p < 10000) : mG f fl (n + 1) p ≤ mG f fl (n + 2) pc := by
  unfold mG
  have e : smf f (n + 2 - 1) = smf f n + (10000 - p) := by
    rw [show n + 2 - 1 = n + 1 from rfl, smf_up, h1, nI_clamp (by omega)]
  rw [e, show n + 1 - 1 = n from rfl]
  omega
theorem mT_back (h1 : f (3 * (n + 1)) = nI p) (hp9 : p < 10000) : mT O f fl (n + 1) (p + 1) + 1 ≤ mT O f fl (n + 2) pc := by
  unfold mT
  have e : smf f (n + 2 - 1) = smf f n + (10000 - p) := by
    rw [show n + 2 - 1 = n + 1 from rfl, smf_up, h1, nI_clamp (by omega)]
  have w := wt_le (O := O) (pc := p + 1)
  rw [e, show n + 1 - 1 = n from rfl]
  omega
/-- back at the caller -/
theorem MWy.back (h : MWy y H S nn sp hp f st (n + 2) j ba pc) (hM : ∀ i : Nat, i < ynm y → MOy y O L R H i) : ∃ i p b : Nat, f (3 * (n + 1)) = nI p ∧ f (3 * (n + 1) + 1) = nI b ∧ f (3 * (n + 1) + 2) = nI i ∧ i < ynm y ∧ p < yhi y i ∧ b ≤ 320 * n ∧ ba ≤ 320 * (n + 1) ∧
    (yrt y j = 63 → MIy y H S nn sp hp f st (n + 1) i b (p + 1) ba) ∧ (¬ yrt y j = 63 → ∀ v : Int64, VT (yfi y) S (yrt y j) v → MIy y H S nn sp hp f (vp_updL st ba v) (n + 1) i b (p + 1) (ba + 1)) := by
  obtain ⟨⟨⟨a1, a2, a3, a4, a5, a6⟩, b, c9, d9⟩, e9, e10⟩ := h
  obtain ⟨i, p, b9, os, h1, h2, h3, h4, h5, h6, h7, h8, h9, h10, h11, h12⟩ : CS (yfi y) (yM y) (ynm y) f S st (n + 1) j ba := c9
  have he : HeK y H f (n + 1) := fun k pc2 i2 k1 k2 g1 g2 g3 g4 => e10 k pc2 i2 k1 (by omega) g1 g2 g3 g4
  have ff : FF (yfi y) S (yrt y i) (ywp y i) st (wos os (yA y i p)) b9 (ysl y i) ba := ⟨h9, h10⟩
  have hl := FF.lo ff
  refine ⟨i, p, b9, h1, h2, h3, h4, h6, h8, h7, fun hu => ?_, fun hu v hv => ?_⟩
  · have g := FF.back ff h11 hu
    exact ⟨⟨⟨by omega, by omega, h4, by omega, MO.tgt (hM i h4) (h11.1 hu) (by omega), h8⟩, g, h12, d9⟩, e9, he⟩
  · have g := FF.backV (v := v) (st1 := vp_updL st ba v) ff h11 hu hv vpL_eq (fun i9 hi => vpL_ne (by omega))
    exact ⟨⟨⟨by omega, by omega, h4, by omega, MO.tgt (hM i h4) (h11.2 hu) (by omega), h8⟩, g, h12.same (fun _ _ => rfl) (fun i9 hi => vpL_ne (by omega)), d9⟩, e9, he⟩
end YH
