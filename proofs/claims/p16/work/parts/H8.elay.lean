/-- nothing is laid out yet from k on -/
def LyN (K : PK) (dr nd k : Nat) : Prop := ∀ j : Nat, j < nd → k ≤ j → ∀ d : Nat, K.2.2.2.2.1 dr j = some d → lsz K (K.2.2.1 11 d) = 0 ∧ lsz K (K.2.2.1 12 d) = 0
def LyB (G : pT) (K : PK) (g : Nat → Nat → Nat) (rk : Nat → Nat) (f8 f9 : Nat → Nat) (er : Nat → Option Nat) (ax pq dr ml nd nm cp : Nat) (it : Nat → Nat) (s k : Nat) : Prop := WPr G K g ∧ PgT G K g ax pq dr ml nd nm cp it s ∧ RkO K rk ∧ (∀ j : Nat, j < nd → fz K dr 8 j = f8 j ∧ fz K dr 9 j = f9 j) ∧ K.2.2.2.2.1 dr = er ∧ LyN K dr nd k
def rkx (rk : Nat → Nat) (er : Nat → Option Nat) (k : Nat) : Nat := match er k with
  | none => 0
  | some d => rk d
def sumGt (f rx : Nat → Nat) (r n : Nat) : Nat := sumN (fun k => if r < rx k then f k else 0) n
section LY
variable {G : pT} {K K1 : PK} {g : Nat → Nat → Nat} {p q d f d0 x ax pq dr ml nd nm cp s n cap k j r r2 : Nat} {it rk f8 f9 rx ff : Nat → Nat} {er : Nat → Option Nat} {v : Int32}
theorem sumGt_le : sumGt ff rx r n ≤ sumN ff n := sumN_le (fun k _ => by
  show (if r < rx k then ff k else 0) ≤ ff k
  split <;> omega)
theorem sumGt_in (hj : j < n) (hr : rx j = r) (h2 : r2 < r) : sumGt ff rx r n + ff j ≤ sumGt ff rx r2 n := by
  unfold sumGt
  induction n with
  | zero => omega
  | succ n ih =>
    show sumN (fun k => if r < rx k then ff k else 0) n + (if r < rx n then ff n else 0) + ff j ≤ sumN (fun k => if r2 < rx k then ff k else 0) n + (if r2 < rx n then ff n else 0)
    by_cases e : j = n
    · subst e
      have a : sumN (fun k => if r < rx k then ff k else 0) j ≤ sumN (fun k => if r2 < rx k then ff k else 0) j := sumN_le (fun k _ => by
        show (if r < rx k then ff k else 0) ≤ (if r2 < rx k then ff k else 0)
        by_cases z : r < rx k
        · rw [if_pos z, if_pos (by omega)]; exact Nat.le_refl _
        · rw [if_neg z]; exact Nat.zero_le _)
      rw [if_neg (by omega), if_pos (by omega)]
      omega
    · have a := ih (by omega)
      have b : (if r < rx n then ff n else 0) ≤ (if r2 < rx n then ff n else 0) := by
        by_cases z : r < rx n
        · rw [if_pos z, if_pos (by omega)]; exact Nat.le_refl _
        · rw [if_neg z]; exact Nat.zero_le _
      omega
theorem sumGt_all (hj : j < n) (hr : rx j = r) : sumGt ff rx r n + ff j ≤ sumN ff n := by
  unfold sumGt
  induction n with
  | zero => omega
  | succ n ih =>
    show sumN (fun k => if r < rx k then ff k else 0) n + (if r < rx n then ff n else 0) + ff j ≤ sumN ff n + ff n
    by_cases e : j = n
    · subst e
      have a : sumN (fun k => if r < rx k then ff k else 0) j ≤ sumN ff j := sumN_le (fun k _ => by
        show (if r < rx k then ff k else 0) ≤ ff k
        split <;> omega)
      rw [if_neg (by omega)]
      omega
    · have a := ih (by omega)
      have b : (if r < rx n then ff n else 0) ≤ ff n := by split <;> omega
      omega
theorem RkO.add (h : RkO K rk) (ha : AdQ K K1 f) (hn6 : N6 K K1) (hf : K.1 f = 5) : RkO K1 rk := fun q d hq hd => by
  obtain ⟨z, zq⟩ := hn6.old ha hq (by decide) (by decide)
  have sq := ha.sm z (fun e => by rw [e, hf] at zq; exact absurd zq (by decide)) (by rw [zq]; decide)
  rw [sq.2.2.1 10] at hd
  obtain ⟨h1, h2⟩ := h q d zq hd
  exact ⟨(ha.1 d (by rw [h1]; decide)).1.trans h1, h2⟩
/-- a list of somebody's layout or known methods takes one more -/
theorem LyB.add {it9 : Nat → Nat} (h : LyB G K g rk f8 f9 er ax pq dr ml nd nm cp it s k) (ha : AdQ K K1 f) (hn6 : N6 K K1) (hf : K.1 f = 5) (hr : g 3 f = 4 ∨ g 3 f = 5) (hsz : szL K1 f = szL K f + 1) (hl : LsC G K1 f (esr (g 3 f)) n it9 cap) (hb : n ≤ 5000 ∧ cap ≤ 10 + 2 * n) (ho : ∀ j : Nat, j < nd → k ≤ j → ∀ d : Nat, er j = some d → ¬ g 4 f = d) : LyB G K1 g rk f8 f9 er ax pq dr ml nd nm cp it s k := by
  obtain ⟨h1, h2, h3, h4, h5, h6⟩ := h
  have hr6 : ¬ g 3 f = 6 := by rcases hr with e | e <;> rw [e] <;> decide
  have hr1 : ¬ g 3 f = 1 := by rcases hr with e | e <;> rw [e] <;> decide
  have hr2 : ¬ g 3 f = 2 := by rcases hr with e | e <;> rw [e] <;> decide
  have hml : ¬ f = ml := fun z => hr6 (by rw [z]; exact h2.1.2.2.2.2.2.2.1)
  have hwr : wr (g 3 f) = 0 := by unfold wr; rw [if_neg hr1, if_neg hr2]
  have hbd : bdr (g 3 f) = 5000 := by unfold bdr; rw [if_neg hr1, if_neg hr2]
  have hT := PgT.add h2 h1 ha hn6 hf hml hsz hr6 (fun z => absurd z hr2)
  rw [hwr] at hT
  have hdr := h2.1.2.2.2.1
  have ne : ∀ p s : Nat, K.1 p = s → ¬ s = 5 → ¬ p = f := fun p s hp hs z => hs (by rw [← hp, z]; exact hf)
  have sr := (ha.sm (p := dr) (by rw [hdr]; decide) (ne dr 8 hdr (by decide)) (by rw [hdr]; decide)).2.2.2.2.1
  have sd : ∀ d : Nat, K.1 d = 4 → Sm K K1 d := fun d hd => ha.sm (by rw [hd]; decide) (ne d 4 hd (by decide)) (by rw [hd]; decide)
  have sx : ∀ x : Nat, K.1 x = 5 → ¬ x = f → K1.2.1 23 x = K.2.1 23 x := fun x h5 hn => (ha.sm (by rw [h5]; decide) hn (by rw [h5]; decide)).2.1 23
  refine ⟨WPr.add h1 ha hn6 hf hl (by rw [hbd]; exact hb), hT, RkO.add h3 ha hn6 hf, fun j hj => ?_, sr.trans h5, fun j hj hkj d he => ?_⟩
  · obtain ⟨d, d1, d2, _⟩ := h2.2.1 j hj
    have e8 : fz K1 dr 8 j = fz K dr 8 j := by
      unfold fz
      rw [sr, d1]
      exact lsz_sm ((sd d d2).2.2.1 8) (h1.2.2.1 d d2).1 (fun x h5 h9 => sx x h5 (fun z => hr1 (by rw [← z]; exact h9)))
    have e9 : fz K1 dr 9 j = fz K dr 9 j := by
      unfold fz
      rw [sr, d1]
      exact lsz_sm ((sd d d2).2.2.1 9) (h1.2.2.1 d d2).2.1 (fun x h5 h9 => sx x h5 (fun z => hr2 (by rw [← z]; exact h9)))
    rw [e8, e9]; exact h4 j hj
  · rw [sr] at he
    obtain ⟨d', d1, d2, _⟩ := h2.2.1 j hj
    rw [he] at d1; cases d1
    have hne := ho j hj hkj d (by rw [← h5]; exact he)
    obtain ⟨a1, a2⟩ := h6 j hj hkj d he
    obtain ⟨_, _, ⟨x, x1, x2, x3, x4⟩, ⟨y, y1, y2, y3, y4⟩, _⟩ := h1.2.2.1 d d2
    have l1 : lsz K1 (K1.2.2.1 11 d) = lsz K (K.2.2.1 11 d) := by
      rw [(sd d d2).2.2.1 11, x1]
      show szL K1 x = szL K x
      unfold szL
      rw [sx x x2 (fun z => hne (by rw [← z]; exact x4))]
    have l2 : lsz K1 (K1.2.2.1 12 d) = lsz K (K.2.2.1 12 d) := by
      rw [(sd d d2).2.2.1 12, y1]
      show szL K1 y = szL K y
      unfold szL
      rw [sx y y2 (fun z => hne (by rw [← z]; exact y4))]
    rw [l1, l2]; exact ⟨a1, a2⟩
theorem LyB.kI (h : LyB G K g rk f8 f9 er ax pq dr ml nd nm cp it s k) (hf : f = 5 ∨ f = 10) : LyB G (kI K f q v) g rk f8 f9 er ax pq dr ml nd nm cp it s k := by
  obtain ⟨h1, h2, h3, h4, h5, h6⟩ := h
  have n23 : ¬ 23 = f := by rcases hf with e | e <;> rw [e] <;> decide
  refine ⟨WPr.kI h1 (by rcases hf with e | e <;> rw [e] <;> decide) (Or.inl (by rcases hf with e | e <;> rw [e] <;> decide)), PgT.kI h2 (by rcases hf with e | e <;> rw [e] <;> decide), h3, fun j hj => ?_, h5, fun j hj hkj d he => ?_⟩
  · rw [fz_kI n23, fz_kI n23]; exact h4 j hj
  · rw [lsz_kI n23, lsz_kI n23]; exact h6 j hj hkj d he
theorem LyB.up (h : LyB G K g rk f8 f9 er ax pq dr ml nd nm cp it s k) : LyB G K g rk f8 f9 er ax pq dr ml nd nm cp it s (k + 1) := ⟨h.1, h.2.1, h.2.2.1, h.2.2.2.1, h.2.2.2.2.1, fun j hj hkj => h.2.2.2.2.2 j hj (by omega)⟩
/-- the Decl k's own lists aren't among the later ones' -/
theorem LyB.other (h : LyB G K g rk f8 f9 er ax pq dr ml nd nm cp it s (k + 1)) (hk : k < nd) (he : er k = some d0) (hx : g 4 x = d0) : ∀ j : Nat, j < nd → k + 1 ≤ j → ∀ d : Nat, er j = some d → ¬ g 4 x = d := fun j hj hkj d hd z => by
  have hnd := h.2.1.1.2.2.2.2.2.2.2.2
  have e : d0 = d := hx.symm.trans z
  subst e
  have w := DcR.uniq (k := j) (j := k) h.2.1.2.1 (by omega) (by omega) hj hk (by rw [h.2.2.2.2.1]; exact hd) (by rw [h.2.2.2.2.1]; exact he)
  omega
theorem dec_cases {x : Int32} {t : Nat} (ht : t < 2 ^ 31) (h : x = nI t - 1) : (t = 0 ∧ x = -1) ∨ ∃ m : Nat, t = m + 1 ∧ x = nI m := by
  by_cases z : t = 0
  · subst z; exact Or.inl ⟨rfl, by rw [h]; decide⟩
  · refine Or.inr ⟨t - 1, by omega, ?_⟩
    rw [h]
    exact nI_subN (a := 1) (b := t) (by omega)
end LY
