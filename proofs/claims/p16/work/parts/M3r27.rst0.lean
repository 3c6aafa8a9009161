section TR2
variable {K : Nat → Int32} {T wr wr' : Nat} {X Y : Nat → Nat → Int32} {lo mid hi op n c h h' hc k s la lc : Nat} {rs rs' : List (Nat × Nat)}
/-- the same where n is itself a child: its parent stays above it -/
theorem Fst.att2 {gh gh' : Nat → Nat → Nat} {r m : Nat} (a : Fst K T wr X gh lo hi op) (hh : hi ≤ 20000) (n0 : ∀ i w : Nat, 1 ≤ w → w ≤ 5 → gh 0 n = 8 * i + w → (gh' 1 n < gh 1 i ∧ w ≠ 3 ∧ w ≠ 5) ∧ i ≠ n) (c0 : gh 0 c = 160000)
    (hr : 12 ≤ r ∧ r ≤ 16) (hv : X r m = -1) (hY : ∀ j i : Nat, 9 ≤ j → j ≤ 16 → lo ≤ i → i < hi → ¬ (j = r ∧ i = m) → Y j i = X j i)
    (g0 : ∀ i, i ≠ c → gh' 0 i = gh 0 i) (g1 : ∀ i, i ≠ n → gh' 1 i = gh 1 i) (g1n : gh 1 n ≤ gh' 1 n) (g2 : ∀ i, i ≠ c → gh' 2 i = gh 2 i)
    (hcv : conv Y gh' lo hi c)
    (hsl : r ≤ 15 → ∀ k : Nat, k ≤ 44 → Y 9 m = nI k → sok Y gh' T wr lo hi op m (r - 11) (cdOf k (r - 11)) (Y r m))
    (hnx : r = 16 → nxt Y gh' hi m) : Fst K T wr Y gh' lo hi op := by
  intro i l1 l2
  obtain ⟨a1, a2, a3, a4, k, b1, b2, b3, b4⟩ := a i l1 l2
  have y9 : ∀ i, lo ≤ i → i < hi → Y 9 i = X 9 i := fun i p q => hY 9 i (by omega) (by omega) p q (by omega)
  have nm1 : ∀ i, i < hi → ¬ nI i = -1 := fun i q => nI_m1 (by omega)
  refine ⟨by rw [hY 10 i (by omega) (by omega) l1 l2 (by omega)]; exact a1, by rw [hY 11 i (by omega) (by omega) l1 l2 (by omega), y9 i l1 l2]; exact a2, ?_, ?_, k, by rw [y9 i l1 l2]; exact b1, b2, b3, ?_⟩
  · by_cases e : r = 16 ∧ i = m
    · rw [e.2]; exact hnx e.1
    · rcases a3 with z | ⟨j, d1, d2, d3, d4, d5, d6, d7⟩
      · exact Or.inl (by rw [hY 16 i (by omega) (by omega) l1 l2 (by omega)]; exact z)
      · have i1 : i ≠ c := fun q => by rw [q, c0] at d5; omega
        have j1 : j ≠ c := fun q => by rw [q, c0] at d4; omega
        exact Or.inr ⟨j, by rw [hY 16 i (by omega) (by omega) l1 l2 (by omega)]; exact d1, d2, d3, by rw [g0 j j1, g0 i i1]; exact d4, by rw [g0 i i1]; exact d5, by rw [g2 j j1, g2 i i1]; exact d6, by rw [y9 j (by omega) d3, y9 i l1 l2]; exact d7⟩
  · by_cases e : i = c
    · rw [e]; exact hcv
    · unfold conv
      rw [g0 i e, g2 i e]
      rcases a4 with z | ⟨p, s, d1, d2, d3, d5, d4⟩
      · exact Or.inl z
      · have sb : 1 ≤ s ∧ s ≤ 5 := by rcases d4 with ⟨e1, e2, _⟩ | ⟨e1, _⟩ <;> omega
        refine Or.inr ⟨p, s, d1, d2, d3, ?_, ?_⟩
        · by_cases e8 : i = n
          · rw [e8] at d3 ⊢
            have z := n0 p s sb.1 sb.2 d3
            rw [g1 p z.2]; exact ⟨z.1.1, fun q => absurd q z.1.2.2, fun q => absurd q z.1.2.1⟩
          · rw [g1 i e8, y9 i l1 l2, y9 p d1 d2]
            by_cases e9 : p = n
            · rw [e9] at d5 ⊢; exact d5.up g1n
            · rw [g1 p e9]; exact d5
        rcases d4 with ⟨e1, e2, e3⟩ | ⟨e1, e2⟩
        · refine Or.inl ⟨e1, e2, ?_⟩
          rw [hY (11 + s) p (by omega) (by omega) d1 d2 (fun q => by rw [← q.1, ← q.2, e3] at hv; exact nm1 i l2 hv)]; exact e3
        · refine Or.inr ⟨e1, ?_⟩
          rcases e2 with ⟨f1, f2⟩ | ⟨q, f1, f2, f3, f4⟩
          · refine Or.inl ⟨f1, ?_⟩
            rw [y9 p d1 d2]
            have hh' : 9 ≤ hdr (X 9 p) ∧ hdr (X 9 p) ≤ 16 := by unfold hdr; split <;> omega
            rw [hY _ p hh'.1 hh'.2 d1 d2 (fun q => by rw [← q.1, ← q.2, f2] at hv; exact nm1 i l2 hv)]; exact f2
          · have q1 : q ≠ c := fun z => by rw [z, c0] at f3; omega
            exact Or.inr ⟨q, f1, f2, by rw [g0 q q1]; exact f3, by rw [hY 16 q (by omega) (by omega) f1 (by omega) (fun z => by rw [← z.1, ← z.2, f4] at hv; exact nm1 i l2 hv)]; exact f4⟩
  · intro s s1 s4
    by_cases e : r = 11 + s ∧ i = m
    · have z := hsl (by omega) k b3 (by rw [← e.2, y9 i l1 l2]; exact b1)
      rw [e.1, Nat.add_sub_cancel_left] at z
      rw [e.2]; exact z
    · rw [hY (11 + s) i (by omega) (by omega) l1 l2 (by omega)]
      obtain ⟨d1, d2, d3, d4⟩ := b4 s s1 s4
      refine ⟨d1, d2, d3, fun e1 e2 e3 e4 => ?_⟩
      rcases d4 e1 e2 e3 e4 with z | ⟨j, f1, f2, f3, f4, f5, f6, f7⟩
      · exact Or.inl z
      · have j1 : j ≠ c := fun q => by rw [q, c0] at f4; split at f4 <;> omega
        refine Or.inr ⟨j, f1, f2, f3, by rw [g0 j j1]; exact f4, ?_, by rw [y9 j f2 f3]; exact f6, fun q => by rw [g2 j j1]; exact f7 q⟩
        by_cases j2 : j = n
        · rw [j2] at f4 ⊢
          have z := n0 i _ (by split <;> omega) (by split <;> omega) f4
          rw [g1 i z.2]; exact z.1.1
        · rw [g1 j j2]
          by_cases e5 : i = n
          · rw [e5] at f5 ⊢; omega
          · rw [g1 i e5]; exact f5
/-- a root grows -/
theorem Fst.grow {gh : Nat → Nat → Nat} (a : Fst K T wr X gh lo hi op) (n0 : gh 0 n = 160000) (hg : gh 1 n ≤ h) : Fst K T wr X (fun j i => if j = 1 ∧ i = n then h else gh j i) lo hi op := by
  intro i l1 l2
  have e : ∀ j i, ¬ (j = 1 ∧ i = n) → (fun j i => if j = 1 ∧ i = n then h else gh j i) j i = gh j i := fun j i q => if_neg q
  generalize (fun j i => if j = 1 ∧ i = n then h else gh j i) = g, (show (fun j i => if j = 1 ∧ i = n then h else gh j i) 1 n = h from if_pos ⟨rfl, rfl⟩) = en at e ⊢
  obtain ⟨a1, a2, a3, a4, k, b1, b2, b3, b4⟩ := a i l1 l2
  have g0 : ∀ i, g 0 i = gh 0 i := fun i => e 0 i (by omega)
  have g2 : ∀ i, g 2 i = gh 2 i := fun i => e 2 i (by omega)
  refine ⟨a1, a2, ?_, ?_, k, b1, b2, b3, fun s s1 s4 => ?_⟩
  · unfold nxt; simp only [g0, g2]; exact a3
  · rcases a4 with z | ⟨p, s, z1, z2, z3, z9, z4⟩
    · exact Or.inl (by rw [g0]; exact z)
    · refine Or.inr ⟨p, s, z1, z2, by rw [g0]; exact z3, ?_, by simp only [g0, g2]; exact z4⟩
      have inn : i ≠ n := fun q => by
        rw [q, n0] at z3
        rcases z4 with ⟨e1, e2, _⟩ | ⟨e1, _⟩ <;> omega
      rw [e 1 i (by omega)]
      by_cases e9 : p = n
      · rw [e9] at z9 ⊢
        have : g 1 n = h := en
        rw [this]; exact z9.up hg
      · rw [e 1 p (by omega)]; exact z9
  · obtain ⟨d1, d2, d3, d4⟩ := b4 s s1 s4
    refine ⟨d1, d2, d3, fun e1 e2 e3 e4 => (d4 e1 e2 e3 e4).imp id (fun ⟨j, f1, f2, f3, f4, f5, f6, f7⟩ => ⟨j, f1, f2, f3, by rw [g0]; exact f4, ?_, f6, fun q => by rw [g2]; exact f7 q⟩)⟩
    have j2 : j ≠ n := fun q => by rw [q, n0] at f4; split at f4 <;> omega
    rw [e 1 j (by omega)]
    by_cases e5 : i = n
    · rw [e5] at f5 ⊢
      have : g 1 n = h := en
      omega
    · rw [e 1 i (by omega)]; exact f5
/-- a root is put into place 2 of a declaration that is itself the first child of the root n -/
theorem Frs.set2 {m : Nat} (a : Frs K T wr X lo hi op [(n, h), (c, hc)]) (hh : hi ≤ 20000) (hne : c ≠ n) (hcm : c ≠ m) (hm : lo ≤ m ∧ m < hi) (hmn : m ≠ n) (hA : X 12 n = nI m) (hk : X 9 n = nI k) (k9 : k ≤ 44) (hcd : cdOf k 1 ≠ 0 ∧ cdOf k 1 ≠ 50 ∧ cdOf k 1 ≠ 51 ∧ cdOf k 1 ≠ 60 ∧ cdOf k 1 < 200) (hm9 : X 9 m = nI 30) (hv : X 13 m = -1) (hcl : kcl 1 (X 9 c) = true) (h1 : h ≤ h') (h2 : hc + 2 ≤ h') : Frs K T wr (stR X 13 m (nI c)) lo hi op [(n, h')] := by
  obtain ⟨gh, a1, a2⟩ := a
  obtain ⟨n1, n2, n3, n4⟩ := a2 (n, h) (by simp)
  obtain ⟨c1, c2, c3, c4⟩ := a2 (c, hc) (by simp)
  simp only at n1 n2 n3 n4 c1 c2 c3 c4
  obtain ⟨_, _, _, _, k', e1, e2, e3, e4⟩ := a1 n n1 n2
  have ek : k' = k := (nI_eq (by omega) (by omega)).mp (e1.symm.trans hk)
  subst ek
  have J : gh 0 m = 8 * n + 1 ∧ gh 1 m < gh 1 n := by
    rcases (e4 1 (by omega) (by omega)).2.2.2 hcd.1 hcd.2.1 hcd.2.2.1 hcd.2.2.2.1 with z | ⟨j, f1, f2, f3, f4, f5, _⟩
    · exact absurd (hA.symm.trans z.1) (nI_m1 (by omega))
    · have : j = m := (nI_eq (by omega) (by omega)).mp (f1.symm.trans hA)
      subst this
      rw [if_neg (by omega)] at f4
      exact ⟨f4, f5⟩
  have G := Fst.grow (h := h') a1 n3 (by omega)
  generalize hg : (fun j i => if j = 1 ∧ i = n then h' else gh j i) = g at G
  have q1 : ∀ j i, ¬ (j = 1 ∧ i = n) → g j i = gh j i := fun j i q => by rw [← hg]; exact if_neg q
  have q2 : g 1 n = h' := by rw [← hg]; exact if_pos ⟨rfl, rfl⟩
  have y9 : ∀ i, stR X 13 m (nI c) 9 i = X 9 i := fun i => st_ne (by omega)
  refine ⟨ghA g c (8 * m + 2) m (max (gh 1 m) (hc + 1)) 0, Fst.att2 (n := m) (c := c) (r := 13) (m := m) G hh ?_ (by rw [q1 0 c (by omega)]; exact c3) (by omega) hv (fun j i _ _ _ _ e => st_ne e) (fun i e => ghA_0 e) (fun i e => ghA_1 e) (by rw [ghA_1n, q1 1 m (by omega)]; omega) (fun i e => ghA_2 e) ?_ ?_ (fun e => absurd e (by omega)), ?_⟩
  · intro i w w1 w5 q
    rw [q1 0 m (by omega), J.1] at q
    have : i = n := by omega
    subst this
    rw [ghA_1n, q2]
    exact ⟨⟨by omega, by omega, by omega⟩, fun z => hmn z.symm⟩
  · exact Or.inr ⟨m, 2, hm.1, hm.2, ghA_0c, by rw [ghA_1n, ghA_1 hcm, q1 1 c (by omega)]; exact ⟨by omega, fun q => absurd q (by omega), fun q => absurd q (by omega)⟩, Or.inl ⟨by omega, by omega, st_eq⟩⟩
  · intro _ k2 k29 hk2
    have : k2 = 30 := by
      rw [y9, hm9] at hk2
      exact ((nI_eq (by omega) (by omega)).mp hk2).symm
    subst this
    refine ⟨fun e => absurd e (by decide), fun e => absurd e (by decide), fun e => absurd e (by decide), fun _ _ _ _ => Or.inr ⟨c, st_eq, c1, c2, ghA_0c, ?_, by rw [y9]; exact hcl, fun _ => ghA_2c⟩⟩
    rw [ghA_1n, ghA_1 hcm, q1 1 c (by omega)]
    omega
  · intro q hq
    rw [List.mem_singleton.mp hq]
    exact ⟨n1, n2, by rw [ghA_0 hne.symm, q1 0 n (by omega)]; exact n3, by rw [ghA_1 (Ne.symm hmn), q2]; exact Nat.le_refl _⟩
theorem kcl_10_3 {k : Int32} (h : kcl 10 k = true) : kcl 3 k = true := by
  have w : k = 31 := by simpa [kcl] using h
  rw [w]; decide
theorem kcl_15_3 {k : Int32} (h : kcl 15 k = true) : kcl 3 k = true := by
  have w : k = 32 ∨ k = 33 := by simpa [kcl] using h
  rcases w with w | w <;> rw [w] <;> decide
theorem kcl_3_7 {k : Int32} (h : kcl 3 k = true) : kcl 7 k = true := by
  have w : (31 : Int32) ≤ k ∧ k ≤ 43 := by simpa [kcl] using h
  have w1 : (30 : Int32) ≤ k := Int32.le_trans (by decide) w.1
  simp [kcl, w1, w.2]
theorem kcl_32_14 {k : Int32} (h : k = 32) : kcl 14 k = true := by rw [h]; decide
end TR2
def Plocal (l : Launch) (G : pT) (n : Nat) : Prop := ∀ (h0 : Nat) (a : Nat → Nat) (F : Nat → Int32) (B : Nat → Nat → Int32) (at0 : Nat) (T : Nat) (ne : Nat) (nd : Nat) (wr : Nat) (lk : Nat) (K : Nat → Int32) (fi : Nat), (at0 ≤ T) → (T ≤ 5000) → (K T = 0 ∨ K T = 3) → (ne ≤ 20) → (nd ≤ 2 * at0) → (wr ≤ at0) → (lk ≤ 60) → (tkRow (B 19) wr T) → (21 ≤ n + ne) → (fi ≤ T) → PM l G pX0 yX12_local cX12_local 5 (some .int) ({ frames := (26 * n + 30), cells := 0, slots := 0, locals := (2000 * n + 3000) }) [.ref h0, .int (nI fi)] (mW G h0 a (upd (upd (upd (upd (upd (upd F 15 0) 27 (nI nd)) 31 (nI wr)) 64 (nI at0)) 65 (nI ne)) 66 (nI lk)) (updA B 2 K)) (fun (v : Option Value) (u : Nat × Nat × Int32 × Nat × Nat × Nat × Nat × (Nat → Nat → Int32)) => v = some (.int (nI u.2.2.2.2.2.2.1)) ∧ (at0 ≤ u.1) ∧ (u.1 ≤ T) ∧ (u.2.1 ≤ 100) ∧ (nd ≤ u.2.2.2.1) ∧ (u.2.2.2.1 + 2 * at0 ≤ nd + 2 * u.1 + 100000 * u.2.1) ∧ (u.2.2.2.1 + 2 * at0 ≤ nd + 2 * u.1 + (40 * (21 - ne) + 5)) ∧ (wr ≤ u.2.2.2.2.2.1) ∧ (u.2.2.2.2.2.1 + at0 ≤ wr + u.1) ∧ (lk ≤ u.2.2.2.2.1) ∧ (u.2.2.2.2.1 ≤ 60 + 100 * u.2.1) ∧ (at0 + 1 ≤ u.1 + u.2.1) ∧ (u.2.2.2.2.2.2.1 ≤ u.2.2.2.1) ∧ (Kp B u.2.2.2.2.2.2.2 u.2.2.2.2.2.1 T) ∧ (If (u.2.1 = 0) (Low B u.2.2.2.2.2.2.2 nd wr ∧ Frs K T u.2.2.2.2.2.1 u.2.2.2.2.2.2.2 nd u.2.2.2.1 20000 [(u.2.2.2.2.2.2.1, 280)] ∧ kcl 7 (u.2.2.2.2.2.2.2 9 u.2.2.2.2.2.2.1) = true))) (fun u => (mW G h0 a (upd (upd (upd (upd (upd (upd (upd F 15 (nI u.2.1)) 16 u.2.2.1) 27 (nI u.2.2.2.1)) 31 (nI u.2.2.2.2.2.1)) 64 (nI u.1)) 65 (nI ne)) 66 (nI u.2.2.2.2.1)) (updA u.2.2.2.2.2.2.2 2 K)))
def Psimple0 (l : Launch) (G : pT) (n : Nat) : Prop := ∀ (h0 : Nat) (a : Nat → Nat) (F : Nat → Int32) (B : Nat → Nat → Int32) (at0 : Nat) (T : Nat) (ne : Nat) (nd : Nat) (wr : Nat) (lk : Nat) (K : Nat → Int32), (at0 ≤ T) → (T ≤ 5000) → (K T = 0 ∨ K T = 3) → (ne ≤ 20) → (nd ≤ 2 * at0) → (wr ≤ at0) → (lk ≤ 60) → (tkRow (B 19) wr T) → (21 ≤ n + ne) → PM l G pX0 yX12_simple cX12_simple 6 (some .int) ({ frames := (26 * n + 30), cells := 0, slots := 0, locals := (2000 * n + 3000) }) [.ref h0, .int 0] (mW G h0 a (upd (upd (upd (upd (upd (upd F 15 0) 27 (nI nd)) 31 (nI wr)) 64 (nI at0)) 65 (nI ne)) 66 (nI lk)) (updA B 2 K)) (fun (v : Option Value) (u : Nat × Nat × Int32 × Nat × Nat × Nat × Nat × (Nat → Nat → Int32)) => v = some (.int (nI u.2.2.2.2.2.2.1)) ∧ (at0 ≤ u.1) ∧ (u.1 ≤ T) ∧ (u.2.1 ≤ 100) ∧ (nd ≤ u.2.2.2.1) ∧ (u.2.2.2.1 + 2 * at0 ≤ nd + 2 * u.1 + 100000 * u.2.1) ∧ (u.2.2.2.1 + 2 * at0 ≤ nd + 2 * u.1 + (40 * (21 - ne) + 5)) ∧ (wr ≤ u.2.2.2.2.2.1) ∧ (u.2.2.2.2.2.1 + at0 ≤ wr + u.1) ∧ (lk ≤ u.2.2.2.2.1) ∧ (u.2.2.2.2.1 ≤ 60 + 100 * u.2.1) ∧ (at0 + 1 ≤ u.1 + u.2.1) ∧ (u.2.2.2.2.2.2.1 ≤ u.2.2.2.1) ∧ (Kp B u.2.2.2.2.2.2.2 u.2.2.2.2.2.1 T) ∧ (If (u.2.1 = 0) (Low B u.2.2.2.2.2.2.2 nd wr ∧ Frs K T u.2.2.2.2.2.1 u.2.2.2.2.2.2.2 nd u.2.2.2.1 20000 [(u.2.2.2.2.2.2.1, 280)] ∧ u.2.2.2.2.2.2.2 9 u.2.2.2.2.2.2.1 = 32))) (fun u => (mW G h0 a (upd (upd (upd (upd (upd (upd (upd F 15 (nI u.2.1)) 16 u.2.2.1) 27 (nI u.2.2.2.1)) 31 (nI u.2.2.2.2.2.1)) 64 (nI u.1)) 65 (nI ne)) 66 (nI u.2.2.2.2.1)) (updA u.2.2.2.2.2.2.2 2 K)))
def Psimple1 (l : Launch) (G : pT) (n : Nat) : Prop := ∀ (h0 : Nat) (a : Nat → Nat) (F : Nat → Int32) (B : Nat → Nat → Int32) (at0 : Nat) (T : Nat) (ne : Nat) (nd : Nat) (wr : Nat) (lk : Nat) (K : Nat → Int32), (at0 ≤ T) → (T ≤ 5000) → (K T = 0 ∨ K T = 3) → (ne ≤ 20) → (nd ≤ 2 * at0) → (wr ≤ at0) → (lk ≤ 60) → (tkRow (B 19) wr T) → (21 ≤ n + ne) → PM l G pX0 yX12_simple cX12_simple 6 (some .int) ({ frames := (26 * n + 30), cells := 0, slots := 0, locals := (2000 * n + 3000) }) [.ref h0, .int 1] (mW G h0 a (upd (upd (upd (upd (upd (upd F 15 0) 27 (nI nd)) 31 (nI wr)) 64 (nI at0)) 65 (nI ne)) 66 (nI lk)) (updA B 2 K)) (fun (v : Option Value) (u : Nat × Nat × Int32 × Nat × Nat × Nat × Nat × (Nat → Nat → Int32)) => v = some (.int (nI u.2.2.2.2.2.2.1)) ∧ (at0 ≤ u.1) ∧ (u.1 ≤ T) ∧ (u.2.1 ≤ 100) ∧ (nd ≤ u.2.2.2.1) ∧ (u.2.2.2.1 + 2 * at0 ≤ nd + 2 * u.1 + 1 + 100000 * u.2.1) ∧ (u.2.2.2.1 + 2 * at0 ≤ nd + 2 * u.1 + (40 * (21 - ne) + 5)) ∧ (wr ≤ u.2.2.2.2.2.1) ∧ (u.2.2.2.2.2.1 + at0 ≤ wr + u.1) ∧ (lk ≤ u.2.2.2.2.1) ∧ (u.2.2.2.2.1 ≤ 60 + 100 * u.2.1) ∧ (at0 + 1 ≤ u.1 + u.2.1) ∧ (u.2.2.2.2.2.2.1 ≤ u.2.2.2.1) ∧ (Kp B u.2.2.2.2.2.2.2 u.2.2.2.2.2.1 T) ∧ (If (u.2.1 = 0) (Low B u.2.2.2.2.2.2.2 nd wr ∧ Frs K T u.2.2.2.2.2.1 u.2.2.2.2.2.2.2 nd u.2.2.2.1 20000 [(u.2.2.2.2.2.2.1, 280)] ∧ kcl 15 (u.2.2.2.2.2.2.2 9 u.2.2.2.2.2.2.1) = true))) (fun u => (mW G h0 a (upd (upd (upd (upd (upd (upd (upd F 15 (nI u.2.1)) 16 u.2.2.1) 27 (nI u.2.2.2.1)) 31 (nI u.2.2.2.2.2.1)) 64 (nI u.1)) 65 (nI ne)) 66 (nI u.2.2.2.2.1)) (updA u.2.2.2.2.2.2.2 2 K)))
def Pstatement (l : Launch) (G : pT) (n : Nat) : Prop := ∀ (h0 : Nat) (a : Nat → Nat) (F : Nat → Int32) (B : Nat → Nat → Int32) (at0 : Nat) (T : Nat) (ne : Nat) (nd : Nat) (wr : Nat) (lk : Nat) (K : Nat → Int32), (at0 ≤ T) → (T ≤ 5000) → (K T = 0 ∨ K T = 3) → (ne ≤ 20) → (nd ≤ 2 * at0) → (wr ≤ at0) → (lk ≤ 60) → (tkRow (B 19) wr T) → (21 ≤ n + ne) → PM l G pX0 yX12_statement cX12_statement 3 (some .int) ({ frames := (26 * n + 40), cells := 0, slots := 0, locals := (2000 * n + 4000) }) [.ref h0] (mW G h0 a (upd (upd (upd (upd (upd (upd F 15 0) 27 (nI nd)) 31 (nI wr)) 64 (nI at0)) 65 (nI ne)) 66 (nI lk)) (updA B 2 K)) (fun (v : Option Value) (u : Nat × Nat × Int32 × Nat × Nat × Nat × Nat × (Nat → Nat → Int32)) => v = some (.int (nI u.2.2.2.2.2.2.1)) ∧ (at0 ≤ u.1) ∧ (u.1 ≤ T) ∧ (u.2.1 ≤ 100) ∧ (nd ≤ u.2.2.2.1) ∧ (u.2.2.2.1 + 2 * at0 ≤ nd + 2 * u.1 + 100000 * u.2.1) ∧ (u.2.2.2.1 + 2 * at0 ≤ nd + 2 * u.1 + (60 * (20 - ne) + 40)) ∧ (wr ≤ u.2.2.2.2.2.1) ∧ (u.2.2.2.2.2.1 + at0 ≤ wr + u.1) ∧ (lk ≤ u.2.2.2.2.1) ∧ (u.2.2.2.2.1 ≤ lk) ∧ (at0 + 1 ≤ u.1 + u.2.1) ∧ (u.2.2.2.2.2.2.1 ≤ u.2.2.2.1) ∧ (Kp B u.2.2.2.2.2.2.2 u.2.2.2.2.2.1 T) ∧ (If (u.2.1 = 0) (Low B u.2.2.2.2.2.2.2 nd wr ∧ Frs K T u.2.2.2.2.2.1 u.2.2.2.2.2.2.2 nd u.2.2.2.1 20000 [(u.2.2.2.2.2.2.1, (280 + 4 * (20 - ne)))] ∧ kcl 3 (u.2.2.2.2.2.2.2 9 u.2.2.2.2.2.2.1) = true))) (fun u => (mW G h0 a (upd (upd (upd (upd (upd (upd (upd F 15 (nI u.2.1)) 16 u.2.2.1) 27 (nI u.2.2.2.1)) 31 (nI u.2.2.2.2.2.1)) 64 (nI u.1)) 65 (nI ne)) 66 (nI u.2.2.2.2.1)) (updA u.2.2.2.2.2.2.2 2 K)))
def Ppart (l : Launch) (G : pT) (n : Nat) : Prop := ∀ (h0 : Nat) (a : Nat → Nat) (F : Nat → Int32) (B : Nat → Nat → Int32) (at0 : Nat) (T : Nat) (ne : Nat) (nd : Nat) (wr : Nat) (lk : Nat) (K : Nat → Int32), (at0 ≤ T) → (T ≤ 5000) → (K T = 0 ∨ K T = 3) → (ne ≤ 20) → (nd ≤ 2 * at0) → (wr ≤ at0) → (lk ≤ 60) → (tkRow (B 19) wr T) → (21 ≤ n + ne) → PM l G pX0 yX12_part cX12_part 4 (some .int) ({ frames := (26 * n + 41), cells := 0, slots := 0, locals := (2000 * n + 4100) }) [.ref h0] (mW G h0 a (upd (upd (upd (upd (upd (upd F 15 0) 27 (nI nd)) 31 (nI wr)) 64 (nI at0)) 65 (nI ne)) 66 (nI lk)) (updA B 2 K)) (fun (v : Option Value) (u : Nat × Nat × Int32 × Nat × Nat × Nat × Nat × (Nat → Nat → Int32)) => v = some (.int (nI u.2.2.2.2.2.2.1)) ∧ (at0 ≤ u.1) ∧ (u.1 ≤ T) ∧ (u.2.1 ≤ 100) ∧ (nd ≤ u.2.2.2.1) ∧ (u.2.2.2.1 + 2 * at0 ≤ nd + 2 * u.1 + 100000 * u.2.1) ∧ (u.2.2.2.1 + 2 * at0 ≤ nd + 2 * u.1 + (60 * (20 - ne) + 40)) ∧ (wr ≤ u.2.2.2.2.2.1) ∧ (u.2.2.2.2.2.1 + at0 ≤ wr + u.1) ∧ (lk ≤ u.2.2.2.2.1) ∧ (u.2.2.2.2.1 ≤ lk) ∧ (at0 + 1 ≤ u.1 + u.2.1) ∧ (u.2.2.2.2.2.2.1 ≤ u.2.2.2.1) ∧ (Kp B u.2.2.2.2.2.2.2 u.2.2.2.2.2.1 T) ∧ (If (u.2.1 = 0) (Low B u.2.2.2.2.2.2.2 nd wr ∧ Frs K T u.2.2.2.2.2.1 u.2.2.2.2.2.2.2 nd u.2.2.2.1 20000 [(u.2.2.2.2.2.2.1, (280 + 4 * (20 - ne)))] ∧ kcl 7 (u.2.2.2.2.2.2.2 9 u.2.2.2.2.2.2.1) = true))) (fun u => (mW G h0 a (upd (upd (upd (upd (upd (upd (upd F 15 (nI u.2.1)) 16 u.2.2.1) 27 (nI u.2.2.2.1)) 31 (nI u.2.2.2.2.2.1)) 64 (nI u.1)) 65 (nI ne)) 66 (nI u.2.2.2.2.1)) (updA u.2.2.2.2.2.2.2 2 K)))
def Pblock (l : Launch) (G : pT) (n : Nat) : Prop := ∀ (h0 : Nat) (a : Nat → Nat) (F : Nat → Int32) (B : Nat → Nat → Int32) (at0 : Nat) (T : Nat) (ne : Nat) (nd : Nat) (wr : Nat) (lk : Nat) (K : Nat → Int32), (at0 ≤ T) → (T ≤ 5000) → (K T = 0 ∨ K T = 3) → (ne ≤ 20) → (nd ≤ 2 * at0) → (wr ≤ at0) → (lk ≤ 60) → (tkRow (B 19) wr T) → (21 ≤ n + ne) → PM l G pX0 yX12_block cX12_block 4 (some .int) ({ frames := (26 * n + 42), cells := 0, slots := 0, locals := (2000 * n + 4200) }) [.ref h0] (mW G h0 a (upd (upd (upd (upd (upd (upd F 15 0) 27 (nI nd)) 31 (nI wr)) 64 (nI at0)) 65 (nI ne)) 66 (nI lk)) (updA B 2 K)) (fun (v : Option Value) (u : Nat × Nat × Int32 × Nat × Nat × Nat × Nat × (Nat → Nat → Int32)) => v = some (.int (nI u.2.2.2.2.2.2.1)) ∧ (at0 ≤ u.1) ∧ (u.1 ≤ T) ∧ (u.2.1 ≤ 100) ∧ (nd ≤ u.2.2.2.1) ∧ (u.2.2.2.1 + 2 * at0 ≤ nd + 2 * u.1 + 100000 * u.2.1) ∧ (u.2.2.2.1 + 2 * at0 ≤ nd + 2 * u.1 + (60 * (20 - ne) + 50)) ∧ (wr ≤ u.2.2.2.2.2.1) ∧ (u.2.2.2.2.2.1 + at0 ≤ wr + u.1) ∧ (lk ≤ u.2.2.2.2.1) ∧ (u.2.2.2.2.1 ≤ lk) ∧ (at0 + 1 ≤ u.1 + u.2.1) ∧ (u.2.2.2.2.2.2.1 ≤ u.2.2.2.1) ∧ (Kp B u.2.2.2.2.2.2.2 u.2.2.2.2.2.1 T) ∧ (If (u.2.1 = 0) (Low B u.2.2.2.2.2.2.2 nd wr ∧ Frs K T u.2.2.2.2.2.1 u.2.2.2.2.2.2.2 nd u.2.2.2.1 20000 [(u.2.2.2.2.2.2.1, (281 + 4 * (20 - ne)))] ∧ kcl 10 (u.2.2.2.2.2.2.2 9 u.2.2.2.2.2.2.1) = true))) (fun u => (mW G h0 a (upd (upd (upd (upd (upd (upd (upd F 15 (nI u.2.1)) 16 u.2.2.1) 27 (nI u.2.2.2.1)) 31 (nI u.2.2.2.2.2.1)) 64 (nI u.1)) 65 (nI ne)) 66 (nI u.2.2.2.2.1)) (updA u.2.2.2.2.2.2.2 2 K)))
def Pattempt (l : Launch) (G : pT) (n : Nat) : Prop := ∀ (h0 : Nat) (a : Nat → Nat) (F : Nat → Int32) (B : Nat → Nat → Int32) (at0 : Nat) (T : Nat) (ne : Nat) (nd : Nat) (wr : Nat) (lk : Nat) (K : Nat → Int32), (at0 ≤ T) → (T ≤ 5000) → (K T = 0 ∨ K T = 3) → (ne ≤ 20) → (nd ≤ 2 * at0) → (wr ≤ at0) → (lk ≤ 60) → (tkRow (B 19) wr T) → (21 ≤ n + ne) → (at0 + 1 ≤ T) → PM l G pX0 yX12_attempt cX12_attempt 7 (some .int) ({ frames := (26 * n + 43), cells := 0, slots := 0, locals := (2000 * n + 4300) }) [.ref h0] (mW G h0 a (upd (upd (upd (upd (upd (upd F 15 0) 27 (nI nd)) 31 (nI wr)) 64 (nI at0)) 65 (nI ne)) 66 (nI lk)) (updA B 2 K)) (fun (v : Option Value) (u : Nat × Nat × Int32 × Nat × Nat × Nat × Nat × (Nat → Nat → Int32)) => v = some (.int (nI u.2.2.2.2.2.2.1)) ∧ (at0 ≤ u.1) ∧ (u.1 ≤ T) ∧ (u.2.1 ≤ 100) ∧ (nd ≤ u.2.2.2.1) ∧ (u.2.2.2.1 + 2 * at0 ≤ nd + 2 * u.1 + 100000 * u.2.1) ∧ (u.2.2.2.1 + 2 * at0 ≤ nd + 2 * u.1 + (60 * (21 - ne) + 40)) ∧ (wr ≤ u.2.2.2.2.2.1) ∧ (u.2.2.2.2.2.1 + at0 ≤ wr + u.1) ∧ (lk ≤ u.2.2.2.2.1) ∧ (u.2.2.2.2.1 ≤ 60 + 100 * u.2.1) ∧ (at0 + 1 ≤ u.1 + u.2.1) ∧ (u.2.2.2.2.2.2.1 ≤ u.2.2.2.1) ∧ (Kp B u.2.2.2.2.2.2.2 u.2.2.2.2.2.1 T) ∧ (If (u.2.1 = 0) (Low B u.2.2.2.2.2.2.2 nd wr ∧ Frs K T u.2.2.2.2.2.1 u.2.2.2.2.2.2.2 nd u.2.2.2.1 20000 [(u.2.2.2.2.2.2.1, (280 + 4 * (21 - ne)))] ∧ kcl 3 (u.2.2.2.2.2.2.2 9 u.2.2.2.2.2.2.1) = true))) (fun u => (mW G h0 a (upd (upd (upd (upd (upd (upd (upd F 15 (nI u.2.1)) 16 u.2.2.1) 27 (nI u.2.2.2.1)) 31 (nI u.2.2.2.2.2.1)) 64 (nI u.1)) 65 (nI ne)) 66 (nI u.2.2.2.2.1)) (updA u.2.2.2.2.2.2.2 2 K)))
def Ploop (l : Launch) (G : pT) (n : Nat) : Prop := ∀ (h0 : Nat) (a : Nat → Nat) (F : Nat → Int32) (B : Nat → Nat → Int32) (at0 : Nat) (T : Nat) (ne : Nat) (nd : Nat) (wr : Nat) (lk : Nat) (K : Nat → Int32), (at0 ≤ T) → (T ≤ 5000) → (K T = 0 ∨ K T = 3) → (ne ≤ 20) → (nd ≤ 2 * at0) → (wr ≤ at0) → (lk ≤ 60) → (tkRow (B 19) wr T) → (21 ≤ n + ne) → (at0 + 1 ≤ T) → PM l G pX0 yX12_loop cX12_loop 5 (some .int) ({ frames := (26 * n + 43), cells := 0, slots := 0, locals := (2000 * n + 4300) }) [.ref h0] (mW G h0 a (upd (upd (upd (upd (upd (upd F 15 0) 27 (nI nd)) 31 (nI wr)) 64 (nI at0)) 65 (nI ne)) 66 (nI lk)) (updA B 2 K)) (fun (v : Option Value) (u : Nat × Nat × Int32 × Nat × Nat × Nat × Nat × (Nat → Nat → Int32)) => v = some (.int (nI u.2.2.2.2.2.2.1)) ∧ (at0 ≤ u.1) ∧ (u.1 ≤ T) ∧ (u.2.1 ≤ 100) ∧ (nd ≤ u.2.2.2.1) ∧ (u.2.2.2.1 + 2 * at0 ≤ nd + 2 * u.1 + 100000 * u.2.1) ∧ (u.2.2.2.1 + 2 * at0 ≤ nd + 2 * u.1 + (60 * (21 - ne) + 40)) ∧ (wr ≤ u.2.2.2.2.2.1) ∧ (u.2.2.2.2.2.1 + at0 ≤ wr + u.1) ∧ (lk ≤ u.2.2.2.2.1) ∧ (u.2.2.2.2.1 ≤ 60 + 100 * u.2.1) ∧ (at0 + 1 ≤ u.1 + u.2.1) ∧ (u.2.2.2.2.2.2.1 ≤ u.2.2.2.1) ∧ (Kp B u.2.2.2.2.2.2.2 u.2.2.2.2.2.1 T) ∧ (If (u.2.1 = 0) (Low B u.2.2.2.2.2.2.2 nd wr ∧ Frs K T u.2.2.2.2.2.1 u.2.2.2.2.2.2.2 nd u.2.2.2.1 20000 [(u.2.2.2.2.2.2.1, (280 + 4 * (21 - ne)))] ∧ kcl 3 (u.2.2.2.2.2.2.2 9 u.2.2.2.2.2.2.1) = true))) (fun u => (mW G h0 a (upd (upd (upd (upd (upd (upd (upd F 15 (nI u.2.1)) 16 u.2.2.1) 27 (nI u.2.2.2.1)) 31 (nI u.2.2.2.2.2.1)) 64 (nI u.1)) 65 (nI ne)) 66 (nI u.2.2.2.2.1)) (updA u.2.2.2.2.2.2.2 2 K)))
def PstatementOf (l : Launch) (G : pT) (n : Nat) : Prop := ∀ (h0 : Nat) (a : Nat → Nat) (F : Nat → Int32) (B : Nat → Nat → Int32) (at0 : Nat) (T : Nat) (ne : Nat) (nd : Nat) (wr : Nat) (lk : Nat) (K : Nat → Int32), (at0 ≤ T) → (T ≤ 5000) → (K T = 0 ∨ K T = 3) → (ne ≤ 20) → (nd ≤ 2 * at0) → (wr ≤ at0) → (lk ≤ 60) → (tkRow (B 19) wr T) → (21 ≤ n + ne) → PM l G pX0 yX12_statementOf cX12_statementOf 3 (some .int) ({ frames := (26 * n + 44), cells := 0, slots := 0, locals := (2000 * n + 4400) }) [.ref h0] (mW G h0 a (upd (upd (upd (upd (upd (upd F 15 0) 27 (nI nd)) 31 (nI wr)) 64 (nI at0)) 65 (nI ne)) 66 (nI lk)) (updA B 2 K)) (fun (v : Option Value) (u : Nat × Nat × Int32 × Nat × Nat × Nat × Nat × (Nat → Nat → Int32)) => v = some (.int (nI u.2.2.2.2.2.2.1)) ∧ (at0 ≤ u.1) ∧ (u.1 ≤ T) ∧ (u.2.1 ≤ 100) ∧ (nd ≤ u.2.2.2.1) ∧ (u.2.2.2.1 + 2 * at0 ≤ nd + 2 * u.1 + 100000 * u.2.1) ∧ (u.2.2.2.1 + 2 * at0 ≤ nd + 2 * u.1 + (60 * (21 - ne) + 40)) ∧ (wr ≤ u.2.2.2.2.2.1) ∧ (u.2.2.2.2.2.1 + at0 ≤ wr + u.1) ∧ (lk ≤ u.2.2.2.2.1) ∧ (u.2.2.2.2.1 ≤ 60 + 100 * u.2.1) ∧ (at0 + 1 ≤ u.1 + u.2.1) ∧ (u.2.2.2.2.2.2.1 ≤ u.2.2.2.1) ∧ (Kp B u.2.2.2.2.2.2.2 u.2.2.2.2.2.1 T) ∧ (If (u.2.1 = 0) (Low B u.2.2.2.2.2.2.2 nd wr ∧ Frs K T u.2.2.2.2.2.1 u.2.2.2.2.2.2.2 nd u.2.2.2.1 20000 [(u.2.2.2.2.2.2.1, (280 + 4 * (21 - ne)))] ∧ kcl 3 (u.2.2.2.2.2.2.2 9 u.2.2.2.2.2.2.1) = true))) (fun u => (mW G h0 a (upd (upd (upd (upd (upd (upd (upd F 15 (nI u.2.1)) 16 u.2.2.1) 27 (nI u.2.2.2.1)) 31 (nI u.2.2.2.2.2.1)) 64 (nI u.1)) 65 (nI ne)) 66 (nI u.2.2.2.2.1)) (updA u.2.2.2.2.2.2.2 2 K)))
theorem RE_all (l : Launch) (G : pT) : ∀ n : Nat, Pchoice l G n ∧ Pfront l G n ∧ Pchain l G n := by
  intro n
  induction n with
  | zero => exact ⟨fun h0 a F B at0 T ne nd wr lk K hat hT hK hne hnd hwr hlk hy hn => absurd hn (by omega), fun h0 a F B at0 T ne nd wr lk K hat hT hK hne hnd hwr hlk hy hn => absurd hn (by omega), fun h0 a F B at0 T ne nd wr lk K hat hT hK hne hnd hwr hlk hy hn => absurd hn (by omega)⟩
  | succ n ih =>
    have ihc : Pchoice l G (n + 1 - 1) := ih.1
    have ihf : Pfront l G (n + 1 - 1) := ih.2.1
    have ha : Parguments l G (n + 1) := fun h0 a F B at0 T ne nd wr lk K x lo zx zb k xa hat hT hK hne hnd hwr hlk hy hn hF hNd hkk hAn hb1 hb2 hlo => RT_arguments l G h0 a F B at0 T (n + 1) ne nd wr lk K x lo zx zb k xa hat hT hK hne hnd hwr hlk hy hn hF hNd hkk hAn hb1 hb2 hlo ihc
    have hw : PnewHere l G (n + 1) := fun h0 a F B at0 T ne nd wr lk K fi hat hT hK hne hnd hwr hlk hy hn hfi => RT_newHere l G h0 a F B at0 T (n + 1) ne nd wr lk K fi hat hT hK hne hnd hwr hlk hy hn hfi ihc
    have ho : Poperand l G (n + 1) := fun h0 a F B at0 T ne nd wr lk K hat hT hK hne hnd hwr hlk hy hn => RT_operand l G h0 a F B at0 T (n + 1) ne nd wr lk K hat hT hK hne hnd hwr hlk hy hn ihc ha hw
    have hc : Pchain l G (n + 1) := fun h0 a F B at0 T ne nd wr lk K hat hT hK hne hnd hwr hlk hy hn => RT_chain l G h0 a F B at0 T (n + 1) ne nd wr lk K hat hT hK hne hnd hwr hlk hy hn ihc ha ho
    have hf : Pfront l G (n + 1) := fun h0 a F B at0 T ne nd wr lk K hat hT hK hne hnd hwr hlk hy hn => RT_front l G h0 a F B at0 T (n + 1) ne nd wr lk K hat hT hK hne hnd hwr hlk hy hn ihf hc
    have hlev : ∀ d lv : Nat, lv + d = 10 → Plevel l G (n + 1) lv := by
      intro d
      induction d with
      | zero => intro lv e; exact fun h0 a F B at0 T ne nd wr lk K hat hT hK hne hnd hwr hlk hy hn hlv => RT_level l G h0 a F B at0 T (n + 1) ne nd wr lk K lv hat hT hK hne hnd hwr hlk hy hn hlv hf (fun z => absurd z (by omega))
      | succ d ih => intro lv e; exact fun h0 a F B at0 T ne nd wr lk K hat hT hK hne hnd hwr hlk hy hn hlv => RT_level l G h0 a F B at0 T (n + 1) ne nd wr lk K lv hat hT hK hne hnd hwr hlk hy hn hlv hf (fun z => ih (lv + 1) (by omega))
    exact ⟨fun h0 a F B at0 T ne nd wr lk K hat hT hK hne hnd hwr hlk hy hn => RT_choice l G h0 a F B at0 T (n + 1) ne nd wr lk K hat hT hK hne hnd hwr hlk hy hn ihc (hlev 10 0 rfl), hf, hc⟩
theorem dX12_statement_0 : decode cX12_statement 0 = .ok (.aload_n 0, 1) := by decide +kernel
theorem dX12_statement_1 : decode cX12_statement 1 = .ok (.getfield 350, 3) := by decide +kernel
theorem dX12_statement_4 : decode cX12_statement 4 = .ok (.ifCond .le 5, 3) := by decide +kernel
theorem dX12_statement_7 : decode cX12_statement 7 = .ok (.iconst 0, 1) := by decide +kernel
theorem dX12_statement_8 : decode cX12_statement 8 = .ok (.ireturn, 1) := by decide +kernel
set_option maxHeartbeats 2000000 in
set_option maxRecDepth 100000 in
/-- statement(), a fault known -/
theorem RF_statement (l : Launch) (G : pT) (h0 : Nat) (a : Nat → Nat) (F : Nat → Int32) (B : Nat → Nat → Int32) (at0 : Nat) (T : Nat) (fa : Nat) (K : Nat → Int32) (hat : at0 ≤ T) (hT : T ≤ 5000) (hK : K T = 0 ∨ K T = 3) (hfa : fa ≤ 100) (hfp : 0 < fa) : PM l G pX0 yX12_statement cX12_statement 3 (some .int) ({ frames := 2, cells := 0, slots := 0, locals := 60 }) [.ref h0] (mW G h0 a (upd (upd F 15 (nI fa)) 64 (nI at0)) (updA B 2 K)) (fun (v : Option Value) (u : Unit) => v = some (.int 0)) (fun u => (mW G h0 a (upd (upd F 15 (nI fa)) 64 (nI at0)) (updA B 2 K))) := by
  intro sz
  refine Met.ofW (cc := cX12_statement) (maxL := 3) (ret := (some .int)) (by decide) rfl ?_
  intro p e s m args below meth c s₁ B9 hml hv
  obtain ⟨rfl, hsz, hP, hD0, hE, hX⟩ := hv
  have hx := B9.exec
  have hb := B9.bytes
  have hr := B9.returns
  have hts := atoms_spec (ws := Cond.code yX12_statement cX12_statement 3 (some .int) :: pw) B9.pre
  have hq : ∀ w ∈ pw, w.before _ s = true := fun w h => hts w (List.mem_cons_of_mem _ h)
  have hown : s.vm.findClass RX12 = some m.cls := findClass_of_methodNamed B9.named
  have hlocks := B9.notSynchronized
  subst hsz
  have hD := hD0.self (sz := s.heap.size)
  have hA : ∀ q : Nat, s.heap.size ≤ q → va_A (mW G h0 a (upd (upd F 15 (nI fa)) 64 (nI at0)) (updA B 2 K)) s.heap.size q := fun q h => Or.inr h
  have hP : va_P G.1 pCl (mW G h0 a (upd (upd F 15 (nI fa)) 64 (nI at0)) (updA B 2 K)) s.heap := hP
  generalize va_A (mW G h0 a (upd (upd F 15 (nI fa)) 64 (nI at0)) (updA B 2 K)) s.heap.size = A at hD hE hA ⊢
  have hS : va_S A s.heap s.heap [] := va_S.rf
  have hl := lv_entry ([.ref h0]) (n := 3) (Nat.le_of_ble_eq_true rfl)
  rw [lg_entry_eq]
  generalize (lg_sl ([.ref h0]) ++ List.replicate (3 - (lg_sl ([.ref h0])).length) Slot.unset).toArray = ls at hl ⊢
  have hl : lv_has ls 3 [(0, .ref h0)] := hl
  refine lv_aload_n hx hb dX12_statement_0 rfl (lv_at hl 0 rfl) ?_
  refine r_get (v := .int (nI fa)) hx hb hown hq hE hP 15 350 tFX12_15 (by decide) pw_1594 rfl dX12_statement_1 ?_
  refine lv_if_le (tgt := 9) hx hb dX12_statement_4 (by decide) (fun c1 => (by have n2 : fa ≤ 0 := (nI_leI (a := fa) (b := 0) (by omega) (by omega)).mp c1; omega)) (fun c1 => ?_)
  refine lv_iconst (v := 0) hx hb dX12_statement_7 (by decide) ?_
  have hP : va_P G.1 pCl (mW G h0 a (upd (upd F 15 (nI fa)) 64 (nI at0)) (updA B 2 K)) _ := hP
  have hD : va_D A (mW G h0 a (upd (upd F 15 (nI fa)) 64 (nI at0)) (updA B 2 K)) := mW_D hD
  exact W.iret (v := 0) hx hb hr (fun t9 ht9 hW9 => ⟨⟨_, (), rfl, rfl, by rw [ht9]; exact hP, hD⟩, hS.F ht9⟩) hS.2.2 dX12_statement_8
theorem dX12_block_0 : decode cX12_block 0 = .ok (.aload_n 0, 1) := by decide +kernel
theorem dX12_block_1 : decode cX12_block 1 = .ok (.bipush 31, 2) := by decide +kernel
theorem dX12_block_3 : decode cX12_block 3 = .ok (.aload_n 0, 1) := by decide +kernel
theorem dX12_block_4 : decode cX12_block 4 = .ok (.getfield 343, 3) := by decide +kernel
theorem dX12_block_7 : decode cX12_block 7 = .ok (.aload_n 0, 1) := by decide +kernel
theorem dX12_block_8 : decode cX12_block 8 = .ok (.getfield 343, 3) := by decide +kernel
theorem dX12_block_11 : decode cX12_block 11 = .ok (.iconst (-1), 1) := by decide +kernel
theorem dX12_block_12 : decode cX12_block 12 = .ok (.iconst (-1), 1) := by decide +kernel
theorem dX12_block_13 : decode cX12_block 13 = .ok (.invokevirtual 428, 3) := by decide +kernel
theorem dX12_block_16 : decode cX12_block 16 = .ok (.istore_n 1, 1) := by decide +kernel
theorem dX12_block_17 : decode cX12_block 17 = .ok (.aload_n 0, 1) := by decide +kernel
theorem dX12_block_18 : decode cX12_block 18 = .ok (.bipush 123, 2) := by decide +kernel
theorem dX12_block_20 : decode cX12_block 20 = .ok (.invokevirtual 369, 3) := by decide +kernel
theorem dX12_block_23 : decode cX12_block 23 = .ok (.iconst (-1), 1) := by decide +kernel
theorem dX12_block_24 : decode cX12_block 24 = .ok (.istore_n 2, 1) := by decide +kernel
theorem dX12_block_25 : decode cX12_block 25 = .ok (.aload_n 0, 1) := by decide +kernel
theorem dX12_block_26 : decode cX12_block 26 = .ok (.getfield 350, 3) := by decide +kernel
theorem dX12_block_29 : decode cX12_block 29 = .ok (.ifCond .ne 44, 3) := by decide +kernel
theorem dX12_block_73 : decode cX12_block 73 = .ok (.aload_n 0, 1) := by decide +kernel
theorem dX12_block_74 : decode cX12_block 74 = .ok (.bipush 125, 2) := by decide +kernel
theorem dX12_block_76 : decode cX12_block 76 = .ok (.invokevirtual 369, 3) := by decide +kernel
theorem dX12_block_79 : decode cX12_block 79 = .ok (.iload_n 1, 1) := by decide +kernel
theorem dX12_block_80 : decode cX12_block 80 = .ok (.ireturn, 1) := by decide +kernel
set_option maxHeartbeats 2000000 in
set_option maxRecDepth 100000 in
/-- block(), a fault known -/
theorem RF_block (l : Launch) (G : pT) (h0 : Nat) (a : Nat → Nat) (F : Nat → Int32) (B : Nat → Nat → Int32) (at0 : Nat) (T : Nat) (fa : Nat) (nd : Nat) (wr : Nat) (K : Nat → Int32) (hat : at0 ≤ T) (hT : T ≤ 5000) (hK : K T = 0 ∨ K T = 3) (hfa : fa ≤ 100) (hfp : 0 < fa) (hnd : nd < 12000) (hwr : wr ≤ at0) (hy : tkRow (B 19) wr T) : PM l G pX0 yX12_block cX12_block 4 (some .int) ({ frames := 5, cells := 0, slots := 0, locals := 124 }) [.ref h0] (mW G h0 a (upd (upd (upd (upd F 15 (nI fa)) 27 (nI nd)) 31 (nI wr)) 64 (nI at0)) (updA B 2 K)) (fun (v : Option Value) (u : Int32 × Nat × (Nat → Nat → Int32)) => v = some (.int (nI nd)) ∧ (wr ≤ u.2.1) ∧ (u.2.1 ≤ wr) ∧ (Kp B u.2.2 u.2.1 T)) (fun u => (mW G h0 a (upd (upd (upd (upd (upd F 15 (nI fa)) 16 u.1) 27 (nI (nd + 1))) 31 (nI u.2.1)) 64 (nI at0)) (updA u.2.2 2 K))) := by
  intro sz
  refine Met.ofW (cc := cX12_block) (maxL := 4) (ret := (some .int)) (by decide) rfl ?_
  intro p e s m args below meth c s₁ B9 hml hv
  obtain ⟨rfl, hsz, hP, hD0, hE, hX⟩ := hv
  have hx := B9.exec
  have hb := B9.bytes
  have hr := B9.returns
  have hts := atoms_spec (ws := Cond.code yX12_block cX12_block 4 (some .int) :: pw) B9.pre
  have hq : ∀ w ∈ pw, w.before _ s = true := fun w h => hts w (List.mem_cons_of_mem _ h)
  have hown : s.vm.findClass RX12 = some m.cls := findClass_of_methodNamed B9.named
  have hlocks := B9.notSynchronized
  subst hsz
  have hD := hD0.self (sz := s.heap.size)
  have hA : ∀ q : Nat, s.heap.size ≤ q → va_A (mW G h0 a (upd (upd (upd (upd F 15 (nI fa)) 27 (nI nd)) 31 (nI wr)) 64 (nI at0)) (updA B 2 K)) s.heap.size q := fun q h => Or.inr h
  have hP : va_P G.1 pCl (mW G h0 a (upd (upd (upd (upd F 15 (nI fa)) 27 (nI nd)) 31 (nI wr)) 64 (nI at0)) (updA B 2 K)) s.heap := hP
  generalize va_A (mW G h0 a (upd (upd (upd (upd F 15 (nI fa)) 27 (nI nd)) 31 (nI wr)) 64 (nI at0)) (updA B 2 K)) s.heap.size = A at hD hE hA ⊢
  have hS : va_S A s.heap s.heap [] := va_S.rf
  have hl := lv_entry ([.ref h0]) (n := 4) (Nat.le_of_ble_eq_true rfl)
  rw [lg_entry_eq]
  generalize (lg_sl ([.ref h0]) ++ List.replicate (4 - (lg_sl ([.ref h0])).length) Slot.unset).toArray = ls at hl ⊢
  have hl : lv_has ls 4 [(0, .ref h0)] := hl
  have hkp1 : Kp B B wr T := Kp.rfl hy
  refine lv_aload_n hx hb dX12_block_0 rfl (lv_at hl 0 rfl) ?_
  refine lv_bipush (v := 31) hx hb dX12_block_1 (by decide) ?_
  refine lv_aload_n hx hb dX12_block_3 rfl (lv_at hl 0 rfl) ?_
  refine r_get (v := .int (nI at0)) hx hb hown hq hE hP 64 343 tFX12_64 (by decide) pw_1592 rfl dX12_block_4 ?_
  refine lv_aload_n hx hb dX12_block_7 rfl (lv_at hl 0 rfl) ?_
  refine r_get (v := .int (nI at0)) hx hb hown hq hE hP 64 343 tFX12_64 (by decide) pw_1592 rfl dX12_block_8 ?_
  refine lv_iconst (v := (-1)) hx hb dX12_block_11 (by decide) ?_
  refine lv_iconst (v := (-1)) hx hb dX12_block_12 (by decide) ?_
  have hP : va_P G.1 pCl (mW G h0 a (upd (upd (upd (upd (upd F 15 (nI fa)) 27 (nI nd)) 31 (nI wr)) 64 (nI at0)) 27 (nI nd)) (updA B 2 K)) _ := mW_to (F := F) (l1 := [(15, (nI fa)), (27, (nI nd)), (31, (nI wr)), (64, (nI at0))]) (l2 := [(15, (nI fa)), (27, (nI nd)), (31, (nI wr)), (64, (nI at0)), (27, (nI nd))]) (V := [(nI fa), (nI nd), (nI wr), (nI at0), (nI fa), (nI nd), (nI wr), (nI at0), (nI nd)]) rfl rfl rfl hP
  have hD : va_D A (mW G h0 a (upd (upd (upd (upd (upd F 15 (nI fa)) 27 (nI nd)) 31 (nI wr)) 64 (nI at0)) 27 (nI nd)) (updA B 2 K)) := mW_D hD
  refine pc_V0 (G := G) (As := [.int 31, .int (nI at0), .int (nI at0), .int (-1), .int (-1)]) (rest := []) hx hb hml hown hq hE hX pX0_al hP hD hS hA hl.1 (R_nodeB l G h0 a (upd (upd (upd (upd F 15 (nI fa)) 27 (nI nd)) 31 (nI wr)) 64 (nI at0)) B 31 (nI at0) (nI at0) (-1) (-1) nd K (by omega)) (gV pw_1650 pw_1651 pw_1652 pw_1523 pw_1589) hV_X12_node 0 9 rfl rfl rfl rfl (Nat.le_of_ble_eq_true rfl) dX12_block_13 ⟨Nat.le_of_ble_eq_true rfl, Nat.le_of_ble_eq_true rfl⟩ ⟨Nat.le_of_ble_eq_true rfl, Nat.le_of_ble_eq_true rfl⟩ (fun v4 u2 H locs hw3 hP hD hS => ?_)
  obtain ⟨X5, rfl⟩ : ∃ z, z = u2 := ⟨_, rfl⟩
  obtain ⟨hw3, h6⟩ := hw3
  have h6 : NewN B X5 nd 31 (nI at0) (nI at0) (-1) (-1) := h6
  obtain rfl : v4 = some (.int (nI nd)) := hw3
  have hP : va_P G.1 pCl (mW G h0 a (upd (upd (upd (upd F 15 (nI fa)) 27 (nI (nd + 1))) 31 (nI wr)) 64 (nI at0)) (updA X5 2 K)) _ := mW_to (F := F) (l1 := [(15, (nI fa)), (27, (nI nd)), (31, (nI wr)), (64, (nI at0)), (27, (nI (nd + 1)))]) (l2 := [(15, (nI fa)), (27, (nI (nd + 1))), (31, (nI wr)), (64, (nI at0))]) (V := [(nI fa), (nI (nd + 1)), (nI wr), (nI at0), (nI (nd + 1)), (nI fa), (nI (nd + 1)), (nI wr), (nI at0)]) rfl rfl rfl hP
  have hD : va_D A (mW G h0 a (upd (upd (upd (upd F 15 (nI fa)) 27 (nI (nd + 1))) 31 (nI wr)) 64 (nI at0)) (updA X5 2 K)) := mW_D hD
  refine W.widen (k := 0) (n := 0) (Nat.le_of_ble_eq_true rfl) (Nat.le_of_ble_eq_true rfl) ?_
  refine W.eq (g2 := F0 m 16 ls [.int (nI nd)]) rfl ?_
  have hkp7 : Kp B X5 wr T := (Kp.new hkp1 h6)
  refine lv_istore_n (lv' := [(1, .int (nI nd)), (0, .ref h0)]) hx hb dX12_block_16 rfl hl (by decide) rfl (fun ls hl => ?_)
  refine lv_aload_n hx hb dX12_block_17 rfl (lv_at hl 1 rfl) ?_
  refine lv_bipush (v := 123) hx hb dX12_block_18 (by decide) ?_
  have hP : va_P G.1 pCl (mW G h0 a (upd (upd (upd (upd (upd (upd F 15 (nI fa)) 27 (nI (nd + 1))) 31 (nI wr)) 64 (nI at0)) 15 (nI fa)) 64 (nI at0)) (updA (updA X5 2 K) 2 K)) _ := mW_to (F := F) (l1 := [(15, (nI fa)), (27, (nI (nd + 1))), (31, (nI wr)), (64, (nI at0))]) (l2 := [(15, (nI fa)), (27, (nI (nd + 1))), (31, (nI wr)), (64, (nI at0)), (15, (nI fa)), (64, (nI at0))]) (V := [(nI fa), (nI (nd + 1)), (nI wr), (nI at0), (nI fa), (nI (nd + 1)), (nI wr), (nI at0), (nI fa), (nI at0)]) rfl rfl (show (updA X5 2 K) = (updA (updA X5 2 K) 2 K) from updsA_eq2 (F := X5) (l1 := [(2, K)]) (l2 := [(2, K), (2, K)]) (V := [K, K, K]) rfl rfl) hP
  have hD : va_D A (mW G h0 a (upd (upd (upd (upd (upd (upd F 15 (nI fa)) 27 (nI (nd + 1))) 31 (nI wr)) 64 (nI at0)) 15 (nI fa)) 64 (nI at0)) (updA (updA X5 2 K) 2 K)) := mW_D hD
  refine pc_V0 (G := G) (As := [.int 123]) (rest := []) hx hb hml hown hq hE hX pX0_al hP hD hS hA hl.1 (R_take l G h0 a (upd (upd (upd (upd F 15 (nI fa)) 27 (nI (nd + 1))) 31 (nI wr)) 64 (nI at0)) (updA X5 2 K) at0 T fa K 123 (by omega) (by omega) hK (by omega) (by decide) (by decide)) (gV pw_1614 pw_1615 pw_1616 pw_1523 pw_1601) hV_X12_take 0 9 rfl rfl rfl rfl (Nat.le_of_ble_eq_true rfl) dX12_block_20 ⟨Nat.le_of_ble_eq_true rfl, Nat.le_of_ble_eq_true rfl⟩ ⟨Nat.le_of_ble_eq_true rfl, Nat.le_of_ble_eq_true rfl⟩ (fun v10 u8 H locs hw9 hP hD hS => ?_)
  obtain ⟨at11, fa12, pl13⟩ := u8
  obtain ⟨hw9, h14, h15, h16, h17, h18, h19, h20, h21⟩ := hw9
  have h14 : at0 ≤ at11 := h14
  have h15 : at11 ≤ T := h15
  have h16 : fa ≤ fa12 := h16
  have h17 : fa12 ≤ 100 := h17
  have h18 : If (0 < fa) (at11 = at0 ∧ fa12 = fa) := h18
  have h19 : at11 ≤ at0 + 1 := h19
  have h20 : at0 + 1 ≤ at11 + fa12 := h20
  have h21 : If (fa12 = 0) (K at0 = 123) := h21
  obtain rfl : v10 = none := hw9
  have hP : va_P G.1 pCl (mW G h0 a (upd (upd (upd (upd (upd F 15 (nI fa12)) 16 pl13) 27 (nI (nd + 1))) 31 (nI wr)) 64 (nI at11)) (updA X5 2 K)) _ := mW_to (F := F) (l1 := [(15, (nI fa)), (27, (nI (nd + 1))), (31, (nI wr)), (64, (nI at0)), (15, (nI fa12)), (16, pl13), (64, (nI at11))]) (l2 := [(15, (nI fa12)), (16, pl13), (27, (nI (nd + 1))), (31, (nI wr)), (64, (nI at11))]) (V := [(nI fa12), (nI (nd + 1)), (nI wr), (nI at11), (nI fa12), pl13, (nI at11), (nI fa12), pl13, (nI (nd + 1)), (nI wr), (nI at11)]) rfl rfl (show (updA (updA X5 2 K) 2 K) = (updA X5 2 K) from updsA_eq2 (F := X5) (l1 := [(2, K), (2, K)]) (l2 := [(2, K)]) (V := [K, K, K]) rfl rfl) hP
  have hD : va_D A (mW G h0 a (upd (upd (upd (upd (upd F 15 (nI fa12)) 16 pl13) 27 (nI (nd + 1))) 31 (nI wr)) 64 (nI at11)) (updA X5 2 K)) := mW_D hD
  refine W.widen (k := 0) (n := 0) (Nat.le_of_ble_eq_true rfl) (Nat.le_of_ble_eq_true rfl) ?_
  refine W.eq (g2 := F0 m 23 ls []) rfl ?_
  obtain ⟨n23, n22⟩ := h18 hfp
  replace n23 := n23.symm
  subst n23
  replace n22 := n22.symm
  subst n22
  refine lv_iconst (v := (-1)) hx hb dX12_block_23 (by decide) ?_
  refine lv_istore_n (lv' := [(2, .int (-1)), (1, .int (nI nd)), (0, .ref h0)]) hx hb dX12_block_24 rfl hl (by decide) rfl (fun ls hl => ?_)
  refine lv_aload_n hx hb dX12_block_25 rfl (lv_at hl 2 rfl) ?_
  refine r_get (v := .int (nI fa)) hx hb hown hq hE hP 15 350 tFX12_15 (by decide) pw_1594 rfl dX12_block_26 ?_
  refine lv_if_ne (tgt := 73) hx hb dX12_block_29 (by decide) (fun c24 => ?_) (fun c24 => (by have n25 : fa = 0 := (nI_eq (a := fa) (b := 0) (by omega) (by omega)).mp c24; omega))
  refine lv_aload_n hx hb dX12_block_73 rfl (lv_at hl 2 rfl) ?_
  refine lv_bipush (v := 125) hx hb dX12_block_74 (by decide) ?_
  have hP : va_P G.1 pCl (mW G h0 a (upd (upd (upd (upd (upd (upd (upd F 15 (nI fa)) 16 pl13) 27 (nI (nd + 1))) 31 (nI wr)) 64 (nI at0)) 15 (nI fa)) 64 (nI at0)) (updA (updA X5 2 K) 2 K)) _ := hP
  have hD : va_D A (mW G h0 a (upd (upd (upd (upd (upd (upd (upd F 15 (nI fa)) 16 pl13) 27 (nI (nd + 1))) 31 (nI wr)) 64 (nI at0)) 15 (nI fa)) 64 (nI at0)) (updA (updA X5 2 K) 2 K)) := mW_D hD
  refine pc_V0 (G := G) (As := [.int 125]) (rest := []) hx hb hml hown hq hE hX pX0_al hP hD hS hA hl.1 (R_take l G h0 a (upd (upd (upd (upd (upd F 15 (nI fa)) 16 pl13) 27 (nI (nd + 1))) 31 (nI wr)) 64 (nI at0)) (updA X5 2 K) at0 T fa K 125 (by omega) (by omega) hK (by omega) (by decide) (by decide)) (gV pw_1614 pw_1615 pw_1616 pw_1523 pw_1601) hV_X12_take 0 9 rfl rfl rfl rfl (Nat.le_of_ble_eq_true rfl) dX12_block_76 ⟨Nat.le_of_ble_eq_true rfl, Nat.le_of_ble_eq_true rfl⟩ ⟨Nat.le_of_ble_eq_true rfl, Nat.le_of_ble_eq_true rfl⟩ (fun v28 u26 H locs hw27 hP hD hS => ?_)
  obtain ⟨at29, fa30, pl31⟩ := u26
  obtain ⟨hw27, h32, h33, h34, h35, h36, h37, h38, h39⟩ := hw27
  have h32 : at0 ≤ at29 := h32
  have h33 : at29 ≤ T := h33
  have h34 : fa ≤ fa30 := h34
  have h35 : fa30 ≤ 100 := h35
  have h36 : If (0 < fa) (at29 = at0 ∧ fa30 = fa) := h36
  have h37 : at29 ≤ at0 + 1 := h37
  have h38 : at0 + 1 ≤ at29 + fa30 := h38
  have h39 : If (fa30 = 0) (K at0 = 125) := h39
  obtain rfl : v28 = none := hw27
  have hP : va_P G.1 pCl (mW G h0 a (upd (upd (upd (upd (upd F 15 (nI fa30)) 16 pl31) 27 (nI (nd + 1))) 31 (nI wr)) 64 (nI at29)) (updA X5 2 K)) _ := mW_to (F := F) (l1 := [(15, (nI fa)), (16, pl13), (27, (nI (nd + 1))), (31, (nI wr)), (64, (nI at0)), (15, (nI fa30)), (16, pl31), (64, (nI at29))]) (l2 := [(15, (nI fa30)), (16, pl31), (27, (nI (nd + 1))), (31, (nI wr)), (64, (nI at29))]) (V := [(nI fa30), pl31, (nI (nd + 1)), (nI wr), (nI at29), (nI fa30), pl31, (nI at29), (nI fa30), pl31, (nI (nd + 1)), (nI wr), (nI at29)]) rfl rfl (show (updA (updA X5 2 K) 2 K) = (updA X5 2 K) from updsA_eq2 (F := X5) (l1 := [(2, K), (2, K)]) (l2 := [(2, K)]) (V := [K, K, K]) rfl rfl) hP
  have hD : va_D A (mW G h0 a (upd (upd (upd (upd (upd F 15 (nI fa30)) 16 pl31) 27 (nI (nd + 1))) 31 (nI wr)) 64 (nI at29)) (updA X5 2 K)) := mW_D hD
  refine W.widen (k := 0) (n := 0) (Nat.le_of_ble_eq_true rfl) (Nat.le_of_ble_eq_true rfl) ?_
  refine W.eq (g2 := F0 m 79 ls []) rfl ?_
  obtain ⟨n41, n40⟩ := h36 hfp
  replace n41 := n41.symm
  subst n41
  replace n40 := n40.symm
  subst n40
  refine lv_iload_n hx hb dX12_block_79 rfl (lv_at hl 1 rfl) ?_
  have hz42 : wr ≤ wr := (by omega)
  have hz43 : wr ≤ wr := (by omega)
  have hz44 : Kp B X5 wr T := hkp7
  have hP : va_P G.1 pCl (mW G h0 a (upd (upd (upd (upd (upd F 15 (nI fa)) 16 pl31) 27 (nI (nd + 1))) 31 (nI wr)) 64 (nI at0)) (updA X5 2 K)) _ := hP
  have hD : va_D A (mW G h0 a (upd (upd (upd (upd (upd F 15 (nI fa)) 16 pl31) 27 (nI (nd + 1))) 31 (nI wr)) 64 (nI at0)) (updA X5 2 K)) := mW_D hD
  exact W.iret (v := (nI nd)) hx hb hr (fun t9 ht9 hW9 => ⟨⟨_, (pl31, wr, X5), rfl, ⟨rfl, hz42, hz43, hz44⟩, by rw [ht9]; exact hP, hD⟩, hS.F ht9⟩) hS.2.2 dX12_block_80
theorem dX12_local_0 : decode cX12_local 0 = .ok (.aload_n 0, 1) := by decide +kernel
theorem dX12_local_1 : decode cX12_local 1 = .ok (.invokevirtual 406, 3) := by decide +kernel
theorem dX12_local_4 : decode cX12_local 4 = .ok (.istore_n 2, 1) := by decide +kernel
theorem dX12_local_5 : decode cX12_local 5 = .ok (.aload_n 0, 1) := by decide +kernel
theorem dX12_local_6 : decode cX12_local 6 = .ok (.invokevirtual 375, 3) := by decide +kernel
theorem dX12_local_9 : decode cX12_local 9 = .ok (.istore_n 3, 1) := by decide +kernel
theorem dX12_local_10 : decode cX12_local 10 = .ok (.aload_n 0, 1) := by decide +kernel
theorem dX12_local_11 : decode cX12_local 11 = .ok (.bipush 30, 2) := by decide +kernel
theorem dX12_local_13 : decode cX12_local 13 = .ok (.iload_n 1, 1) := by decide +kernel
theorem dX12_local_14 : decode cX12_local 14 = .ok (.iload_n 3, 1) := by decide +kernel
theorem dX12_local_15 : decode cX12_local 15 = .ok (.iload_n 2, 1) := by decide +kernel
theorem dX12_local_16 : decode cX12_local 16 = .ok (.iconst (-1), 1) := by decide +kernel
theorem dX12_local_17 : decode cX12_local 17 = .ok (.invokevirtual 428, 3) := by decide +kernel
theorem dX12_local_20 : decode cX12_local 20 = .ok (.istore 4, 2) := by decide +kernel
theorem dX12_local_22 : decode cX12_local 22 = .ok (.aload_n 0, 1) := by decide +kernel
theorem dX12_local_23 : decode cX12_local 23 = .ok (.bipush 61, 2) := by decide +kernel
theorem dX12_local_25 : decode cX12_local 25 = .ok (.invokevirtual 378, 3) := by decide +kernel
theorem dX12_local_28 : decode cX12_local 28 = .ok (.ifCond .eq 14, 3) := by decide +kernel
theorem dX12_local_42 : decode cX12_local 42 = .ok (.iload 4, 2) := by decide +kernel
theorem dX12_local_44 : decode cX12_local 44 = .ok (.ireturn, 1) := by decide +kernel
set_option maxHeartbeats 2000000 in
set_option maxRecDepth 100000 in
/-- local(first), a fault known -/
theorem RF_local (l : Launch) (G : pT) (h0 : Nat) (a : Nat → Nat) (F : Nat → Int32) (B : Nat → Nat → Int32) (at0 : Nat) (T : Nat) (fa : Nat) (nd : Nat) (wr : Nat) (K : Nat → Int32) (fi : Nat) (hat : at0 ≤ T) (hT : T ≤ 5000) (hK : K T = 0 ∨ K T = 3) (hfa : fa ≤ 100) (hfp : 0 < fa) (hnd : nd < 12000) (hwr : wr ≤ at0) (hy : tkRow (B 19) wr T) : PM l G pX0 yX12_local cX12_local 5 (some .int) ({ frames := 6, cells := 0, slots := 0, locals := 145 }) [.ref h0, .int (nI fi)] (mW G h0 a (upd (upd (upd (upd F 15 (nI fa)) 27 (nI nd)) 31 (nI wr)) 64 (nI at0)) (updA B 2 K)) (fun (v : Option Value) (u : Int32 × Nat × (Nat → Nat → Int32)) => v = some (.int (nI nd)) ∧ (wr ≤ u.2.1) ∧ (u.2.1 ≤ wr) ∧ (Kp B u.2.2 u.2.1 T)) (fun u => (mW G h0 a (upd (upd (upd (upd (upd F 15 (nI fa)) 16 u.1) 27 (nI (nd + 1))) 31 (nI u.2.1)) 64 (nI at0)) (updA u.2.2 2 K))) := by
  intro sz
  refine Met.ofW (cc := cX12_local) (maxL := 5) (ret := (some .int)) (by decide) rfl ?_
  intro p e s m args below meth c s₁ B9 hml hv
  obtain ⟨rfl, hsz, hP, hD0, hE, hX⟩ := hv
  have hx := B9.exec
  have hb := B9.bytes
  have hr := B9.returns
  have hts := atoms_spec (ws := Cond.code yX12_local cX12_local 5 (some .int) :: pw) B9.pre
  have hq : ∀ w ∈ pw, w.before _ s = true := fun w h => hts w (List.mem_cons_of_mem _ h)
  have hown : s.vm.findClass RX12 = some m.cls := findClass_of_methodNamed B9.named
  have hlocks := B9.notSynchronized
  subst hsz
  have hD := hD0.self (sz := s.heap.size)
  have hA : ∀ q : Nat, s.heap.size ≤ q → va_A (mW G h0 a (upd (upd (upd (upd F 15 (nI fa)) 27 (nI nd)) 31 (nI wr)) 64 (nI at0)) (updA B 2 K)) s.heap.size q := fun q h => Or.inr h
  have hP : va_P G.1 pCl (mW G h0 a (upd (upd (upd (upd F 15 (nI fa)) 27 (nI nd)) 31 (nI wr)) 64 (nI at0)) (updA B 2 K)) s.heap := hP
  generalize va_A (mW G h0 a (upd (upd (upd (upd F 15 (nI fa)) 27 (nI nd)) 31 (nI wr)) 64 (nI at0)) (updA B 2 K)) s.heap.size = A at hD hE hA ⊢
  have hS : va_S A s.heap s.heap [] := va_S.rf
  have hl := lv_entry ([.ref h0, .int (nI fi)]) (n := 5) (Nat.le_of_ble_eq_true rfl)
  rw [lg_entry_eq]
  generalize (lg_sl ([.ref h0, .int (nI fi)]) ++ List.replicate (5 - (lg_sl ([.ref h0, .int (nI fi)])).length) Slot.unset).toArray = ls at hl ⊢
  have hl : lv_has ls 5 [(0, .ref h0), (1, .int (nI fi))] := hl
  have hkp1 : Kp B B wr T := Kp.rfl hy
  refine lv_aload_n hx hb dX12_local_0 rfl (lv_at hl 0 rfl) ?_
  have hP : va_P G.1 pCl (mW G h0 a (upd (upd (upd (upd (upd (upd (upd F 15 (nI fa)) 27 (nI nd)) 31 (nI wr)) 64 (nI at0)) 15 (nI fa)) 31 (nI wr)) 64 (nI at0)) (updA (updA (updA B 2 K) 2 K) 19 (B 19))) _ := mW_to (F := F) (l1 := [(15, (nI fa)), (27, (nI nd)), (31, (nI wr)), (64, (nI at0))]) (l2 := [(15, (nI fa)), (27, (nI nd)), (31, (nI wr)), (64, (nI at0)), (15, (nI fa)), (31, (nI wr)), (64, (nI at0))]) (V := [(nI fa), (nI nd), (nI wr), (nI at0), (nI fa), (nI nd), (nI wr), (nI at0), (nI fa), (nI wr), (nI at0)]) rfl rfl (show (updA B 2 K) = (updA (updA (updA B 2 K) 2 K) 19 (B 19)) from updsA_eq2 (F := B) (l1 := [(2, K)]) (l2 := [(2, K), (2, K), (19, (B 19))]) (V := [K, K, K, (B 19)]) rfl rfl) hP
  have hD : va_D A (mW G h0 a (upd (upd (upd (upd (upd (upd (upd F 15 (nI fa)) 27 (nI nd)) 31 (nI wr)) 64 (nI at0)) 15 (nI fa)) 31 (nI wr)) 64 (nI at0)) (updA (updA (updA B 2 K) 2 K) 19 (B 19))) := mW_D hD
  refine pc_V0 (G := G) (As := []) (rest := []) hx hb hml hown hq hE hX pX0_al hP hD hS hA hl.1 (R_typeHere l G h0 a (upd (upd (upd (upd F 15 (nI fa)) 27 (nI nd)) 31 (nI wr)) 64 (nI at0)) (updA B 2 K) at0 T fa K wr (B 19) (by omega) (by omega) hK (by omega) (by omega) (hkp1).2) (gV pw_1670 pw_1671 pw_1672 pw_1523 pw_1633) hV_X12_typeHere 0 9 rfl rfl rfl rfl (Nat.le_of_ble_eq_true rfl) dX12_local_1 ⟨Nat.le_of_ble_eq_true rfl, Nat.le_of_ble_eq_true rfl⟩ ⟨Nat.le_of_ble_eq_true rfl, Nat.le_of_ble_eq_true rfl⟩ (fun v4 u2 H locs hw3 hP hD hS => ?_)
  obtain ⟨at5, fa6, pl7, wr8, r9, yt10, yr11⟩ := u2
  obtain ⟨hw3, h12, h13, h14, h15, h16, h17, h18, h19, h20, h21, h22, h23, h24, h25⟩ := hw3
  have h12 : at0 ≤ at5 := h12
  have h13 : at5 ≤ T := h13
  have h14 : fa ≤ fa6 := h14
  have h15 : fa6 ≤ 100 := h15
  have h16 : If (0 < fa) (at5 = at0 ∧ fa6 = fa) := h16
  have h17 : wr ≤ wr8 := h17
  have h18 : wr8 + at0 ≤ wr + at5 := h18
  have h19 : If (0 < fa) (wr8 = wr) := h19
  have h20 : r9 + 1 ≤ wr8 + 6000 * fa6 := h20
  have h21 : at0 + 1 ≤ at5 + fa6 := h21
  have h22 : tkRow yt10 wr8 T := h22
  have h23 : ∀ i : Nat, i < wr → yt10 i = (B 19) i := h23
  have h24 : ∀ i : Nat, i < wr → yr11 i = (B 20) i := h24
  have h25 : r9 ≤ wr := h25
  obtain rfl : v4 = some (.int (nI r9)) := hw3
  have hP : va_P G.1 pCl (mW G h0 a (upd (upd (upd (upd (upd F 15 (nI fa6)) 16 pl7) 27 (nI nd)) 31 (nI wr8)) 64 (nI at5)) (updA (updA (updA B 2 K) 19 yt10) 20 yr11)) _ := mW_to (F := F) (l1 := [(15, (nI fa)), (27, (nI nd)), (31, (nI wr)), (64, (nI at0)), (15, (nI fa6)), (16, pl7), (31, (nI wr8)), (64, (nI at5))]) (l2 := [(15, (nI fa6)), (16, pl7), (27, (nI nd)), (31, (nI wr8)), (64, (nI at5))]) (V := [(nI fa6), (nI nd), (nI wr8), (nI at5), (nI fa6), pl7, (nI wr8), (nI at5), (nI fa6), pl7, (nI nd), (nI wr8), (nI at5)]) rfl rfl (show (updA (updA (updA (updA B 2 K) 2 K) 19 yt10) 20 yr11) = (updA (updA (updA B 2 K) 19 yt10) 20 yr11) from updsA_eq2 (F := B) (l1 := [(2, K), (2, K), (19, yt10), (20, yr11)]) (l2 := [(2, K), (19, yt10), (20, yr11)]) (V := [K, K, yt10, yr11, K, yt10, yr11]) rfl rfl) hP
  have hD : va_D A (mW G h0 a (upd (upd (upd (upd (upd F 15 (nI fa6)) 16 pl7) 27 (nI nd)) 31 (nI wr8)) 64 (nI at5)) (updA (updA (updA B 2 K) 19 yt10) 20 yr11)) := mW_D hD
  refine W.widen (k := 0) (n := 0) (Nat.le_of_ble_eq_true rfl) (Nat.le_of_ble_eq_true rfl) ?_
  refine W.eq (g2 := F0 m 4 ls [.int (nI r9)]) rfl ?_
  have hP : va_P G.1 pCl (mW G h0 a (upd (upd (upd (upd (upd F 15 (nI fa6)) 16 pl7) 27 (nI nd)) 31 (nI wr8)) 64 (nI at5)) (updA (updA (updA B 19 yt10) 20 yr11) 2 K)) _ := mW_to (F := F) (l1 := [(15, (nI fa6)), (16, pl7), (27, (nI nd)), (31, (nI wr8)), (64, (nI at5))]) (l2 := [(15, (nI fa6)), (16, pl7), (27, (nI nd)), (31, (nI wr8)), (64, (nI at5))]) (V := [(nI fa6), pl7, (nI nd), (nI wr8), (nI at5), (nI fa6), pl7, (nI nd), (nI wr8), (nI at5)]) rfl rfl (show (updA (updA (updA B 2 K) 19 yt10) 20 yr11) = (updA (updA (updA B 19 yt10) 20 yr11) 2 K) from updsA_eq2 (F := B) (l1 := [(2, K), (19, yt10), (20, yr11)]) (l2 := [(19, yt10), (20, yr11), (2, K)]) (V := [K, yt10, yr11, yt10, yr11, K]) rfl rfl) hP
  have hD : va_D A (mW G h0 a (upd (upd (upd (upd (upd F 15 (nI fa6)) 16 pl7) 27 (nI nd)) 31 (nI wr8)) 64 (nI at5)) (updA (updA (updA B 19 yt10) 20 yr11) 2 K)) := mW_D hD
  have hkp26 : Kp B (updA (updA B 19 yt10) 20 yr11) wr8 T := (Kp.y hkp1 h22)
  obtain ⟨n28, n27⟩ := h16 hfp
  replace n28 := n28.symm
  subst n28
  replace n27 := n27.symm
  subst n27
  refine lv_istore_n (lv' := [(2, .int (nI r9)), (0, .ref h0), (1, .int (nI fi))]) hx hb dX12_local_4 rfl hl (by decide) rfl (fun ls hl => ?_)
  refine lv_aload_n hx hb dX12_local_5 rfl (lv_at hl 1 rfl) ?_
  have hP : va_P G.1 pCl (mW G h0 a (upd (upd (upd (upd (upd (upd (upd F 15 (nI fa)) 16 pl7) 27 (nI nd)) 31 (nI wr8)) 64 (nI at0)) 15 (nI fa)) 64 (nI at0)) (updA (updA (updA (updA B 19 yt10) 20 yr11) 2 K) 2 K)) _ := hP
  have hD : va_D A (mW G h0 a (upd (upd (upd (upd (upd (upd (upd F 15 (nI fa)) 16 pl7) 27 (nI nd)) 31 (nI wr8)) 64 (nI at0)) 15 (nI fa)) 64 (nI at0)) (updA (updA (updA (updA B 19 yt10) 20 yr11) 2 K) 2 K)) := mW_D hD
  refine pc_V0 (G := G) (As := []) (rest := []) hx hb hml hown hq hE hX pX0_al hP hD hS hA hl.1 (R_name l G h0 a (upd (upd (upd (upd (upd F 15 (nI fa)) 16 pl7) 27 (nI nd)) 31 (nI wr8)) 64 (nI at0)) (updA (updA (updA B 19 yt10) 20 yr11) 2 K) at0 T fa K (by omega) (by omega) hK (by omega)) (gV pw_1618 pw_1619 pw_1620 pw_1523 pw_1613) hV_X12_name 0 9 rfl rfl rfl rfl (Nat.le_of_ble_eq_true rfl) dX12_local_6 ⟨Nat.le_of_ble_eq_true rfl, Nat.le_of_ble_eq_true rfl⟩ ⟨Nat.le_of_ble_eq_true rfl, Nat.le_of_ble_eq_true rfl⟩ (fun v31 u29 H locs hw30 hP hD hS => ?_)
  obtain ⟨at32, fa33, pl34⟩ := u29
  obtain ⟨hw30, h35, h36, h37, h38, h39, h40, h41, h42⟩ := hw30
  have h35 : at0 ≤ at32 := h35
  have h36 : at32 ≤ T := h36
  have h37 : fa ≤ fa33 := h37
  have h38 : fa33 ≤ 100 := h38
  have h39 : If (0 < fa) (at32 = at0 ∧ fa33 = fa) := h39
  have h40 : at32 ≤ at0 + 1 := h40
  have h41 : at0 + 1 ≤ at32 + fa33 := h41
  have h42 : If (fa33 = 0) (K at0 = 1) := h42
  obtain rfl : v31 = some (.int (nI at0)) := hw30
  have hP : va_P G.1 pCl (mW G h0 a (upd (upd (upd (upd (upd F 15 (nI fa33)) 16 pl34) 27 (nI nd)) 31 (nI wr8)) 64 (nI at32)) (updA (updA (updA B 19 yt10) 20 yr11) 2 K)) _ := mW_to (F := F) (l1 := [(15, (nI fa)), (16, pl7), (27, (nI nd)), (31, (nI wr8)), (64, (nI at0)), (15, (nI fa33)), (16, pl34), (64, (nI at32))]) (l2 := [(15, (nI fa33)), (16, pl34), (27, (nI nd)), (31, (nI wr8)), (64, (nI at32))]) (V := [(nI fa33), pl34, (nI nd), (nI wr8), (nI at32), (nI fa33), pl34, (nI at32), (nI fa33), pl34, (nI nd), (nI wr8), (nI at32)]) rfl rfl (show (updA (updA (updA (updA B 19 yt10) 20 yr11) 2 K) 2 K) = (updA (updA (updA B 19 yt10) 20 yr11) 2 K) from updsA_eq2 (F := B) (l1 := [(19, yt10), (20, yr11), (2, K), (2, K)]) (l2 := [(19, yt10), (20, yr11), (2, K)]) (V := [yt10, yr11, K, K, yt10, yr11, K]) rfl rfl) hP
  have hD : va_D A (mW G h0 a (upd (upd (upd (upd (upd F 15 (nI fa33)) 16 pl34) 27 (nI nd)) 31 (nI wr8)) 64 (nI at32)) (updA (updA (updA B 19 yt10) 20 yr11) 2 K)) := mW_D hD
  refine W.widen (k := 0) (n := 0) (Nat.le_of_ble_eq_true rfl) (Nat.le_of_ble_eq_true rfl) ?_
  refine W.eq (g2 := F0 m 9 ls [.int (nI at0)]) rfl ?_
  obtain ⟨n44, n43⟩ := h39 hfp
  replace n44 := n44.symm
  subst n44
  replace n43 := n43.symm
  subst n43
  refine lv_istore_n (lv' := [(3, .int (nI at0)), (2, .int (nI r9)), (0, .ref h0), (1, .int (nI fi))]) hx hb dX12_local_9 rfl hl (by decide) rfl (fun ls hl => ?_)
  refine lv_aload_n hx hb dX12_local_10 rfl (lv_at hl 2 rfl) ?_
  refine lv_bipush (v := 30) hx hb dX12_local_11 (by decide) ?_
  refine lv_iload_n hx hb dX12_local_13 rfl (lv_at hl 3 rfl) ?_
  refine lv_iload_n hx hb dX12_local_14 rfl (lv_at hl 0 rfl) ?_
  refine lv_iload_n hx hb dX12_local_15 rfl (lv_at hl 1 rfl) ?_
  refine lv_iconst (v := (-1)) hx hb dX12_local_16 (by decide) ?_
  have hP : va_P G.1 pCl (mW G h0 a (upd (upd (upd (upd (upd (upd F 15 (nI fa)) 16 pl34) 27 (nI nd)) 31 (nI wr8)) 64 (nI at0)) 27 (nI nd)) (updA (updA (updA B 19 yt10) 20 yr11) 2 K)) _ := hP
  have hD : va_D A (mW G h0 a (upd (upd (upd (upd (upd (upd F 15 (nI fa)) 16 pl34) 27 (nI nd)) 31 (nI wr8)) 64 (nI at0)) 27 (nI nd)) (updA (updA (updA B 19 yt10) 20 yr11) 2 K)) := mW_D hD
  refine pc_V0 (G := G) (As := [.int 30, .int (nI fi), .int (nI at0), .int (nI r9), .int (-1)]) (rest := []) hx hb hml hown hq hE hX pX0_al hP hD hS hA hl.1 (R_nodeB l G h0 a (upd (upd (upd (upd (upd F 15 (nI fa)) 16 pl34) 27 (nI nd)) 31 (nI wr8)) 64 (nI at0)) (updA (updA B 19 yt10) 20 yr11) 30 (nI fi) (nI at0) (nI r9) (-1) nd K (by omega)) (gV pw_1650 pw_1651 pw_1652 pw_1523 pw_1589) hV_X12_node 0 9 rfl rfl rfl rfl (Nat.le_of_ble_eq_true rfl) dX12_local_17 ⟨Nat.le_of_ble_eq_true rfl, Nat.le_of_ble_eq_true rfl⟩ ⟨Nat.le_of_ble_eq_true rfl, Nat.le_of_ble_eq_true rfl⟩ (fun v47 u45 H locs hw46 hP hD hS => ?_)
  obtain ⟨X48, rfl⟩ : ∃ z, z = u45 := ⟨_, rfl⟩
  obtain ⟨hw46, h49⟩ := hw46
  have h49 : NewN (updA (updA B 19 yt10) 20 yr11) X48 nd 30 (nI fi) (nI at0) (nI r9) (-1) := h49
  obtain rfl : v47 = some (.int (nI nd)) := hw46
  have hP : va_P G.1 pCl (mW G h0 a (upd (upd (upd (upd (upd F 15 (nI fa)) 16 pl34) 27 (nI (nd + 1))) 31 (nI wr8)) 64 (nI at0)) (updA X48 2 K)) _ := mW_to (F := F) (l1 := [(15, (nI fa)), (16, pl34), (27, (nI nd)), (31, (nI wr8)), (64, (nI at0)), (27, (nI (nd + 1)))]) (l2 := [(15, (nI fa)), (16, pl34), (27, (nI (nd + 1))), (31, (nI wr8)), (64, (nI at0))]) (V := [(nI fa), pl34, (nI (nd + 1)), (nI wr8), (nI at0), (nI (nd + 1)), (nI fa), pl34, (nI (nd + 1)), (nI wr8), (nI at0)]) rfl rfl rfl hP
  have hD : va_D A (mW G h0 a (upd (upd (upd (upd (upd F 15 (nI fa)) 16 pl34) 27 (nI (nd + 1))) 31 (nI wr8)) 64 (nI at0)) (updA X48 2 K)) := mW_D hD
  refine W.widen (k := 0) (n := 0) (Nat.le_of_ble_eq_true rfl) (Nat.le_of_ble_eq_true rfl) ?_
  refine W.eq (g2 := F0 m 20 ls [.int (nI nd)]) rfl ?_
  have hkp50 : Kp B X48 wr8 T := (Kp.new hkp26 h49)
  refine lv_istore (lv' := [(4, .int (nI nd)), (3, .int (nI at0)), (2, .int (nI r9)), (0, .ref h0), (1, .int (nI fi))]) hx hb dX12_local_20 hl (by decide) rfl (fun ls hl => ?_)
  refine lv_aload_n hx hb dX12_local_22 rfl (lv_at hl 3 rfl) ?_
  refine lv_bipush (v := 61) hx hb dX12_local_23 (by decide) ?_
  have hP : va_P G.1 pCl (mW G h0 a (upd (upd (upd (upd (upd (upd (upd F 15 (nI fa)) 16 pl34) 27 (nI (nd + 1))) 31 (nI wr8)) 64 (nI at0)) 15 (nI fa)) 64 (nI at0)) (updA (updA X48 2 K) 2 K)) _ := mW_to (F := F) (l1 := [(15, (nI fa)), (16, pl34), (27, (nI (nd + 1))), (31, (nI wr8)), (64, (nI at0))]) (l2 := [(15, (nI fa)), (16, pl34), (27, (nI (nd + 1))), (31, (nI wr8)), (64, (nI at0)), (15, (nI fa)), (64, (nI at0))]) (V := [(nI fa), pl34, (nI (nd + 1)), (nI wr8), (nI at0), (nI fa), pl34, (nI (nd + 1)), (nI wr8), (nI at0), (nI fa), (nI at0)]) rfl rfl (show (updA X48 2 K) = (updA (updA X48 2 K) 2 K) from updsA_eq2 (F := X48) (l1 := [(2, K)]) (l2 := [(2, K), (2, K)]) (V := [K, K, K]) rfl rfl) hP
  have hD : va_D A (mW G h0 a (upd (upd (upd (upd (upd (upd (upd F 15 (nI fa)) 16 pl34) 27 (nI (nd + 1))) 31 (nI wr8)) 64 (nI at0)) 15 (nI fa)) 64 (nI at0)) (updA (updA X48 2 K) 2 K)) := mW_D hD
  refine pc_V0 (G := G) (As := [.int 61]) (rest := []) hx hb hml hown hq hE hX pX0_al hP hD hS hA hl.1 (R_may l G h0 a (upd (upd (upd (upd (upd F 15 (nI fa)) 16 pl34) 27 (nI (nd + 1))) 31 (nI wr8)) 64 (nI at0)) (updA X48 2 K) at0 T fa K 61 (by omega) (by omega) hK (by omega) (by decide) (by decide)) (gV pw_1621 pw_1622 pw_1623 pw_1523 pw_1605) hV_X12_may 0 9 rfl rfl rfl rfl (Nat.le_of_ble_eq_true rfl) dX12_local_25 ⟨Nat.le_of_ble_eq_true rfl, Nat.le_of_ble_eq_true rfl⟩ ⟨Nat.le_of_ble_eq_true rfl, Nat.le_of_ble_eq_true rfl⟩ (fun v53 u51 H locs hw52 hP hD hS => ?_)
  obtain ⟨at54, r55⟩ := u51
  obtain ⟨hw52, h56, h57, h58, h59, h60, h61⟩ := hw52
  have h56 : r55 ≤ 1 := h56
  have h57 : fa + 100 * r55 ≤ 100 := h57
  have h58 : at54 = at0 + r55 := h58
  have h59 : at54 ≤ T := h59
  have h60 : If (r55 = 1) (K at0 = 61) := h60
  have h61 : If (r55 = 0) (fa = 0 → ¬ K at0 = 61) := h61
  obtain rfl : v53 = some (.int (nI r55)) := hw52
  have hP : va_P G.1 pCl (mW G h0 a (upd (upd (upd (upd (upd F 15 (nI fa)) 16 pl34) 27 (nI (nd + 1))) 31 (nI wr8)) 64 (nI at54)) (updA X48 2 K)) _ := mW_to (F := F) (l1 := [(15, (nI fa)), (16, pl34), (27, (nI (nd + 1))), (31, (nI wr8)), (64, (nI at0)), (15, (nI fa)), (64, (nI at54))]) (l2 := [(15, (nI fa)), (16, pl34), (27, (nI (nd + 1))), (31, (nI wr8)), (64, (nI at54))]) (V := [(nI fa), pl34, (nI (nd + 1)), (nI wr8), (nI at54), (nI fa), (nI at54), (nI fa), pl34, (nI (nd + 1)), (nI wr8), (nI at54)]) rfl rfl (show (updA (updA X48 2 K) 2 K) = (updA X48 2 K) from updsA_eq2 (F := X48) (l1 := [(2, K), (2, K)]) (l2 := [(2, K)]) (V := [K, K, K]) rfl rfl) hP
  have hD : va_D A (mW G h0 a (upd (upd (upd (upd (upd F 15 (nI fa)) 16 pl34) 27 (nI (nd + 1))) 31 (nI wr8)) 64 (nI at54)) (updA X48 2 K)) := mW_D hD
  refine W.widen (k := 0) (n := 0) (Nat.le_of_ble_eq_true rfl) (Nat.le_of_ble_eq_true rfl) ?_
  refine W.eq (g2 := F0 m 28 ls [.int (nI r55)]) rfl ?_
  obtain rfl : at0 = at54 := (by omega)
  refine lv_if_eq (tgt := 42) hx hb dX12_local_28 (by decide) (fun c62 => ?_) (fun c62 => (by have n63 : ¬ (r55 = 0) := fun h9 => c62 ((nI_eq (a := r55) (b := 0) (by omega) (by omega)).mpr h9); omega))
  refine lv_iload hx hb dX12_local_42 (lv_at hl 0 rfl) ?_
  have hz64 : wr ≤ wr8 := (by omega)
  have hz65 : wr8 ≤ wr := (by omega)
  have hz66 : Kp B X48 wr8 T := hkp50
  have hP : va_P G.1 pCl (mW G h0 a (upd (upd (upd (upd (upd F 15 (nI fa)) 16 pl34) 27 (nI (nd + 1))) 31 (nI wr8)) 64 (nI at0)) (updA X48 2 K)) _ := hP
  have hD : va_D A (mW G h0 a (upd (upd (upd (upd (upd F 15 (nI fa)) 16 pl34) 27 (nI (nd + 1))) 31 (nI wr8)) 64 (nI at0)) (updA X48 2 K)) := mW_D hD
  exact W.iret (v := (nI nd)) hx hb hr (fun t9 ht9 hW9 => ⟨⟨_, (pl34, wr8, X48), rfl, ⟨rfl, hz64, hz65, hz66⟩, by rw [ht9]; exact hP, hD⟩, hS.F ht9⟩) hS.2.2 dX12_local_44
theorem hV_X12_local : yX12_local.cls = RX12 ∧ yX12_local.cls ≠ "java/lang/invoke/MethodHandle" ∧ yX12_local.cls ≠ "java/lang/invoke/VarHandle" ∧ (parseMethodDescriptor yX12_local.desc).map (fun d => d.parameters.length) = some 1 := by decide +kernel
theorem hV_X12_simple : yX12_simple.cls = RX12 ∧ yX12_simple.cls ≠ "java/lang/invoke/MethodHandle" ∧ yX12_simple.cls ≠ "java/lang/invoke/VarHandle" ∧ (parseMethodDescriptor yX12_simple.desc).map (fun d => d.parameters.length) = some 1 := by decide +kernel
theorem hV_X12_statement : yX12_statement.cls = RX12 ∧ yX12_statement.cls ≠ "java/lang/invoke/MethodHandle" ∧ yX12_statement.cls ≠ "java/lang/invoke/VarHandle" ∧ (parseMethodDescriptor yX12_statement.desc).map (fun d => d.parameters.length) = some 0 := by decide +kernel
theorem hV_X12_part : yX12_part.cls = RX12 ∧ yX12_part.cls ≠ "java/lang/invoke/MethodHandle" ∧ yX12_part.cls ≠ "java/lang/invoke/VarHandle" ∧ (parseMethodDescriptor yX12_part.desc).map (fun d => d.parameters.length) = some 0 := by decide +kernel
theorem hV_X12_block : yX12_block.cls = RX12 ∧ yX12_block.cls ≠ "java/lang/invoke/MethodHandle" ∧ yX12_block.cls ≠ "java/lang/invoke/VarHandle" ∧ (parseMethodDescriptor yX12_block.desc).map (fun d => d.parameters.length) = some 0 := by decide +kernel
theorem hV_X12_attempt : yX12_attempt.cls = RX12 ∧ yX12_attempt.cls ≠ "java/lang/invoke/MethodHandle" ∧ yX12_attempt.cls ≠ "java/lang/invoke/VarHandle" ∧ (parseMethodDescriptor yX12_attempt.desc).map (fun d => d.parameters.length) = some 0 := by decide +kernel
theorem hV_X12_loop : yX12_loop.cls = RX12 ∧ yX12_loop.cls ≠ "java/lang/invoke/MethodHandle" ∧ yX12_loop.cls ≠ "java/lang/invoke/VarHandle" ∧ (parseMethodDescriptor yX12_loop.desc).map (fun d => d.parameters.length) = some 0 := by decide +kernel
theorem hV_X12_statementOf : yX12_statementOf.cls = RX12 ∧ yX12_statementOf.cls ≠ "java/lang/invoke/MethodHandle" ∧ yX12_statementOf.cls ≠ "java/lang/invoke/VarHandle" ∧ (parseMethodDescriptor yX12_statementOf.desc).map (fun d => d.parameters.length) = some 0 := by decide +kernel
