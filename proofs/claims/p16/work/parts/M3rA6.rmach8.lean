section M26
theorem nodup_lt : ∀ (N : Nat) (l : List Nat), l.Nodup → (∀ x, x ∈ l → x < N) → l.length ≤ N := by
  intro N
  induction N with
  | zero =>
    intro l _ h
    cases l with
    | nil => exact Nat.le_refl _
    | cons a t => exact absurd (h a (List.mem_cons_self)) (by omega)
  | succ N ih =>
    intro l hn h
    have h1 := ih (l.erase N) (hn.erase N) (fun x hx => by
      have h2 := (hn.mem_erase_iff).mp hx
      have h3 := h x h2.2
      have h4 := h2.1
      omega)
    have h5 : (l.erase N).length = if N ∈ l then l.length - 1 else l.length := List.length_erase
    split at h5 <;> omega
theorem cfF_len {X : Nat → Nat → Int32} {k : Nat} : ∀ n : Nat, ((List.range n).filter (fun f => owF X k f)).length = cfF X k n := by
  intro n
  induction n with
  | zero => rfl
  | succ n ih =>
    rw [List.range_succ, List.filter_append, List.length_append, ih]
    show _ = cfF X k n + _
    by_cases h : owF X k n = true
    · rw [if_pos h, List.filter_cons_of_pos h]; rfl
    · rw [if_neg h, List.filter_cons_of_neg h]; rfl
theorem fpl_onto {X : Nat → Nat → Int32} {dc fd k p : Nat} (P : PrF X dc fd) (hk : k < dc) (ik : X 26 k = 0) (hp : p < cfF X k fd) : ∃ f : Nat, f < fd ∧ owF X k f = true ∧ fplF X fd f = p := by
  refine Classical.byContradiction fun hn => ?_
  have hall : ∀ f : Nat, f < fd → owF X k f = true → ¬ fplF X fd f = p := fun f h1 h2 h3 => hn ⟨f, h1, h2, h3⟩
  have hmem : ∀ f : Nat, f ∈ (List.range fd).filter (fun f => owF X k f) → f < fd ∧ owF X k f = true := fun f h => by
    have z := List.mem_filter.mp h
    exact ⟨List.mem_range.mp z.1, z.2⟩
  have hlen := cfF_len (X := X) (k := k) fd
  generalize hL : (List.range fd).filter (fun f => owF X k f) = L at hmem hlen
  have hnd : L.Nodup := by rw [← hL]; exact (List.nodup_range).sublist (List.filter_sublist)
  have hmap : ∀ t : List Nat, t.Nodup → (∀ f, f ∈ t → f < fd ∧ owF X k f = true) → (t.map (fplF X fd)).Nodup := by
    intro t
    induction t with
    | nil => intro _ _; exact List.nodup_nil
    | cons a t ih =>
      intro h1 h2
      have h3 := List.nodup_cons.mp h1
      refine List.nodup_cons.mpr ⟨fun hm => ?_, ih h3.2 (fun f hf => h2 f (List.mem_cons_of_mem _ hf))⟩
      obtain ⟨b, hb, eb⟩ := List.mem_map.mp hm
      have ha := h2 a List.mem_cons_self
      have hb2 := h2 b (List.mem_cons_of_mem _ hb)
      by_cases e : a = b
      · exact h3.1 (e ▸ hb)
      · exact (fplF_ne P.1 P.2.1 P.2.2.1 P.2.2.2.1 hk ik ha.1 hb2.1 ha.2 hb2.2 e).1 eb.symm
  have h5 := nodup_lt (cfF X k fd) (p :: L.map (fplF X fd)) (List.nodup_cons.mpr ⟨fun hm => by
    obtain ⟨b, hb, eb⟩ := List.mem_map.mp hm
    have z := hmem b hb
    exact hall b z.1 z.2 eb, hmap L hnd hmem⟩) (fun x hx => by
      rcases List.mem_cons.mp hx with e | e
      · omega
      · obtain ⟨b, hb, eb⟩ := List.mem_map.mp e
        have z := hmem b hb
        have z2 := P.lt hk z.1 z.2
        omega)
  rw [List.length_cons, List.length_map] at h5
  omega
variable {Xs Y : Nat → Nat → Int32} {gh : Nat → Nat → Nat} {nd T nm wr lz dc fd md pr bk : Nat} {M : MTb} {on idn fl rmm ct : Nat} {v : Int32}
theorem Thr.got (P : Pg Xs Y gh nd T nm wr lz dc fd md pr bk M) (H : Hp Xs Y dc fd on idn fl rmm ct) (h : Thr Y on dc v) : ∃ x k : Nat, v = nI x ∧ 1 ≤ x ∧ clF (Y 55) x = nI k ∧ k < dc ∧ ((4001 ≤ x ∧ x ≤ 4006) ∨ (x ≤ 3000 ∧ ∃ q p : Nat, Y 57 (x - 1) = nI q ∧ q ≤ 620 ∧ Y 58 (x - 1) = nI p ∧ p + q ≤ 3000 ∧ (∀ j : Nat, j < q → ∃ f : Nat, f < fd ∧ owF Xs k f = true ∧ fplF Xs fd f = j))) := by
  obtain ⟨x, k, e1, e2, e3, e4, e5⟩ := h
  refine ⟨x, k, e1, e2, e4, e5, ?_⟩
  rcases e3 with ⟨h1, h2⟩ | h1
  · have b := P.bd
    have z := H.2.2 (x - 1) (by omega) h2
    rw [clF, if_neg (by omega)] at e4
    rcases z with ⟨z1, _⟩ | ⟨k2, p, z1, z2, z3, z4, z5, z6, z7⟩
    · exact absurd (z1.symm.trans e4).symm (nI_m1 (by omega))
    · obtain rfl : k2 = k := (nI_eq (by omega) (by omega)).mp (z1.symm.trans e4)
      have hq : cfF Xs k2 fd ≤ fd := cfF_le fd
      have bl := HS.below H.1 h2 (by omega) z4 (by omega) z5 z6
      exact Or.inr ⟨h1, cfF Xs k2 fd, p, z4, Nat.le_trans (cfF_le fd) (by omega), z5, by omega, fun j hj => fpl_onto P.prf e5 z3 hj⟩
  · exact Or.inl h1
end M26
theorem isin_m {x : Int32} {n : Nat} (hn : n < 2 ^ 30) (h : ¬ isin x 0 (nI n - 1) = 0) : ∃ k : Nat, x = nI k ∧ k < n := by
  obtain ⟨k, rfl, hk⟩ := nI_nn2 (isin_0 h)
  refine ⟨k, rfl, ?_⟩
  have h2 : ¬ (nI n - 1) < nI k := fun q => h (if_pos (Or.inr q))
  rcases Nat.eq_zero_or_pos n with z | z
  · subst z
    refine absurd ?_ h2
    rw [Int32.lt_iff_toInt_lt, nI_toInt (by omega)]
    have z2 : (nI 0 - 1).toInt = -1 := by decide
    omega
  · rw [show (1 : Int32) = nI 1 from rfl, nI_subN z] at h2
    have z3 : ¬ (n - 1 < k) := fun q => h2 ((nI_ltI (a := n - 1) (b := k) (by omega) (by omega)).mpr q)
    omega
theorem isin_k {k n : Nat} (h : k < n ∧ n < 2 ^ 30) : isin (nI k) 0 (nI n - 1) = 1 := by
  unfold isin
  rw [show (1 : Int32) = nI 1 from rfl, nI_subN (by omega), if_neg (fun q => ?_)]
  rcases q with q | q
  · have := (nI_ltI (a := k) (b := 0) (by omega) (by omega)).mp q; omega
  · have := (nI_ltI (a := n - 1) (b := k) (by omega) (by omega)).mp q; omega
theorem own_not {X : Nat → Nat → Int32} {k f d : Nat} (ed : X 32 f = nI d) (hd : d < 2 ^ 31) (h1 : ¬ X 32 f = nI k) (h2 : X 31 (40 * d + k) = 0) : ¬ owF X k f = true := fun h => by
  unfold owF at h
  rcases (Bool.or_eq_true _ _).mp h with q | q
  · exact h1 (eq_of_beq q)
  · rw [ed, nI_cl hd, h2] at q
    exact absurd (eq_of_beq q) (by decide)
theorem ge_two {x : Int32} (h : ¬ x < 2) : ∃ z : Nat, x = nI (z + 2) ∧ z < 2147483646 := by
  have h0 : ¬ x < 0 := fun q => h (by
    rw [Int32.lt_iff_toInt_lt] at q ⊢
    have z1 : (0 : Int32).toInt = 0 := by decide
    have z2 : (2 : Int32).toInt = 2 := by decide
    omega)
  obtain ⟨k, rfl, hk⟩ := nI_nn2 h0
  have h2 : ¬ k < 2 := fun q => h ((nI_ltI (a := k) (b := 2) (by omega) (by omega)).mpr q)
  exact ⟨k - 2, by rw [show k - 2 + 2 = k by omega], by omega⟩
theorem tI_ne {x : Int32} {n : Nat} (hn : n < 2 ^ 31) (h : ¬ x = nI n) : ¬ x.toInt = (n : Int) := fun q => h (Int32.toInt_inj.mp (by rw [q, nI_toInt hn]))
theorem sw_out5 {x : Int32} (h0 : ¬ x = 0) (h1 : ¬ x = 1) (h2 : ¬ x = 2) (h3 : ¬ x = 3) (h4 : ¬ x = 4) (h5 : ¬ x = 5) : x.toInt < 0 ∨ 5 < x.toInt := by
  have a0 : ¬ x.toInt = 0 := tI_ne (n := 0) (by decide) h0
  have a1 : ¬ x.toInt = 1 := tI_ne (n := 1) (by decide) h1
  have a2 : ¬ x.toInt = 2 := tI_ne (n := 2) (by decide) h2
  have a3 : ¬ x.toInt = 3 := tI_ne (n := 3) (by decide) h3
  have a4 : ¬ x.toInt = 4 := tI_ne (n := 4) (by decide) h4
  have a5 : ¬ x.toInt = 5 := tI_ne (n := 5) (by decide) h5
  omega
theorem sw_out10 {x : Int32} (h5 : ¬ x = 5) (h6 : ¬ x = 6) (h7 : ¬ x = 7) (h8 : ¬ x = 8) (h9 : ¬ x = 9) (h10 : ¬ x = 10) : x.toInt < 5 ∨ 10 < x.toInt := by
  have a5 : ¬ x.toInt = 5 := tI_ne (n := 5) (by decide) h5
  have a6 : ¬ x.toInt = 6 := tI_ne (n := 6) (by decide) h6
  have a7 : ¬ x.toInt = 7 := tI_ne (n := 7) (by decide) h7
  have a8 : ¬ x.toInt = 8 := tI_ne (n := 8) (by decide) h8
  have a9 : ¬ x.toInt = 9 := tI_ne (n := 9) (by decide) h9
  have a10 : ¬ x.toInt = 10 := tI_ne (n := 10) (by decide) h10
  omega
