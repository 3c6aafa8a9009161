/-! chains of jumps that are still to be aimed -/
def ChnJ (L : Nat → Int32) : Int32 → List Nat → Prop
  | c, [] => c = -1
  | c, x :: l => c = nI x ∧ x < 10000 ∧ (∀ y : Nat, y ∈ l → y < x) ∧ ChnJ L (L x) l
/-- the jumps of a list are aimed at s -/
def aim (L : Nat → Int32) (xs : List Nat) (s : Nat) : Nat → Int32 := fun i => if i ∈ xs then nI s else L i
section XN
variable {L L1 : Nat → Int32} {c : Int32} {xs ys zs : List Nat} {s x i : Nat}
theorem ChnJ.same : ∀ {xs : List Nat} {c : Int32}, ChnJ L c xs → (∀ y : Nat, y ∈ xs → L1 y = L y) → ChnJ L1 c xs
  | [], _, h, _ => h
  | x :: l, c, ⟨h1, h2, h3, h4⟩, q => ⟨h1, h2, h3, by
      rw [q x (List.mem_cons_self ..)]
      exact ChnJ.same h4 (fun y hy => q y (List.mem_cons_of_mem _ hy))⟩
theorem ChnJ.lt : ∀ {xs : List Nat} {c : Int32}, ChnJ L c xs → ∀ y : Nat, y ∈ xs → y < 10000
  | [], _, _, _, hy => absurd hy (List.not_mem_nil)
  | x :: l, _, ⟨_, h2, _, h4⟩, y, hy => by
    rcases List.mem_cons.mp hy with e | e
    · rw [e]; exact h2
    · exact ChnJ.lt h4 y e
theorem ChnJ.emit (h : ChnJ L c xs) (hs : s < 10000) (hx : ∀ y : Nat, y ∈ xs → y < s) : ChnJ (upI L s c) (nI s) (s :: xs) :=
  ⟨rfl, hs, hx, by
    rw [upI_eq]
    exact h.same (fun y hy => upI_ne (by have := hx y hy; omega))⟩
theorem ChnJ.len : ∀ {xs : List Nat} {c : Int32} {m : Nat}, ChnJ L c xs → (∀ y : Nat, y ∈ xs → y < m) → xs.length ≤ m
  | [], _, _, _, _ => Nat.zero_le _
  | x :: l, _, m, ⟨_, _, h3, h4⟩, q => by
    have z := ChnJ.len h4 h3
    have w := q x (List.mem_cons_self ..)
    show l.length + 1 ≤ m
    omega
theorem aim_in (h : i ∈ xs) : aim L xs s i = nI s := if_pos h
theorem aim_no (h : ¬ i ∈ xs) : aim L xs s i = L i := if_neg h
theorem aim_nil : aim L [] s = L := funext fun i => aim_no (List.not_mem_nil)
/-- one more is aimed -/
theorem aim_more : upI (aim L zs s) x (nI s) = aim L (zs ++ [x]) s := funext fun i => by
  by_cases z : i = x
  · subst z
    rw [upI_eq, aim_in (List.mem_append_right _ (List.mem_cons_self ..))]
  · rw [upI_ne z]
    by_cases w : i ∈ zs
    · rw [aim_in w, aim_in (List.mem_append_left _ w)]
    · rw [aim_no w, aim_no (fun q => by
        rcases List.mem_append.mp q with q | q
        · exact w q
        · rcases List.mem_cons.mp q with q | q
          · exact z q
          · exact List.not_mem_nil q)]
/-- the loop of land: what is done, what is left -/
theorem ChnJ.step (h : ChnJ (aim L zs s) c (x :: ys)) (hd : ∀ y : Nat, y ∈ x :: ys → ¬ y ∈ zs) : ChnJ (aim L (zs ++ [x]) s) (L x) ys ∧ aim L zs s x = L x ∧ ∀ y : Nat, y ∈ ys → ¬ y ∈ zs ++ [x] := by
  obtain ⟨h1, h2, h3, h4⟩ := h
  have e := aim_no (L := L) (s := s) (hd x (List.mem_cons_self ..))
  have d : ∀ y : Nat, y ∈ ys → ¬ y ∈ zs ++ [x] := fun y hy q => by
    rcases List.mem_append.mp q with q | q
    · exact hd y (List.mem_cons_of_mem _ hy) q
    · rcases List.mem_cons.mp q with q | q
      · have := h3 y hy
        omega
      · exact List.not_mem_nil q
  rw [e] at h4
  refine ⟨h4.same (fun y hy => ?_), e, d⟩
  rw [aim_no (d y hy), aim_no (hd y (List.mem_cons_of_mem _ hy))]
end XN
