/-! the heap's order: things lie side by side -/
def omN (om od : Nat → Int32) (k : Nat) : Nat := (om (od k).toNatClampNeg).toNatClampNeg
def smF (om od : Nat → Int32) : Nat → Nat
  | 0 => 0
  | n + 1 => smF om od n + omN om od n
def wtF (om oc od : Nat → Int32) : Nat → Nat
  | 0 => 0
  | n + 1 => wtF om oc od n + (omN om od n + (if oc (od n).toNatClampNeg = -1 then 2 else 1))
section H2
variable {om oc od od1 oa oa1 cl cl1 cl2 id id1 sn : Nat → Int32} {n k l o q p on idn idn1 ct : Nat} {v : Int32}
theorem omN_eq (h : od k = nI o) (ho : o < 2 ^ 31) (g : om o = nI q) (hq : q < 2 ^ 31) : omN om od k = q := by
  unfold omN; rw [h, nI_cl ho, g, nI_cl hq]
theorem smF_same : ∀ n : Nat, (∀ j : Nat, j < n → od1 j = od j) → smF om od1 n = smF om od n := by
  intro n
  induction n with
  | zero => intro _; rfl
  | succ n ih => intro h; show smF om od1 n + _ = smF om od n + _; rw [ih (fun j hj => h j (by omega))]; unfold omN; rw [h n (by omega)]
theorem wtF_same : ∀ n : Nat, (∀ j : Nat, j < n → od1 j = od j) → wtF om oc od1 n = wtF om oc od n := by
  intro n
  induction n with
  | zero => intro _; rfl
  | succ n ih => intro h; show wtF om oc od1 n + _ = wtF om oc od n + _; rw [ih (fun j hj => h j (by omega))]; unfold omN; rw [h n (by omega)]
theorem smF_le : ∀ n : Nat, smF om od n + n ≤ wtF om oc od n := by
  intro n
  induction n with
  | zero => exact Nat.le_refl _
  | succ n ih => show smF om od n + omN om od n + (n + 1) ≤ wtF om oc od n + (omN om od n + _); split <;> omega
theorem smF_mono : ∀ n m : Nat, n ≤ m → smF om od n ≤ smF om od m := by
  intro n m
  induction m with
  | zero => intro h; rw [show n = 0 by omega]; exact Nat.le_refl _
  | succ m ih =>
    intro h
    by_cases e : n = m + 1
    · rw [e]; exact Nat.le_refl _
    · exact Nat.le_trans (ih (by omega)) (by show smF om od m ≤ smF om od m + _; omega)
/-- the order, what lies idle, where each thing's cells are -/
def HS (om oc od id oa : Nat → Int32) (on idn fl rm : Nat) : Prop := (∀ k : Nat, k < on → ∃ o q : Nat, o < 3000 ∧ od k = nI o ∧ om o = nI q ∧ q ≤ 3000 ∧ oa o = nI (smF om od k)) ∧ (∀ k j : Nat, k < on → j < on → od k = od j → k = j) ∧ (∀ k : Nat, k < idn → ∃ o : Nat, o < 3000 ∧ id k = nI o ∧ ¬ Lvd od on o) ∧ (∀ k j : Nat, k < idn → j < idn → id k = id j → k = j) ∧ on + idn = 3000 ∧ fl = wtF om oc od on ∧ fl ≤ rm ∧ rm ≤ 3000
/-- the sweep has come to place k of the old order, l of the new one -/
def Sw (sn om oc od id oa cl : Nat → Int32) (on idn k l : Nat) (od1 id1 oa1 cl1 : Nat → Int32) (idn1 ct fl : Nat) : Prop := l ≤ k ∧ (∀ j : Nat, k ≤ j → od1 j = od j) ∧
  (∀ j : Nat, j < l → ∃ o j0 : Nat, o < 3000 ∧ j0 < k ∧ od1 j = nI o ∧ od j0 = nI o ∧ ¬ sn o = 0 ∧ oa1 o = nI (smF om od1 j) ∧ ∀ i q p : Nat, om o = nI q → oa o = nI p → i < q → q ≤ 3000 → p ≤ 3000 → cl1 (smF om od1 j + i) = cl (p + i)) ∧
  (∀ i j : Nat, i < l → j < l → od1 i = od1 j → i = j) ∧ (∀ j0 o : Nat, j0 < k → o < 3000 → od j0 = nI o → ¬ sn o = 0 → ∃ j : Nat, j < l ∧ od1 j = nI o) ∧
  (ct = smF om od1 l ∧ fl = wtF om oc od1 l ∧ ct ≤ smF om od k ∧ fl ≤ wtF om oc od k) ∧ (∀ a : Nat, smF om od k ≤ a → cl1 a = cl a) ∧
  (∀ o j0 : Nat, o < 3000 → k ≤ j0 → j0 < on → od j0 = nI o → oa1 o = oa o) ∧
  (∀ j : Nat, j < idn1 → ∃ o : Nat, o < 3000 ∧ id1 j = nI o ∧ (¬ Lvd od on o ∨ ∃ j0 : Nat, j0 < k ∧ od j0 = nI o ∧ sn o = 0)) ∧ (∀ i j : Nat, i < idn1 → j < idn1 → id1 i = id1 j → i = j) ∧ idn1 + l = idn + k
theorem Sw.start {rm fl : Nat} (h : HS om oc od id oa on idn fl rm) : Sw sn om oc od id oa cl on idn 0 0 od id oa cl idn 0 0 := by
  obtain ⟨h1, h2, h3, h4, h5, h6, h7, h8⟩ := h
  exact ⟨Nat.le_refl _, fun _ _ => rfl, fun j hj => absurd hj (by omega), fun i j hi => absurd hi (by omega), fun j o hj => absurd hj (by omega), ⟨rfl, rfl, Nat.le_refl _, Nat.le_refl _⟩, fun _ _ => rfl, fun _ _ _ _ _ _ => rfl, fun j hj => by
    obtain ⟨o, z1, z2, z3⟩ := h3 j hj
    exact ⟨o, z1, z2, Or.inl z3⟩, h4, rfl⟩
/-- one that nobody sees -/
theorem Sw.drop {rm fl ff : Nat} (H : HS om oc od id oa on idn fl rm) (h : Sw sn om oc od id oa cl on idn k l od1 id1 oa1 cl1 idn1 ct ff) (hk : k < on) (e : od k = nI o) (ho : o < 3000) (hs : sn o = 0) : Sw sn om oc od id oa cl on idn (k + 1) l od1 (upd id1 idn1 (nI o)) oa1 cl1 (idn1 + 1) ct ff := by
  obtain ⟨a1, a2, a3, a4, a5, ⟨a6, a7, a8, a9⟩, a10, a11, a12, a13, a14⟩ := h
  have hsm : smF om od (k + 1) = smF om od k + omN om od k := rfl
  have hwm : wtF om oc od k ≤ wtF om oc od (k + 1) := by show _ ≤ wtF om oc od k + _; omega
  refine ⟨by omega, fun j hj => a2 j (by omega), fun j hj => ?_, a4, fun j0 b hj hb e1 s1 => ?_, ⟨a6, a7, by omega, by omega⟩, fun a ha => a10 a (by omega), fun b j0 hb h1 h2 e1 => a11 b j0 hb (by omega) h2 e1, fun j hj => ?_, fun i j hi hj w => ?_, by omega⟩
  · obtain ⟨b, j0, z1, z2, z⟩ := a3 j hj
    exact ⟨b, j0, z1, by omega, z⟩
  · by_cases q : j0 = k
    · rw [q, e] at e1
      have : o = b := (nI_eq (by omega) (by omega)).mp e1
      rw [← this] at s1; exact absurd hs s1
    · exact a5 j0 b (by omega) hb e1 s1
  · by_cases q : j = idn1
    · exact ⟨o, ho, by rw [q]; exact if_pos rfl, Or.inr ⟨k, by omega, e, hs⟩⟩
    · obtain ⟨b, z1, z2, z3⟩ := a12 j (by omega)
      exact ⟨b, z1, by rw [show upd id1 idn1 (nI o) j = id1 j from if_neg q]; exact z2, z3.imp _root_.id (fun ⟨j0, y1, y2⟩ => ⟨j0, by omega, y2⟩)⟩
  · have key : ∀ j : Nat, j < idn1 → ¬ id1 j = nI o := fun j hj w => by
      obtain ⟨b, z1, z2, z3⟩ := a12 j hj
      have : b = o := (nI_eq (by omega) (by omega)).mp (z2.symm.trans w)
      subst this
      rcases z3 with z3 | ⟨j0, y1, y2, _⟩
      · exact z3 ⟨k, hk, e⟩
      · have := H.2.1 j0 k (by omega) hk (y2.trans e.symm); omega
    unfold upd at w
    by_cases q1 : i = idn1
    · by_cases q2 : j = idn1
      · omega
      · rw [if_pos q1, if_neg q2] at w; exact absurd w.symm (key j (by omega))
    · by_cases q2 : j = idn1
      · rw [if_neg q1, if_pos q2] at w; exact absurd w (key i (by omega))
      · rw [if_neg q1, if_neg q2] at w; exact a13 i j (by omega) (by omega) w
/-- one that is seen: its cells go to the end of what is kept -/
theorem Sw.keep {rm fl ff : Nat} (H : HS om oc od id oa on idn fl rm) (h : Sw sn om oc od id oa cl on idn k l od1 id1 oa1 cl1 idn1 ct ff) (hk : k < on) (e : od k = nI o) (ho : o < 3000) (hs : ¬ sn o = 0) (eq : om o = nI q) (hq : q ≤ 3000) (hc : (∀ i : Nat, i < q → cl2 (ct + i) = cl (smF om od k + i)) ∧ (∀ a : Nat, a < ct → cl2 a = cl1 a) ∧ ∀ a : Nat, ct + q ≤ a → cl2 a = cl1 a) : Sw sn om oc od id oa cl on idn (k + 1) (l + 1) (upd od1 l (nI o)) id1 (upd oa1 o (nI ct)) cl2 idn1 (ct + q) (ff + (q + (if oc o = -1 then 2 else 1))) := by
  obtain ⟨a1, a2, a3, a4, a5, ⟨a6, a7, a8, a9⟩, a10, a11, a12, a13, a14⟩ := h
  have hom : omN om od k = q := omN_eq e (by omega) eq (by omega)
  have hsm : smF om od (k + 1) = smF om od k + q := by show smF om od k + omN om od k = _; rw [hom]
  have hwm : wtF om oc od (k + 1) = wtF om oc od k + (q + (if oc o = -1 then 2 else 1)) := by
    show wtF om oc od k + (omN om od k + _) = _
    rw [hom, e, nI_cl (by omega)]
  have us : ∀ j : Nat, j ≤ l → smF om (upd od1 l (nI o)) j = smF om od1 j := fun j hj => smF_same j (fun i hi => if_neg (by omega))
  have uw : wtF om oc (upd od1 l (nI o)) l = wtF om oc od1 l := wtF_same l (fun i hi => if_neg (by omega))
  have uo : omN om (upd od1 l (nI o)) l = q := omN_eq (if_pos rfl) (by omega) eq (by omega)
  have ne : ∀ j b : Nat, j < l → od1 j = nI b → b < 3000 → ¬ b = o := fun j b hj w hb z => by
    obtain ⟨c, j0, z1, z2, z3, z4, _⟩ := a3 j hj
    have : c = b := (nI_eq (by omega) (by omega)).mp (z3.symm.trans w)
    subst this; subst z
    have := H.2.1 j0 k (by omega) hk (z4.trans e.symm); omega
  obtain ⟨b0, q0, y1, y2, y3, y4, y5⟩ := H.1 k hk
  have eb : b0 = o := (nI_eq (by omega) (by omega)).mp (y2.symm.trans e)
  rw [eb] at y5
  have hon : smF om od k ≤ 3000 := by
    have h1 := smF_le (om := om) (oc := oc) (od := od) on
    have h2 := smF_mono (om := om) (od := od) k on (by omega)
    have := H.2.2.2.2.2
    omega
  refine ⟨by omega, fun j hj => by rw [show upd od1 l (nI o) j = od1 j from if_neg (by omega)]; exact a2 j (by omega), fun j hj => ?_, fun i j hi hj w => ?_, fun j0 b hj hb e1 s1 => ?_, ⟨?_, ?_, by omega, ?_⟩, fun a ha => ?_, fun b j0 hb h1 h2 e1 => ?_, fun j hj => ?_, a13, by omega⟩
  · by_cases w : j = l
    · subst w
      refine ⟨o, k, ho, by omega, if_pos rfl, e, hs, by rw [us j (by omega), ← a6]; exact if_pos rfl, fun i q' p' w1 w2 w3 w4 w5 => ?_⟩
      have e1 : q' = q := (nI_eq (by omega) (by omega)).mp (w1.symm.trans eq)
      have e2 : p' = smF om od k := (nI_eq (by omega) (by omega)).mp (w2.symm.trans y5)
      rw [us j (by omega), ← a6, e2]; exact hc.1 i (by omega)
    · obtain ⟨b, j0, z1, z2, z3, z4, z5, z6, z7⟩ := a3 j (by omega)
      have nb := ne j b (by omega) z3 z1
      refine ⟨b, j0, z1, by omega, by rw [show upd od1 l (nI o) j = od1 j from if_neg w]; exact z3, z4, z5, by rw [us j (by omega), show upd oa1 o (nI ct) b = oa1 b from if_neg nb]; exact z6, fun i q' p' w1 w2 w3 w4 w5 => ?_⟩
      rw [us j (by omega)]
      have lt : smF om od1 j + i < ct := by
        have h1 : smF om od1 (j + 1) = smF om od1 j + omN om od1 j := rfl
        have h2 : omN om od1 j = q' := omN_eq z3 (by omega) w1 (by omega)
        have h3 := smF_mono (om := om) (od := od1) (j + 1) l (by omega)
        omega
      rw [hc.2.1 _ lt]; exact z7 i q' p' w1 w2 w3 w4 w5
  · unfold upd at w
    by_cases q1 : i = l
    · by_cases q2 : j = l
      · omega
      · rw [if_pos q1, if_neg q2] at w; exact absurd rfl (ne j o (by omega) w.symm ho)
    · by_cases q2 : j = l
      · rw [if_neg q1, if_pos q2] at w; exact absurd rfl (ne i o (by omega) w ho)
      · rw [if_neg q1, if_neg q2] at w; exact a4 i j (by omega) (by omega) w
  · by_cases w : j0 = k
    · rw [w, e] at e1
      have : o = b := (nI_eq (by omega) (by omega)).mp e1
      exact ⟨l, by omega, by rw [← this]; exact if_pos rfl⟩
    · obtain ⟨j, z1, z2⟩ := a5 j0 b (by omega) hb e1 s1
      exact ⟨j, by omega, by rw [show upd od1 l (nI o) j = od1 j from if_neg (by omega)]; exact z2⟩
  · show ct + q = smF om (upd od1 l (nI o)) l + omN om (upd od1 l (nI o)) l
    rw [us l (Nat.le_refl _), uo, ← a6]
  · show _ = wtF om oc (upd od1 l (nI o)) l + (omN om (upd od1 l (nI o)) l + (if oc ((upd od1 l (nI o)) l).toNatClampNeg = -1 then 2 else 1))
    rw [uw, uo, show upd od1 l (nI o) l = nI o from if_pos rfl, nI_cl (by omega), ← a7]
  · rw [hwm]; omega
  · rw [hc.2.2 a (by omega)]; exact a10 a (by omega)
  · have nb : ¬ b = o := fun z => by
      subst z
      have := H.2.1 j0 k h2 hk (e1.trans e.symm); omega
    rw [show upd oa1 o (nI ct) b = oa1 b from if_neg nb]; exact a11 b j0 hb (by omega) h2 e1
  · obtain ⟨b, z1, z2, z3⟩ := a12 j hj
    exact ⟨b, z1, z2, z3.imp _root_.id (fun ⟨j0, y1, y2⟩ => ⟨j0, by omega, y2⟩)⟩
/-- the sweep is through -/
theorem Sw.done {rm fl ff : Nat} (H : HS om oc od id oa on idn fl rm) (h : Sw sn om oc od id oa cl on idn on l od1 id1 oa1 cl1 idn1 ct ff) : HS om oc od1 id1 oa1 l idn1 ff rm ∧ ff ≤ fl ∧ (∀ o : Nat, o < 3000 → (Lvd od1 l o ↔ Lvd od on o ∧ ¬ sn o = 0)) ∧ ∀ o : Nat, o < 3000 → Lvd od1 l o → ∀ i q p p1 : Nat, om o = nI q → oa o = nI p → oa1 o = nI p1 → i < q → q ≤ 3000 → p ≤ 3000 → p1 ≤ 3000 → cl1 (p1 + i) = cl (p + i) := by
  obtain ⟨a1, a2, a3, a4, a5, ⟨a6, a7, a8, a9⟩, a10, a11, a12, a13, a14⟩ := h
  obtain ⟨h1, h2, h3, h4, h5, h6, h7, h8⟩ := H
  have lv : ∀ o : Nat, o < 3000 → (Lvd od1 l o ↔ Lvd od on o ∧ ¬ sn o = 0) := fun o ho => ⟨fun ⟨j, j1, j2⟩ => by
      obtain ⟨b, j0, z1, z2, z3, z4, z5, _⟩ := a3 j j1
      have : b = o := (nI_eq (by omega) (by omega)).mp (z3.symm.trans j2)
      subst this; exact ⟨⟨j0, z2, z4⟩, z5⟩, fun ⟨⟨j0, j1, j2⟩, s⟩ => a5 j0 o j1 ho j2 s⟩
  refine ⟨⟨fun j hj => ?_, a4, fun j hj => ?_, a13, by omega, a7, by omega, h8⟩, by omega, lv, fun o ho ⟨j, j1, j2⟩ i q p p1 w1 w2 w3 w4 w5 w6 w7 => ?_⟩
  · obtain ⟨b, j0, z1, z2, z3, z4, z5, z6, _⟩ := a3 j hj
    obtain ⟨b', q, y1, y2, y3, y4, _⟩ := h1 j0 z2
    have : b' = b := (nI_eq (by omega) (by omega)).mp (y2.symm.trans z4)
    subst this
    exact ⟨b', q, z1, z3, y3, y4, z6⟩
  · obtain ⟨o, z1, z2, z3⟩ := a12 j hj
    refine ⟨o, z1, z2, fun w => ?_⟩
    have w' := (lv o z1).mp w
    rcases z3 with z3 | ⟨_, _, _, z4⟩
    · exact z3 w'.1
    · exact w'.2 z4
  · obtain ⟨b, j0, z1, z2, z3, z4, z5, z6, z7⟩ := a3 j j1
    have : b = o := (nI_eq (by omega) (by omega)).mp (z3.symm.trans j2)
    subst this
    have hb : smF om od1 j ≤ 3000 := by
      have g1 := smF_le (om := om) (oc := oc) (od := od1) l
      have g2 := smF_mono (om := om) (od := od1) j l (by omega)
      omega
    have : p1 = smF om od1 j := (nI_eq (by omega) (by omega)).mp (w3.symm.trans z6)
    rw [this]; exact z7 i q p w1 w2 w4 w5 w6
end H2
theorem HS.sm {om oc od id oa : Nat → Int32} {on idn fl rm k o q : Nat} (h : HS om oc od id oa on idn fl rm) (hk : k < on) (e : od k = nI o) (ho : o < 3000) (g : om o = nI q) (hq : q ≤ 3000) : smF om od k + q ≤ 3000 := by
  have h1 := smF_le (om := om) (oc := oc) (od := od) on
  have h2 := smF_mono (om := om) (od := od) (k + 1) on (by omega)
  have h3 : smF om od (k + 1) = smF om od k + omN om od k := rfl
  have h4 : omN om od k = q := omN_eq e (by omega) g (by omega)
  have := h.2.2.2.2.2
  omega
/-- cells copied so far -/
def Cpy (cl cl2 cl3 : Nat → Int32) (ct ps i : Nat) : Prop := (∀ j : Nat, j < i → cl3 (ct + j) = cl (ps + j)) ∧ (∀ a : Nat, a < ct → cl3 a = cl2 a) ∧ ∀ a : Nat, ct + i ≤ a → cl3 a = cl2 a
theorem Cpy.zero {cl cl2 : Nat → Int32} {ct ps : Nat} : Cpy cl cl2 cl2 ct ps 0 := ⟨fun j h => absurd h (by omega), fun _ _ => rfl, fun _ _ => rfl⟩
theorem Cpy.succ {cl cl2 cl3 : Nat → Int32} {ct ps i : Nat} (h : Cpy cl cl2 cl3 ct ps i) (hp : ct ≤ ps) (g : ∀ a : Nat, ps ≤ a → cl2 a = cl a) : Cpy cl cl2 (upd cl3 (ct + i) (cl3 (ps + i))) ct ps (i + 1) := by
  refine ⟨fun j hj => ?_, fun a ha => ?_, fun a ha => ?_⟩ <;> unfold upd
  · by_cases e : j = i
    · rw [if_pos (by omega), h.2.2 _ (by omega), g _ (by omega), e]
    · rw [if_neg (by omega)]; exact h.1 j (by omega)
  · rw [if_neg (by omega)]; exact h.2.1 a ha
  · rw [if_neg (by omega)]; exact h.2.2 a (by omega)
theorem RfV.swept {od od1 sn : Nat → Int32} {on on1 : Nat} {v : Int32} (h : RfV od on v) (g : RfS sn v) (l : ∀ o : Nat, o < 3000 → (Lvd od1 on1 o ↔ Lvd od on o ∧ ¬ sn o = 0)) : RfV od1 on1 v := by
  obtain ⟨x, e, h⟩ := h
  refine ⟨x, e, ?_⟩
  rcases h with h | ⟨h1, h2, h3⟩ | h
  · exact Or.inl h
  · exact Or.inr (Or.inl ⟨h1, h2, (l (x - 1) (by omega)).mpr ⟨h3, g x e h1 h2⟩⟩)
  · exact Or.inr (Or.inr h)
theorem dX12_sweep_0 : decode cX12_sweep 0 = .ok (.aload_n 0, 1) := by decide +kernel
theorem dX12_sweep_1 : decode cX12_sweep 1 = .ok (.invokevirtual 716, 3) := by decide +kernel
theorem dX12_sweep_4 : decode cX12_sweep 4 = .ok (.aload_n 0, 1) := by decide +kernel
theorem dX12_sweep_5 : decode cX12_sweep 5 = .ok (.iconst 0, 1) := by decide +kernel
theorem dX12_sweep_6 : decode cX12_sweep 6 = .ok (.putfield 719, 3) := by decide +kernel
theorem dX12_sweep_9 : decode cX12_sweep 9 = .ok (.aload_n 0, 1) := by decide +kernel
theorem dX12_sweep_10 : decode cX12_sweep 10 = .ok (.iconst 0, 1) := by decide +kernel
theorem dX12_sweep_11 : decode cX12_sweep 11 = .ok (.putfield 722, 3) := by decide +kernel
theorem dX12_sweep_14 : decode cX12_sweep 14 = .ok (.iconst 0, 1) := by decide +kernel
theorem dX12_sweep_15 : decode cX12_sweep 15 = .ok (.istore_n 1, 1) := by decide +kernel
theorem dX12_sweep_16 : decode cX12_sweep 16 = .ok (.iconst 0, 1) := by decide +kernel
theorem dX12_sweep_17 : decode cX12_sweep 17 = .ok (.istore_n 2, 1) := by decide +kernel
theorem dX12_sweep_18 : decode cX12_sweep 18 = .ok (.iload_n 2, 1) := by decide +kernel
theorem dX12_sweep_19 : decode cX12_sweep 19 = .ok (.aload_n 0, 1) := by decide +kernel
theorem dX12_sweep_20 : decode cX12_sweep 20 = .ok (.getfield 704, 3) := by decide +kernel
theorem dX12_sweep_23 : decode cX12_sweep 23 = .ok (.if_icmp .ge 139, 3) := by decide +kernel
theorem dX12_sweep_162 : decode cX12_sweep 162 = .ok (.aload_n 0, 1) := by decide +kernel
theorem dX12_sweep_163 : decode cX12_sweep 163 = .ok (.iload_n 1, 1) := by decide +kernel
theorem dX12_sweep_164 : decode cX12_sweep 164 = .ok (.putfield 704, 3) := by decide +kernel
theorem dX12_sweep_167 : decode cX12_sweep 167 = .ok (.return_, 1) := by decide +kernel
theorem dX12_sweep_26 : decode cX12_sweep 26 = .ok (.aload_n 0, 1) := by decide +kernel
theorem dX12_sweep_27 : decode cX12_sweep 27 = .ok (.getfield 237, 3) := by decide +kernel
theorem dX12_sweep_30 : decode cX12_sweep 30 = .ok (.iload_n 2, 1) := by decide +kernel
theorem dX12_sweep_31 : decode cX12_sweep 31 = .ok (.iaload, 1) := by decide +kernel
theorem dX12_sweep_32 : decode cX12_sweep 32 = .ok (.istore_n 3, 1) := by decide +kernel
theorem dX12_sweep_33 : decode cX12_sweep 33 = .ok (.aload_n 0, 1) := by decide +kernel
theorem dX12_sweep_34 : decode cX12_sweep 34 = .ok (.getfield 190, 3) := by decide +kernel
theorem dX12_sweep_37 : decode cX12_sweep 37 = .ok (.iload_n 3, 1) := by decide +kernel
theorem dX12_sweep_38 : decode cX12_sweep 38 = .ok (.baload, 1) := by decide +kernel
theorem dX12_sweep_39 : decode cX12_sweep 39 = .ok (.ifCond .ne 26, 3) := by decide +kernel
theorem dX12_sweep_65 : decode cX12_sweep 65 = .ok (.aload_n 0, 1) := by decide +kernel
theorem dX12_sweep_66 : decode cX12_sweep 66 = .ok (.getfield 237, 3) := by decide +kernel
theorem dX12_sweep_69 : decode cX12_sweep 69 = .ok (.iload_n 1, 1) := by decide +kernel
theorem dX12_sweep_70 : decode cX12_sweep 70 = .ok (.iload_n 3, 1) := by decide +kernel
theorem dX12_sweep_71 : decode cX12_sweep 71 = .ok (.iastore, 1) := by decide +kernel
theorem dX12_sweep_72 : decode cX12_sweep 72 = .ok (.iinc 1 1, 3) := by decide +kernel
theorem dX12_sweep_75 : decode cX12_sweep 75 = .ok (.aload_n 0, 1) := by decide +kernel
theorem dX12_sweep_76 : decode cX12_sweep 76 = .ok (.getfield 187, 3) := by decide +kernel
theorem dX12_sweep_79 : decode cX12_sweep 79 = .ok (.iload_n 3, 1) := by decide +kernel
theorem dX12_sweep_80 : decode cX12_sweep 80 = .ok (.iaload, 1) := by decide +kernel
theorem dX12_sweep_81 : decode cX12_sweep 81 = .ok (.istore 4, 2) := by decide +kernel
theorem dX12_sweep_83 : decode cX12_sweep 83 = .ok (.aload_n 0, 1) := by decide +kernel
theorem dX12_sweep_84 : decode cX12_sweep 84 = .ok (.getfield 187, 3) := by decide +kernel
theorem dX12_sweep_87 : decode cX12_sweep 87 = .ok (.iload_n 3, 1) := by decide +kernel
theorem dX12_sweep_88 : decode cX12_sweep 88 = .ok (.aload_n 0, 1) := by decide +kernel
theorem dX12_sweep_89 : decode cX12_sweep 89 = .ok (.getfield 722, 3) := by decide +kernel
theorem dX12_sweep_92 : decode cX12_sweep 92 = .ok (.iastore, 1) := by decide +kernel
theorem dX12_sweep_93 : decode cX12_sweep 93 = .ok (.iconst 0, 1) := by decide +kernel
theorem dX12_sweep_94 : decode cX12_sweep 94 = .ok (.istore 5, 2) := by decide +kernel
theorem dX12_sweep_96 : decode cX12_sweep 96 = .ok (.iload 5, 2) := by decide +kernel
theorem dX12_sweep_98 : decode cX12_sweep 98 = .ok (.aload_n 0, 1) := by decide +kernel
theorem dX12_sweep_99 : decode cX12_sweep 99 = .ok (.getfield 184, 3) := by decide +kernel
theorem dX12_sweep_102 : decode cX12_sweep 102 = .ok (.iload_n 3, 1) := by decide +kernel
theorem dX12_sweep_103 : decode cX12_sweep 103 = .ok (.iaload, 1) := by decide +kernel
theorem dX12_sweep_104 : decode cX12_sweep 104 = .ok (.if_icmp .ge 38, 3) := by decide +kernel
theorem dX12_sweep_142 : decode cX12_sweep 142 = .ok (.aload_n 0, 1) := by decide +kernel
theorem dX12_sweep_143 : decode cX12_sweep 143 = .ok (.dup, 1) := by decide +kernel
theorem dX12_sweep_144 : decode cX12_sweep 144 = .ok (.getfield 719, 3) := by decide +kernel
theorem dX12_sweep_147 : decode cX12_sweep 147 = .ok (.aload_n 0, 1) := by decide +kernel
theorem dX12_sweep_148 : decode cX12_sweep 148 = .ok (.iload_n 3, 1) := by decide +kernel
theorem dX12_sweep_149 : decode cX12_sweep 149 = .ok (.invokevirtual 728, 3) := by decide +kernel
theorem dX12_sweep_152 : decode cX12_sweep 152 = .ok (.iadd, 1) := by decide +kernel
theorem dX12_sweep_153 : decode cX12_sweep 153 = .ok (.putfield 719, 3) := by decide +kernel
theorem dX12_sweep_156 : decode cX12_sweep 156 = .ok (.iinc 2 1, 3) := by decide +kernel
theorem dX12_sweep_159 : decode cX12_sweep 159 = .ok (.goto (-141), 3) := by decide +kernel
theorem dX12_sweep_107 : decode cX12_sweep 107 = .ok (.aload_n 0, 1) := by decide +kernel
theorem dX12_sweep_108 : decode cX12_sweep 108 = .ok (.getfield 193, 3) := by decide +kernel
theorem dX12_sweep_111 : decode cX12_sweep 111 = .ok (.aload_n 0, 1) := by decide +kernel
theorem dX12_sweep_112 : decode cX12_sweep 112 = .ok (.getfield 722, 3) := by decide +kernel
theorem dX12_sweep_115 : decode cX12_sweep 115 = .ok (.aload_n 0, 1) := by decide +kernel
theorem dX12_sweep_116 : decode cX12_sweep 116 = .ok (.getfield 193, 3) := by decide +kernel
theorem dX12_sweep_119 : decode cX12_sweep 119 = .ok (.iload 4, 2) := by decide +kernel
theorem dX12_sweep_121 : decode cX12_sweep 121 = .ok (.iload 5, 2) := by decide +kernel
theorem dX12_sweep_123 : decode cX12_sweep 123 = .ok (.iadd, 1) := by decide +kernel
theorem dX12_sweep_124 : decode cX12_sweep 124 = .ok (.iaload, 1) := by decide +kernel
theorem dX12_sweep_125 : decode cX12_sweep 125 = .ok (.iastore, 1) := by decide +kernel
theorem dX12_sweep_126 : decode cX12_sweep 126 = .ok (.aload_n 0, 1) := by decide +kernel
theorem dX12_sweep_127 : decode cX12_sweep 127 = .ok (.dup, 1) := by decide +kernel
theorem dX12_sweep_128 : decode cX12_sweep 128 = .ok (.getfield 722, 3) := by decide +kernel
theorem dX12_sweep_131 : decode cX12_sweep 131 = .ok (.iconst 1, 1) := by decide +kernel
theorem dX12_sweep_132 : decode cX12_sweep 132 = .ok (.iadd, 1) := by decide +kernel
theorem dX12_sweep_133 : decode cX12_sweep 133 = .ok (.putfield 722, 3) := by decide +kernel
theorem dX12_sweep_136 : decode cX12_sweep 136 = .ok (.iinc 5 1, 3) := by decide +kernel
theorem dX12_sweep_139 : decode cX12_sweep 139 = .ok (.goto (-43), 3) := by decide +kernel
theorem dX12_sweep_42 : decode cX12_sweep 42 = .ok (.aload_n 0, 1) := by decide +kernel
theorem dX12_sweep_43 : decode cX12_sweep 43 = .ok (.getfield 240, 3) := by decide +kernel
theorem dX12_sweep_46 : decode cX12_sweep 46 = .ok (.aload_n 0, 1) := by decide +kernel
theorem dX12_sweep_47 : decode cX12_sweep 47 = .ok (.getfield 725, 3) := by decide +kernel
theorem dX12_sweep_50 : decode cX12_sweep 50 = .ok (.iload_n 3, 1) := by decide +kernel
theorem dX12_sweep_51 : decode cX12_sweep 51 = .ok (.iastore, 1) := by decide +kernel
theorem dX12_sweep_52 : decode cX12_sweep 52 = .ok (.aload_n 0, 1) := by decide +kernel
theorem dX12_sweep_53 : decode cX12_sweep 53 = .ok (.dup, 1) := by decide +kernel
theorem dX12_sweep_54 : decode cX12_sweep 54 = .ok (.getfield 725, 3) := by decide +kernel
theorem dX12_sweep_57 : decode cX12_sweep 57 = .ok (.iconst 1, 1) := by decide +kernel
theorem dX12_sweep_58 : decode cX12_sweep 58 = .ok (.iadd, 1) := by decide +kernel
theorem dX12_sweep_59 : decode cX12_sweep 59 = .ok (.putfield 725, 3) := by decide +kernel
theorem dX12_sweep_62 : decode cX12_sweep 62 = .ok (.goto 94, 3) := by decide +kernel
theorem hV_X12_findReachable : yX12_findReachable.cls = RX12 ∧ yX12_findReachable.cls ≠ "java/lang/invoke/MethodHandle" ∧ yX12_findReachable.cls ≠ "java/lang/invoke/VarHandle" ∧ (parseMethodDescriptor yX12_findReachable.desc).map (fun d => d.parameters.length) = some 0 := by decide +kernel
theorem hV_X12_cellsOf : yX12_cellsOf.cls = RX12 ∧ yX12_cellsOf.cls ≠ "java/lang/invoke/MethodHandle" ∧ yX12_cellsOf.cls ≠ "java/lang/invoke/VarHandle" ∧ (parseMethodDescriptor yX12_cellsOf.desc).map (fun d => d.parameters.length) = some 1 := by decide +kernel
set_option maxHeartbeats 8000000 in
set_option maxRecDepth 100000 in
/-- sweep() -/
theorem R_sweep (l : Launch) (G : pT) (h0 : Nat) (a : Nat → Nat) (F : Nat → Int32) (B : Nat → Nat → Int32) (on : Nat) (op : Nat) (tp : Nat) (wn : Nat) (idn : Nat) (fl : Nat) (rmm : Nat) (sn : Nat → Int32) (td : Nat → Int32) (od : Nat → Int32) (ido : Nat → Int32) (oa : Nat → Int32) (cl : Nat → Int32) (hon : on ≤ 3000) (hop : op ≤ 100) (htp : tp ≤ 40000) (hwn : wn ≤ 2100) (hth : ∀ c : Nat, c < op → RfV od on (B 62 c)) (hscp : ∀ c : Nat, c < op → ∃ s : Nat, s ≤ 30 ∧ B 63 c = nI s ∧ ∀ v : Nat, v < s → ¬ B 67 (32 * c + v) = 0 → RfV od on (B 66 (32 * c + v))) (hstk : ∀ k : Nat, k < tp → ¬ B 69 k = 0 → RfV od on (B 68 k)) (hwt : ∀ k : Nat, k < wn → ¬ B 72 k = 0 → RfV od on (B 71 k)) (hob : ∀ o : Nat, o < 3000 → Lvd od on o → ObR od on (B 55) (B 56) (B 57) oa cl (B 75) (B 76) (B 77) o) (hHS : HS (B 57) (B 55) od ido oa on idn fl rmm) : PM l G pX0 yX12_sweep cX12_sweep 6 none ({ frames := 4, cells := 0, slots := 0, locals := 103 }) [.ref h0] (mW G h0 a (upd (upd (upd (upd (upd (upd F 98 (nI fl)) 102 (nI op)) 111 (nI tp)) 115 (nI wn)) 128 (nI on)) 130 (nI idn)) (updA (updA (updA (updA (updA (updA B 58 oa) 59 sn) 60 cl) 61 td) 73 od) 74 ido)) (fun (v : Option Value) (u : Nat × Nat × Nat × Nat × Nat × (Nat → Int32) × (Nat → Int32) × (Nat → Int32) × (Nat → Int32) × (Nat → Int32) × (Nat → Int32)) => v = none ∧ (HS (B 57) (B 55) u.2.2.2.2.2.1 u.2.2.2.2.2.2.1 u.2.2.2.2.2.2.2.1 u.1 u.2.1 u.2.2.1 rmm) ∧ (u.2.2.1 ≤ fl) ∧ (u.2.2.2.1 = smF (B 57) u.2.2.2.2.2.1 u.1) ∧ (∀ o : Nat, o < 3000 → (Lvd u.2.2.2.2.2.1 u.1 o ↔ Lvd od on o ∧ ¬ u.2.2.2.2.2.2.2.2.2.1 o = 0)) ∧ (∀ o : Nat, o < 3000 → Lvd u.2.2.2.2.2.1 u.1 o → ∀ i q p p1 : Nat, B 57 o = nI q → oa o = nI p → u.2.2.2.2.2.2.2.1 o = nI p1 → i < q → q ≤ 3000 → p ≤ 3000 → p1 ≤ 3000 → u.2.2.2.2.2.2.2.2.1 (p1 + i) = cl (p + i)) ∧ (∀ c : Nat, c < op → RfS u.2.2.2.2.2.2.2.2.2.1 (B 62 c)) ∧ (∀ c s v : Nat, c < op → B 63 c = nI s → s ≤ 30 → v < s → ¬ B 67 (32 * c + v) = 0 → RfS u.2.2.2.2.2.2.2.2.2.1 (B 66 (32 * c + v))) ∧ (∀ k : Nat, k < tp → ¬ B 69 k = 0 → RfS u.2.2.2.2.2.2.2.2.2.1 (B 68 k)) ∧ (∀ k : Nat, k < wn → ¬ B 72 k = 0 → RfS u.2.2.2.2.2.2.2.2.2.1 (B 71 k)) ∧ (∀ o : Nat, o < 3000 → Lvd od on o → ¬ u.2.2.2.2.2.2.2.2.2.1 o = 0 → ∀ v : Int32, (Chd (B 55) (B 56) (B 57) oa cl (B 75) (B 76) (B 77)) o v → RfS u.2.2.2.2.2.2.2.2.2.1 v)) (fun u => (mW G h0 a (upd (upd (upd (upd (upd (upd (upd (upd F 97 (nI u.2.2.2.1)) 98 (nI u.2.2.1)) 101 (nI u.2.2.2.2.1)) 102 (nI op)) 111 (nI tp)) 115 (nI wn)) 128 (nI u.1)) 130 (nI u.2.1)) (updA (updA (updA (updA (updA (updA B 58 u.2.2.2.2.2.2.2.1) 59 u.2.2.2.2.2.2.2.2.2.1) 60 u.2.2.2.2.2.2.2.2.1) 61 u.2.2.2.2.2.2.2.2.2.2) 73 u.2.2.2.2.2.1) 74 u.2.2.2.2.2.2.1))) := by
  intro sz
  refine Met.ofW (cc := cX12_sweep) (maxL := 6) (ret := none) (by decide) rfl ?_
  intro p e s m args below meth c s₁ B9 hml hv
  obtain ⟨rfl, hsz, hP, hD0, hE, hX⟩ := hv
  have hx := B9.exec
  have hb := B9.bytes
  have hr := B9.returns
  have hts := atoms_spec (ws := Cond.code yX12_sweep cX12_sweep 6 none :: pw) B9.pre
  have hq : ∀ w ∈ pw, w.before _ s = true := fun w h => hts w (List.mem_cons_of_mem _ h)
  have hown : s.vm.findClass RX12 = some m.cls := findClass_of_methodNamed B9.named
  have hlocks := B9.notSynchronized
  subst hsz
  have hD := hD0.self (sz := s.heap.size)
  have hA : ∀ q : Nat, s.heap.size ≤ q → va_A (mW G h0 a (upd (upd (upd (upd (upd (upd F 98 (nI fl)) 102 (nI op)) 111 (nI tp)) 115 (nI wn)) 128 (nI on)) 130 (nI idn)) (updA (updA (updA (updA (updA (updA B 58 oa) 59 sn) 60 cl) 61 td) 73 od) 74 ido)) s.heap.size q := fun q h => Or.inr h
  have hP : va_P G.1 pCl (mW G h0 a (upd (upd (upd (upd (upd (upd F 98 (nI fl)) 102 (nI op)) 111 (nI tp)) 115 (nI wn)) 128 (nI on)) 130 (nI idn)) (updA (updA (updA (updA (updA (updA B 58 oa) 59 sn) 60 cl) 61 td) 73 od) 74 ido)) s.heap := hP
  generalize va_A (mW G h0 a (upd (upd (upd (upd (upd (upd F 98 (nI fl)) 102 (nI op)) 111 (nI tp)) 115 (nI wn)) 128 (nI on)) 130 (nI idn)) (updA (updA (updA (updA (updA (updA B 58 oa) 59 sn) 60 cl) 61 td) 73 od) 74 ido)) s.heap.size = A at hD hE hA ⊢
  have hS : va_S A s.heap s.heap [] := va_S.rf
  have hl := lv_entry ([.ref h0]) (n := 6) (Nat.le_of_ble_eq_true rfl)
  rw [lg_entry_eq]
  generalize (lg_sl ([.ref h0]) ++ List.replicate (6 - (lg_sl ([.ref h0])).length) Slot.unset).toArray = ls at hl ⊢
  have hl : lv_has ls 6 [(0, .ref h0)] := hl
  have hon3 : on + idn = 3000 ∧ fl ≤ rmm ∧ rmm ≤ 3000 := ⟨hHS.2.2.2.2.1, hHS.2.2.2.2.2.2.1, hHS.2.2.2.2.2.2.2⟩
  refine lv_aload_n hx hb dX12_sweep_0 rfl (lv_at hl 0 rfl) ?_
  have hP : va_P G.1 pCl (mW G h0 a (upd (upd (upd (upd (upd (upd (upd (upd (upd (upd F 98 (nI fl)) 102 (nI op)) 111 (nI tp)) 115 (nI wn)) 128 (nI on)) 130 (nI idn)) 102 (nI op)) 111 (nI tp)) 115 (nI wn)) 128 (nI on)) (updA (updA (updA (updA (updA (updA (updA (updA B 58 oa) 59 sn) 60 cl) 61 td) 73 od) 74 ido) 59 sn) 61 td)) _ := mW_to (F := F) (l1 := [(98, (nI fl)), (102, (nI op)), (111, (nI tp)), (115, (nI wn)), (128, (nI on)), (130, (nI idn))]) (l2 := [(98, (nI fl)), (102, (nI op)), (111, (nI tp)), (115, (nI wn)), (128, (nI on)), (130, (nI idn)), (102, (nI op)), (111, (nI tp)), (115, (nI wn)), (128, (nI on))]) (V := [(nI fl), (nI op), (nI tp), (nI wn), (nI on), (nI idn), (nI fl), (nI op), (nI tp), (nI wn), (nI on), (nI idn), (nI op), (nI tp), (nI wn), (nI on)]) rfl rfl (show (updA (updA (updA (updA (updA (updA B 58 oa) 59 sn) 60 cl) 61 td) 73 od) 74 ido) = (updA (updA (updA (updA (updA (updA (updA (updA B 58 oa) 59 sn) 60 cl) 61 td) 73 od) 74 ido) 59 sn) 61 td) from updsA_eq2 (F := B) (l1 := [(58, oa), (59, sn), (60, cl), (61, td), (73, od), (74, ido)]) (l2 := [(58, oa), (59, sn), (60, cl), (61, td), (73, od), (74, ido), (59, sn), (61, td)]) (V := [oa, sn, cl, td, od, ido, oa, sn, cl, td, od, ido, sn, td]) rfl rfl) hP
  have hD : va_D A (mW G h0 a (upd (upd (upd (upd (upd (upd (upd (upd (upd (upd F 98 (nI fl)) 102 (nI op)) 111 (nI tp)) 115 (nI wn)) 128 (nI on)) 130 (nI idn)) 102 (nI op)) 111 (nI tp)) 115 (nI wn)) 128 (nI on)) (updA (updA (updA (updA (updA (updA (updA (updA B 58 oa) 59 sn) 60 cl) 61 td) 73 od) 74 ido) 59 sn) 61 td)) := mW_D hD
  refine pc_V0 (G := G) (As := []) (rest := []) hx hb hml hown hq hE hX pX0_al hP hD hS hA hl.1 (R_findReachable l G h0 a (upd (upd (upd (upd (upd (upd F 98 (nI fl)) 102 (nI op)) 111 (nI tp)) 115 (nI wn)) 128 (nI on)) 130 (nI idn)) (updA (updA (updA (updA (updA (updA B 58 oa) 59 sn) 60 cl) 61 td) 73 od) 74 ido) on op tp wn sn td (by omega) (by omega) (by omega) (by omega) (fun k h => by obtain ⟨o, q, z1, z2, _⟩ := hHS.1 k h; exact ⟨o, z1, z2⟩) hth hscp hstk hwt hob) (gV pw_1979 pw_1980 pw_1981 pw_1523 pw_1974) hV_X12_findReachable 0 9 rfl rfl rfl rfl (Nat.le_of_ble_eq_true rfl) dX12_sweep_1 ⟨Nat.le_of_ble_eq_true rfl, Nat.le_of_ble_eq_true rfl⟩ ⟨Nat.le_of_ble_eq_true rfl, Nat.le_of_ble_eq_true rfl⟩ (fun v3 u1 H locs hw2 hP hD hS => ?_)
  obtain ⟨tn4, sn5, td6⟩ := u1
  obtain ⟨hw2, h7, h8, h9, h10, h11⟩ := hw2
  replace h7 : ∀ c : Nat, c < op → RfS sn5 ((B 62) c) := h7
  replace h8 : ∀ c s v : Nat, c < op → (B 63) c = nI s → s ≤ 30 → v < s → ¬ (B 67) (32 * c + v) = 0 → RfS sn5 ((B 66) (32 * c + v)) := h8
  replace h9 : ∀ k : Nat, k < tp → ¬ (B 69) k = 0 → RfS sn5 ((B 68) k) := h9
  replace h10 : ∀ k : Nat, k < wn → ¬ (B 72) k = 0 → RfS sn5 ((B 71) k) := h10
  replace h11 : ∀ o : Nat, o < 3000 → Lvd (od) on o → ¬ sn5 o = 0 → ∀ v : Int32, (Chd ((B 55)) ((B 56)) ((B 57)) (oa) (cl) ((B 75)) ((B 76)) ((B 77))) o v → RfS sn5 v := h11
  obtain rfl : v3 = none := hw2
  have hP : va_P G.1 pCl (mW G h0 a (upd (upd (upd (upd (upd (upd (upd F 98 (nI fl)) 101 (nI tn4)) 102 (nI op)) 111 (nI tp)) 115 (nI wn)) 128 (nI on)) 130 (nI idn)) (updA (updA (updA (updA (updA (updA B 58 oa) 59 sn5) 60 cl) 61 td6) 73 od) 74 ido)) _ := mW_to (F := F) (l1 := [(98, (nI fl)), (102, (nI op)), (111, (nI tp)), (115, (nI wn)), (128, (nI on)), (130, (nI idn)), (101, (nI tn4)), (102, (nI op)), (111, (nI tp)), (115, (nI wn)), (128, (nI on))]) (l2 := [(98, (nI fl)), (101, (nI tn4)), (102, (nI op)), (111, (nI tp)), (115, (nI wn)), (128, (nI on)), (130, (nI idn))]) (V := [(nI fl), (nI op), (nI tp), (nI wn), (nI on), (nI idn), (nI tn4), (nI op), (nI tp), (nI wn), (nI on), (nI fl), (nI tn4), (nI op), (nI tp), (nI wn), (nI on), (nI idn)]) rfl rfl (show (updA (updA (updA (updA (updA (updA (updA (updA B 58 oa) 59 sn) 60 cl) 61 td) 73 od) 74 ido) 59 sn5) 61 td6) = (updA (updA (updA (updA (updA (updA B 58 oa) 59 sn5) 60 cl) 61 td6) 73 od) 74 ido) from updsA_eq2 (F := B) (l1 := [(58, oa), (59, sn), (60, cl), (61, td), (73, od), (74, ido), (59, sn5), (61, td6)]) (l2 := [(58, oa), (59, sn5), (60, cl), (61, td6), (73, od), (74, ido)]) (V := [oa, sn5, cl, td6, od, ido, sn5, td6, oa, sn5, cl, td6, od, ido]) rfl rfl) hP
  have hD : va_D A (mW G h0 a (upd (upd (upd (upd (upd (upd (upd F 98 (nI fl)) 101 (nI tn4)) 102 (nI op)) 111 (nI tp)) 115 (nI wn)) 128 (nI on)) 130 (nI idn)) (updA (updA (updA (updA (updA (updA B 58 oa) 59 sn5) 60 cl) 61 td6) 73 od) 74 ido)) := mW_D hD
  refine W.widen (k := 0) (n := 0) (Nat.le_of_ble_eq_true rfl) (Nat.le_of_ble_eq_true rfl) ?_
  refine W.eq (g2 := F0 m 4 ls []) rfl ?_
  refine lv_aload_n hx hb dX12_sweep_4 rfl (lv_at hl 0 rfl) ?_
  refine lv_iconst (v := 0) hx hb dX12_sweep_5 (by decide) ?_
  refine r_put (v := 0) (ty := .int) hx hb hown hq hE hP hD hS 98 719 tFX12_98 (by decide) pw_1976 (by decide) rfl rfl (ms_98 a _ _) dX12_sweep_6 (fun H locs hP hD hS => ?_)
  refine lv_aload_n hx hb dX12_sweep_9 rfl (lv_at hl 0 rfl) ?_
  refine lv_iconst (v := 0) hx hb dX12_sweep_10 (by decide) ?_
  refine r_put (v := 0) (ty := .int) hx hb hown hq hE hP hD hS 97 722 tFX12_97 (by decide) pw_1977 (by decide) rfl rfl (ms_97 a _ _) dX12_sweep_11 (fun H locs hP hD hS => ?_)
  refine lv_iconst (v := 0) hx hb dX12_sweep_14 (by decide) ?_
  refine lv_istore_n (lv' := [(1, .int 0), (0, .ref h0)]) hx hb dX12_sweep_15 rfl hl (by decide) rfl (fun ls hl => ?_)
  refine lv_iconst (v := 0) hx hb dX12_sweep_16 (by decide) ?_
  refine lv_istore_n (lv' := [(2, .int 0), (1, .int 0), (0, .ref h0)]) hx hb dX12_sweep_17 rfl hl (by decide) rfl (fun ls hl => ?_)
  have loop_o : ∀ (n_o : Nat) (kq2 : Nat) (l2 : Nat) (idn2 : Nat) (ct2 : Nat) (ff2 : Nat) (od2 : Nat → Int32) (id2 : Nat → Int32) (oa2 : Nat → Int32) (cl2 : Nat → Int32) (H : Heap) (locs : List Loc) (ls : Array Slot), kq2 ≤ on → on + 1 ≤ kq2 + n_o → (l2 ≤ kq2 ∧ idn2 + l2 = idn + kq2 ∧ ct2 ≤ 3000 ∧ ff2 ≤ 6000 + 6000 * kq2) → (Sw sn5 (B 57) (B 55) od ido oa cl on idn kq2 l2 od2 id2 oa2 cl2 idn2 ct2 ff2) → va_P G.1 pCl (mW G h0 a (upd (upd (upd (upd (upd (upd (upd (upd F 97 (nI ct2)) 98 (nI ff2)) 101 (nI tn4)) 102 (nI op)) 111 (nI tp)) 115 (nI wn)) 128 (nI on)) 130 (nI idn2)) (updA (updA (updA (updA (updA (updA B 58 oa2) 59 sn5) 60 cl2) 61 td6) 73 od2) 74 id2)) H → va_D A (mW G h0 a (upd (upd (upd (upd (upd (upd (upd (upd F 97 (nI ct2)) 98 (nI ff2)) 101 (nI tn4)) 102 (nI op)) 111 (nI tp)) 115 (nI wn)) 128 (nI on)) 130 (nI idn2)) (updA (updA (updA (updA (updA (updA B 58 oa2) 59 sn5) 60 cl2) 61 td6) 73 od2) 74 id2)) → va_S A s.heap H locs → lv_has ls 6 [(2, .int (nI kq2)), (1, .int (nI l2)), (0, .ref h0)] → W p l e (headSpec (Cond.code yX12_sweep cX12_sweep 6 none :: pw) ({ frames := 4, cells := 0, slots := 0, locals := 103 } : Room)).room s m ([.ref h0] : List Value).toArray below meth c H locs 0 0 (MQ below (pQ G A (fun (v : Option Value) (u : Nat × Nat × Nat × Nat × Nat × (Nat → Int32) × (Nat → Int32) × (Nat → Int32) × (Nat → Int32) × (Nat → Int32) × (Nat → Int32)) => v = none ∧ (HS (B 57) (B 55) u.2.2.2.2.2.1 u.2.2.2.2.2.2.1 u.2.2.2.2.2.2.2.1 u.1 u.2.1 u.2.2.1 rmm) ∧ (u.2.2.1 ≤ fl) ∧ (u.2.2.2.1 = smF (B 57) u.2.2.2.2.2.1 u.1) ∧ (∀ o : Nat, o < 3000 → (Lvd u.2.2.2.2.2.1 u.1 o ↔ Lvd od on o ∧ ¬ u.2.2.2.2.2.2.2.2.2.1 o = 0)) ∧ (∀ o : Nat, o < 3000 → Lvd u.2.2.2.2.2.1 u.1 o → ∀ i q p p1 : Nat, B 57 o = nI q → oa o = nI p → u.2.2.2.2.2.2.2.1 o = nI p1 → i < q → q ≤ 3000 → p ≤ 3000 → p1 ≤ 3000 → u.2.2.2.2.2.2.2.2.1 (p1 + i) = cl (p + i)) ∧ (∀ c : Nat, c < op → RfS u.2.2.2.2.2.2.2.2.2.1 (B 62 c)) ∧ (∀ c s v : Nat, c < op → B 63 c = nI s → s ≤ 30 → v < s → ¬ B 67 (32 * c + v) = 0 → RfS u.2.2.2.2.2.2.2.2.2.1 (B 66 (32 * c + v))) ∧ (∀ k : Nat, k < tp → ¬ B 69 k = 0 → RfS u.2.2.2.2.2.2.2.2.2.1 (B 68 k)) ∧ (∀ k : Nat, k < wn → ¬ B 72 k = 0 → RfS u.2.2.2.2.2.2.2.2.2.1 (B 71 k)) ∧ (∀ o : Nat, o < 3000 → Lvd od on o → ¬ u.2.2.2.2.2.2.2.2.2.1 o = 0 → ∀ v : Int32, (Chd (B 55) (B 56) (B 57) oa cl (B 75) (B 76) (B 77)) o v → RfS u.2.2.2.2.2.2.2.2.2.1 v)) (fun u => (mW G h0 a (upd (upd (upd (upd (upd (upd (upd (upd F 97 (nI u.2.2.2.1)) 98 (nI u.2.2.1)) 101 (nI u.2.2.2.2.1)) 102 (nI op)) 111 (nI tp)) 115 (nI wn)) 128 (nI u.1)) 130 (nI u.2.1)) (updA (updA (updA (updA (updA (updA B 58 u.2.2.2.2.2.2.2.1) 59 u.2.2.2.2.2.2.2.2.2.1) 60 u.2.2.2.2.2.2.2.2.1) 61 u.2.2.2.2.2.2.2.2.2.2) 73 u.2.2.2.2.2.1) 74 u.2.2.2.2.2.2.1)))) ([.ref h0] : List Value).toArray s ({ frames := 4, cells := 0, slots := 0, locals := 103 } : Room).cells ({ frames := 4, cells := 0, slots := 0, locals := 103 } : Room).slots A) (F0 m 18 ls []) := by
    intro n_o
    induction n_o with
    | zero => intro kq2 l2 idn2 ct2 ff2 od2 id2 oa2 cl2 H locs ls hk_o hn_o; omega
    | succ n_o ih_o =>
      intro kq2 l2 idn2 ct2 ff2 od2 id2 oa2 cl2 H locs ls hk_o hn_o hn2 hsw hP hD hS hl
      refine lv_iload_n hx hb dX12_sweep_18 rfl (lv_at hl 0 rfl) ?_
      refine lv_aload_n hx hb dX12_sweep_19 rfl (lv_at hl 2 rfl) ?_
      refine r_get (v := .int (nI on)) hx hb hown hq hE hP 128 704 tFX12_128 (by decide) pw_1968 rfl dX12_sweep_20 ?_
      refine lv_icmp_ge (tgt := 162) hx hb dX12_sweep_23 (by decide) (fun c12 => ?_) (fun c12 => ?_)
      · have n13 : on ≤ kq2 := (nI_leI (a := on) (b := kq2) (by omega) (by omega)).mp c12
        refine lv_aload_n hx hb dX12_sweep_162 rfl (lv_at hl 2 rfl) ?_
        refine lv_iload_n hx hb dX12_sweep_163 rfl (lv_at hl 1 rfl) ?_
        refine r_put (v := (nI l2)) (ty := .int) hx hb hown hq hE hP hD hS 128 704 tFX12_128 (by decide) pw_1968 (by decide) rfl rfl (ms_128 a _ _) dX12_sweep_164 (fun H locs hP hD hS => ?_)
        have hke : kq2 = on := by omega
        rw [hke] at hsw
        obtain ⟨hd1, hd2, hd3, hd4⟩ := Sw.done hHS hsw
        have hz14 : HS (B 57) (B 55) od2 id2 oa2 l2 idn2 ff2 rmm := hd1
        have hz15 : ff2 ≤ fl := hd2
        have hz16 : ct2 = smF (B 57) od2 l2 := hsw.2.2.2.2.2.1.1
        have hz17 : ∀ o : Nat, o < 3000 → (Lvd od2 l2 o ↔ Lvd od on o ∧ ¬ sn5 o = 0) := hd3
        have hz18 : ∀ o : Nat, o < 3000 → Lvd od2 l2 o → ∀ i q p p1 : Nat, B 57 o = nI q → oa o = nI p → oa2 o = nI p1 → i < q → q ≤ 3000 → p ≤ 3000 → p1 ≤ 3000 → cl2 (p1 + i) = cl (p + i) := hd4
        have hz19 : ∀ c : Nat, c < op → RfS sn5 (B 62 c) := h7
        have hz20 : ∀ c s v : Nat, c < op → B 63 c = nI s → s ≤ 30 → v < s → ¬ B 67 (32 * c + v) = 0 → RfS sn5 (B 66 (32 * c + v)) := h8
        have hz21 : ∀ k : Nat, k < tp → ¬ B 69 k = 0 → RfS sn5 (B 68 k) := h9
        have hz22 : ∀ k : Nat, k < wn → ¬ B 72 k = 0 → RfS sn5 (B 71 k) := h10
        have hz23 : ∀ o : Nat, o < 3000 → Lvd od on o → ¬ sn5 o = 0 → ∀ v : Int32, (Chd (B 55) (B 56) (B 57) oa cl (B 75) (B 76) (B 77)) o v → RfS sn5 v := h11
        have hP : va_P G.1 pCl (mW G h0 a (upd (upd (upd (upd (upd (upd (upd (upd F 97 (nI ct2)) 98 (nI ff2)) 101 (nI tn4)) 102 (nI op)) 111 (nI tp)) 115 (nI wn)) 128 (nI l2)) 130 (nI idn2)) (updA (updA (updA (updA (updA (updA B 58 oa2) 59 sn5) 60 cl2) 61 td6) 73 od2) 74 id2)) _ := mW_to (F := F) (l1 := [(97, (nI ct2)), (98, (nI ff2)), (101, (nI tn4)), (102, (nI op)), (111, (nI tp)), (115, (nI wn)), (128, (nI on)), (130, (nI idn2)), (128, (nI l2))]) (l2 := [(97, (nI ct2)), (98, (nI ff2)), (101, (nI tn4)), (102, (nI op)), (111, (nI tp)), (115, (nI wn)), (128, (nI l2)), (130, (nI idn2))]) (V := [(nI ct2), (nI ff2), (nI tn4), (nI op), (nI tp), (nI wn), (nI l2), (nI idn2), (nI l2), (nI ct2), (nI ff2), (nI tn4), (nI op), (nI tp), (nI wn), (nI l2), (nI idn2)]) rfl rfl rfl hP
        have hD : va_D A (mW G h0 a (upd (upd (upd (upd (upd (upd (upd (upd F 97 (nI ct2)) 98 (nI ff2)) 101 (nI tn4)) 102 (nI op)) 111 (nI tp)) 115 (nI wn)) 128 (nI l2)) 130 (nI idn2)) (updA (updA (updA (updA (updA (updA B 58 oa2) 59 sn5) 60 cl2) 61 td6) 73 od2) 74 id2)) := mW_D hD
        exact W.vret hx hb hr (fun t9 ht9 hW9 => ⟨⟨_, (l2, idn2, ff2, ct2, tn4, od2, id2, oa2, cl2, sn5, td6), rfl, ⟨rfl, hz14, hz15, hz16, hz17, hz18, hz19, hz20, hz21, hz22, hz23⟩, by rw [ht9]; exact hP, hD⟩, hS.F ht9⟩) hS.2.2 dX12_sweep_167
      · have n24 : ¬ (on ≤ kq2) := fun h9 => c12 ((nI_leI (a := on) (b := kq2) (by omega) (by omega)).mpr h9)
        refine lv_aload_n hx hb dX12_sweep_26 rfl (lv_at hl 2 rfl) ?_
        refine r_get (v := .ref (a 73)) hx hb hown hq hE hP 127 237 tFX12_127 (by decide) pw_1507 rfl dX12_sweep_27 ?_
        refine lv_iload_n hx hb dX12_sweep_30 rfl (lv_at hl 0 rfl) ?_
        refine r_ldi (f := od2) (j := kq2) hx hb hE hP 73 (ma_73 G a _) rfl (by omega) (by decide) dX12_sweep_31 ?_
        obtain ⟨o25, q26, h27, e28, e29, h30, e31⟩ := hHS.1 kq2 (by omega)
        refine lv_topi (fun x32 e33 => ?_)
        obtain rfl : x32 = nI o25 := e33.trans ((hsw.2.1 kq2 (Nat.le_refl _)).trans e28)
        refine lv_istore_n (lv' := [(3, .int (nI o25)), (2, .int (nI kq2)), (1, .int (nI l2)), (0, .ref h0)]) hx hb dX12_sweep_32 rfl hl (by decide) rfl (fun ls hl => ?_)
        refine lv_aload_n hx hb dX12_sweep_33 rfl (lv_at hl 3 rfl) ?_
        refine r_get (v := .ref (a 59)) hx hb hown hq hE hP 95 190 tFX12_95 (by decide) pw_1491 rfl dX12_sweep_34 ?_
        refine lv_iload_n hx hb dX12_sweep_37 rfl (lv_at hl 0 rfl) ?_
        refine r_ldz (f := sn5) (j := o25) hx hb hE hP 59 (ma_59 G a _) rfl (by omega) (by decide) dX12_sweep_38 ?_
        refine lv_if_ne (tgt := 65) hx hb dX12_sweep_39 (by decide) (fun c34 => ?_) (fun c34 => ?_)
        · obtain ⟨ps35, e36⟩ : ∃ z : Nat, z = smF (B 57) od kq2 := ⟨_, rfl⟩
          have h37 : ps35 + q26 ≤ 3000 := by rw [e36]; exact HS.sm hHS (by omega) e28 h27 e29 h30
          have h38 : ct2 ≤ ps35 := by rw [e36]; exact hsw.2.2.2.2.2.1.2.2.1
          refine lv_aload_n hx hb dX12_sweep_65 rfl (lv_at hl 3 rfl) ?_
          refine r_get (v := .ref (a 73)) hx hb hown hq hE hP 127 237 tFX12_127 (by decide) pw_1507 rfl dX12_sweep_66 ?_
          refine lv_iload_n hx hb dX12_sweep_69 rfl (lv_at hl 2 rfl) ?_
          refine lv_iload_n hx hb dX12_sweep_70 rfl (lv_at hl 0 rfl) ?_
          refine r_sti (f := od2) (j := l2) hx hb hE hP hD hS 73 (ma_73 G a _) rfl (mas_73 G a _) (by omega) (by decide) dX12_sweep_71 (fun H locs hP hD hS => ?_)
          refine lv_iinc (v := (nI (l2 + 1))) (lv' := [(1, .int (nI (l2 + 1))), (3, .int (nI o25)), (2, .int (nI kq2)), (0, .ref h0)]) hx hb dX12_sweep_72 hl (k := 2) rfl (nI_1 l2) (by decide) rfl (fun ls hl => ?_)
          refine lv_aload_n hx hb dX12_sweep_75 rfl (lv_at hl 3 rfl) ?_
          refine r_get (v := .ref (a 58)) hx hb hown hq hE hP 94 187 tFX12_94 (by decide) pw_1490 rfl dX12_sweep_76 ?_
          refine lv_iload_n hx hb dX12_sweep_79 rfl (lv_at hl 1 rfl) ?_
          refine r_ldi (f := oa2) (j := o25) hx hb hE hP 58 (ma_58 G a _) rfl (by omega) (by decide) dX12_sweep_80 ?_
          refine lv_topi (fun x39 e40 => ?_)
          obtain rfl : x39 = nI ps35 := e40.trans ((hsw.2.2.2.2.2.2.2.1 o25 kq2 h27 (Nat.le_refl _) (by omega) e28).trans (e31.trans (by rw [e36])))
          refine lv_istore (lv' := [(4, .int (nI ps35)), (1, .int (nI (l2 + 1))), (3, .int (nI o25)), (2, .int (nI kq2)), (0, .ref h0)]) hx hb dX12_sweep_81 hl (by decide) rfl (fun ls hl => ?_)
          refine lv_aload_n hx hb dX12_sweep_83 rfl (lv_at hl 4 rfl) ?_
          refine r_get (v := .ref (a 58)) hx hb hown hq hE hP 94 187 tFX12_94 (by decide) pw_1490 rfl dX12_sweep_84 ?_
          refine lv_iload_n hx hb dX12_sweep_87 rfl (lv_at hl 2 rfl) ?_
          refine lv_aload_n hx hb dX12_sweep_88 rfl (lv_at hl 4 rfl) ?_
          refine r_get (v := .int (nI ct2)) hx hb hown hq hE hP 97 722 tFX12_97 (by decide) pw_1977 rfl dX12_sweep_89 ?_
          refine r_sti (f := oa2) (j := o25) hx hb hE hP hD hS 58 (ma_58 G a _) rfl (mas_58 G a _) (by omega) (by decide) dX12_sweep_92 (fun H locs hP hD hS => ?_)
          refine lv_iconst (v := 0) hx hb dX12_sweep_93 (by decide) ?_
          refine lv_istore (lv' := [(5, .int 0), (4, .int (nI ps35)), (1, .int (nI (l2 + 1))), (3, .int (nI o25)), (2, .int (nI kq2)), (0, .ref h0)]) hx hb dX12_sweep_94 hl (by decide) rfl (fun ls hl => ?_)
          have loop_i : ∀ (n_i : Nat) (iq3 : Nat) (cl3 : Nat → Int32) (H : Heap) (locs : List Loc) (ls : Array Slot), iq3 ≤ q26 → q26 + 1 ≤ iq3 + n_i → (Cpy cl cl2 cl3 ct2 ps35 iq3) → va_P G.1 pCl (mW G h0 a (upd (upd (upd (upd (upd (upd (upd (upd F 97 (nI (ct2 + iq3))) 98 (nI ff2)) 101 (nI tn4)) 102 (nI op)) 111 (nI tp)) 115 (nI wn)) 128 (nI on)) 130 (nI idn2)) (updA (updA (updA (updA (updA (updA B 58 (upd oa2 o25 (nI ct2))) 59 sn5) 60 cl3) 61 td6) 73 (upd od2 l2 (nI o25))) 74 id2)) H → va_D A (mW G h0 a (upd (upd (upd (upd (upd (upd (upd (upd F 97 (nI (ct2 + iq3))) 98 (nI ff2)) 101 (nI tn4)) 102 (nI op)) 111 (nI tp)) 115 (nI wn)) 128 (nI on)) 130 (nI idn2)) (updA (updA (updA (updA (updA (updA B 58 (upd oa2 o25 (nI ct2))) 59 sn5) 60 cl3) 61 td6) 73 (upd od2 l2 (nI o25))) 74 id2)) → va_S A s.heap H locs → lv_has ls 6 [(5, .int (nI iq3)), (4, .int (nI ps35)), (3, .int (nI o25)), (2, .int (nI kq2)), (1, .int (nI (l2 + 1))), (0, .ref h0)] → W p l e (headSpec (Cond.code yX12_sweep cX12_sweep 6 none :: pw) ({ frames := 4, cells := 0, slots := 0, locals := 103 } : Room)).room s m ([.ref h0] : List Value).toArray below meth c H locs 0 0 (MQ below (pQ G A (fun (v : Option Value) (u : Nat × Nat × Nat × Nat × Nat × (Nat → Int32) × (Nat → Int32) × (Nat → Int32) × (Nat → Int32) × (Nat → Int32) × (Nat → Int32)) => v = none ∧ (HS (B 57) (B 55) u.2.2.2.2.2.1 u.2.2.2.2.2.2.1 u.2.2.2.2.2.2.2.1 u.1 u.2.1 u.2.2.1 rmm) ∧ (u.2.2.1 ≤ fl) ∧ (u.2.2.2.1 = smF (B 57) u.2.2.2.2.2.1 u.1) ∧ (∀ o : Nat, o < 3000 → (Lvd u.2.2.2.2.2.1 u.1 o ↔ Lvd od on o ∧ ¬ u.2.2.2.2.2.2.2.2.2.1 o = 0)) ∧ (∀ o : Nat, o < 3000 → Lvd u.2.2.2.2.2.1 u.1 o → ∀ i q p p1 : Nat, B 57 o = nI q → oa o = nI p → u.2.2.2.2.2.2.2.1 o = nI p1 → i < q → q ≤ 3000 → p ≤ 3000 → p1 ≤ 3000 → u.2.2.2.2.2.2.2.2.1 (p1 + i) = cl (p + i)) ∧ (∀ c : Nat, c < op → RfS u.2.2.2.2.2.2.2.2.2.1 (B 62 c)) ∧ (∀ c s v : Nat, c < op → B 63 c = nI s → s ≤ 30 → v < s → ¬ B 67 (32 * c + v) = 0 → RfS u.2.2.2.2.2.2.2.2.2.1 (B 66 (32 * c + v))) ∧ (∀ k : Nat, k < tp → ¬ B 69 k = 0 → RfS u.2.2.2.2.2.2.2.2.2.1 (B 68 k)) ∧ (∀ k : Nat, k < wn → ¬ B 72 k = 0 → RfS u.2.2.2.2.2.2.2.2.2.1 (B 71 k)) ∧ (∀ o : Nat, o < 3000 → Lvd od on o → ¬ u.2.2.2.2.2.2.2.2.2.1 o = 0 → ∀ v : Int32, (Chd (B 55) (B 56) (B 57) oa cl (B 75) (B 76) (B 77)) o v → RfS u.2.2.2.2.2.2.2.2.2.1 v)) (fun u => (mW G h0 a (upd (upd (upd (upd (upd (upd (upd (upd F 97 (nI u.2.2.2.1)) 98 (nI u.2.2.1)) 101 (nI u.2.2.2.2.1)) 102 (nI op)) 111 (nI tp)) 115 (nI wn)) 128 (nI u.1)) 130 (nI u.2.1)) (updA (updA (updA (updA (updA (updA B 58 u.2.2.2.2.2.2.2.1) 59 u.2.2.2.2.2.2.2.2.2.1) 60 u.2.2.2.2.2.2.2.2.1) 61 u.2.2.2.2.2.2.2.2.2.2) 73 u.2.2.2.2.2.1) 74 u.2.2.2.2.2.2.1)))) ([.ref h0] : List Value).toArray s ({ frames := 4, cells := 0, slots := 0, locals := 103 } : Room).cells ({ frames := 4, cells := 0, slots := 0, locals := 103 } : Room).slots A) (F0 m 96 ls []) := by
            intro n_i
            induction n_i with
            | zero => intro iq3 cl3 H locs ls hk_i hn_i; omega
            | succ n_i ih_i =>
              intro iq3 cl3 H locs ls hk_i hn_i hc3 hP hD hS hl
              refine lv_iload hx hb dX12_sweep_96 (lv_at hl 0 rfl) ?_
              refine lv_aload_n hx hb dX12_sweep_98 rfl (lv_at hl 5 rfl) ?_
              refine r_get (v := .ref (a 57)) hx hb hown hq hE hP 93 184 tFX12_93 (by decide) pw_1489 rfl dX12_sweep_99 ?_
              refine lv_iload_n hx hb dX12_sweep_102 rfl (lv_at hl 2 rfl) ?_
              refine r_ldi (f := (B 57)) (j := o25) hx hb hE hP 57 (ma_57 G a _) rfl (by omega) (by decide) dX12_sweep_103 ?_
              refine lv_topi (fun x41 e42 => ?_)
              obtain rfl : x41 = nI q26 := e42.trans e29
              refine lv_icmp_ge (tgt := 142) hx hb dX12_sweep_104 (by decide) (fun c43 => ?_) (fun c43 => ?_)
              · have n44 : q26 ≤ iq3 := (nI_leI (a := q26) (b := iq3) (by omega) (by omega)).mp c43
                obtain rfl : q26 = iq3 := (by omega)
                have hP : va_P G.1 pCl (mW G h0 a (upd (upd (upd (upd (upd (upd (upd (upd F 97 (nI (ct2 + q26))) 98 (nI ff2)) 101 (nI tn4)) 102 (nI op)) 111 (nI tp)) 115 (nI wn)) 128 (nI on)) 130 (nI idn2)) (updA (updA (updA (updA (updA (updA B 58 (upd oa2 o25 (nI ct2))) 59 sn5) 60 cl3) 61 td6) 73 (upd od2 l2 (nI o25))) 74 id2)) _ := hP
                have hD : va_D A (mW G h0 a (upd (upd (upd (upd (upd (upd (upd (upd F 97 (nI (ct2 + q26))) 98 (nI ff2)) 101 (nI tn4)) 102 (nI op)) 111 (nI tp)) 115 (nI wn)) 128 (nI on)) 130 (nI idn2)) (updA (updA (updA (updA (updA (updA B 58 (upd oa2 o25 (nI ct2))) 59 sn5) 60 cl3) 61 td6) 73 (upd od2 l2 (nI o25))) 74 id2)) := mW_D hD
                have hl : lv_has ls 6 [(5, .int (nI q26)), (4, .int (nI ps35)), (3, .int (nI o25)), (2, .int (nI kq2)), (1, .int (nI (l2 + 1))), (0, .ref h0)] := hl
                refine lv_aload_n hx hb dX12_sweep_142 rfl (lv_at hl 5 rfl) ?_
                refine lv_dup hx hb dX12_sweep_143 rfl ?_
                refine r_get (v := .int (nI ff2)) hx hb hown hq hE hP 98 719 tFX12_98 (by decide) pw_1976 rfl dX12_sweep_144 ?_
                refine lv_aload_n hx hb dX12_sweep_147 rfl (lv_at hl 5 rfl) ?_
                refine lv_iload_n hx hb dX12_sweep_148 rfl (lv_at hl 2 rfl) ?_
                have hP : va_P G.1 pCl (mW G h0 a (upd (upd (upd (upd (upd (upd (upd (upd F 97 (nI (ct2 + q26))) 98 (nI ff2)) 101 (nI tn4)) 102 (nI op)) 111 (nI tp)) 115 (nI wn)) 128 (nI on)) 130 (nI idn2)) (updA (updA (updA (updA (updA (updA (updA (updA B 58 (upd oa2 o25 (nI ct2))) 59 sn5) 60 cl3) 61 td6) 73 (upd od2 l2 (nI o25))) 74 id2) 55 (B 55)) 57 (B 57))) _ := mW_to (F := F) (l1 := [(97, (nI (ct2 + q26))), (98, (nI ff2)), (101, (nI tn4)), (102, (nI op)), (111, (nI tp)), (115, (nI wn)), (128, (nI on)), (130, (nI idn2))]) (l2 := [(97, (nI (ct2 + q26))), (98, (nI ff2)), (101, (nI tn4)), (102, (nI op)), (111, (nI tp)), (115, (nI wn)), (128, (nI on)), (130, (nI idn2))]) (V := [(nI (ct2 + q26)), (nI ff2), (nI tn4), (nI op), (nI tp), (nI wn), (nI on), (nI idn2), (nI (ct2 + q26)), (nI ff2), (nI tn4), (nI op), (nI tp), (nI wn), (nI on), (nI idn2)]) rfl rfl (show (updA (updA (updA (updA (updA (updA B 58 (upd oa2 o25 (nI ct2))) 59 sn5) 60 cl3) 61 td6) 73 (upd od2 l2 (nI o25))) 74 id2) = (updA (updA (updA (updA (updA (updA (updA (updA B 58 (upd oa2 o25 (nI ct2))) 59 sn5) 60 cl3) 61 td6) 73 (upd od2 l2 (nI o25))) 74 id2) 55 (B 55)) 57 (B 57)) from updsA_eq2 (F := B) (l1 := [(58, (upd oa2 o25 (nI ct2))), (59, sn5), (60, cl3), (61, td6), (73, (upd od2 l2 (nI o25))), (74, id2)]) (l2 := [(58, (upd oa2 o25 (nI ct2))), (59, sn5), (60, cl3), (61, td6), (73, (upd od2 l2 (nI o25))), (74, id2), (55, (B 55)), (57, (B 57))]) (V := [(upd oa2 o25 (nI ct2)), sn5, cl3, td6, (upd od2 l2 (nI o25)), id2, (upd oa2 o25 (nI ct2)), sn5, cl3, td6, (upd od2 l2 (nI o25)), id2, (B 55), (B 57)]) rfl rfl) hP
                have hD : va_D A (mW G h0 a (upd (upd (upd (upd (upd (upd (upd (upd F 97 (nI (ct2 + q26))) 98 (nI ff2)) 101 (nI tn4)) 102 (nI op)) 111 (nI tp)) 115 (nI wn)) 128 (nI on)) 130 (nI idn2)) (updA (updA (updA (updA (updA (updA (updA (updA B 58 (upd oa2 o25 (nI ct2))) 59 sn5) 60 cl3) 61 td6) 73 (upd od2 l2 (nI o25))) 74 id2) 55 (B 55)) 57 (B 57))) := mW_D hD
                refine pc_V0 (G := G) (As := [.int (nI o25)]) (rest := [.int (nI ff2), .ref h0]) hx hb hml hown hq hE hX pX0_al hP hD hS hA hl.1 (R_cellsOf l G h0 a (upd (upd (upd (upd (upd (upd (upd (upd F 97 (nI (ct2 + q26))) 98 (nI ff2)) 101 (nI tn4)) 102 (nI op)) 111 (nI tp)) 115 (nI wn)) 128 (nI on)) 130 (nI idn2)) (updA (updA (updA (updA (updA (updA B 58 (upd oa2 o25 (nI ct2))) 59 sn5) 60 cl3) 61 td6) 73 (upd od2 l2 (nI o25))) 74 id2) o25 q26 (B 57) (B 55) (by omega) e29 (by omega)) (gV pw_1982 pw_1983 pw_1984 pw_1523 pw_1975) hV_X12_cellsOf 0 9 rfl rfl rfl rfl (Nat.le_of_ble_eq_true rfl) dX12_sweep_149 ⟨Nat.le_of_ble_eq_true rfl, Nat.le_of_ble_eq_true rfl⟩ ⟨Nat.le_of_ble_eq_true rfl, Nat.le_of_ble_eq_true rfl⟩ (fun v47 u45 H locs hw46 hP hD hS => ?_)
                obtain ⟨r48, rfl⟩ : ∃ z, z = u45 := ⟨_, rfl⟩
                obtain ⟨hw46, h49, h50, h51, h52⟩ := hw46
                replace h49 : If ((B 55) o25 = -1) (r48 = q26 + 2) := h49
                replace h50 : If (¬ (B 55) o25 = -1) (r48 = q26 + 1) := h50
                replace h51 : q26 + 1 ≤ r48 := h51
                replace h52 : r48 ≤ q26 + 2 := h52
                obtain rfl : v47 = some (.int (nI r48)) := hw46
                have hP : va_P G.1 pCl (mW G h0 a (upd (upd (upd (upd (upd (upd (upd (upd F 97 (nI (ct2 + q26))) 98 (nI ff2)) 101 (nI tn4)) 102 (nI op)) 111 (nI tp)) 115 (nI wn)) 128 (nI on)) 130 (nI idn2)) (updA (updA (updA (updA (updA (updA B 58 (upd oa2 o25 (nI ct2))) 59 sn5) 60 cl3) 61 td6) 73 (upd od2 l2 (nI o25))) 74 id2)) _ := mW_to (F := F) (l1 := [(97, (nI (ct2 + q26))), (98, (nI ff2)), (101, (nI tn4)), (102, (nI op)), (111, (nI tp)), (115, (nI wn)), (128, (nI on)), (130, (nI idn2))]) (l2 := [(97, (nI (ct2 + q26))), (98, (nI ff2)), (101, (nI tn4)), (102, (nI op)), (111, (nI tp)), (115, (nI wn)), (128, (nI on)), (130, (nI idn2))]) (V := [(nI (ct2 + q26)), (nI ff2), (nI tn4), (nI op), (nI tp), (nI wn), (nI on), (nI idn2), (nI (ct2 + q26)), (nI ff2), (nI tn4), (nI op), (nI tp), (nI wn), (nI on), (nI idn2)]) rfl rfl (show (updA (updA (updA (updA (updA (updA (updA (updA B 58 (upd oa2 o25 (nI ct2))) 59 sn5) 60 cl3) 61 td6) 73 (upd od2 l2 (nI o25))) 74 id2) 55 (B 55)) 57 (B 57)) = (updA (updA (updA (updA (updA (updA B 58 (upd oa2 o25 (nI ct2))) 59 sn5) 60 cl3) 61 td6) 73 (upd od2 l2 (nI o25))) 74 id2) from updsA_eq2 (F := B) (l1 := [(58, (upd oa2 o25 (nI ct2))), (59, sn5), (60, cl3), (61, td6), (73, (upd od2 l2 (nI o25))), (74, id2), (55, (B 55)), (57, (B 57))]) (l2 := [(58, (upd oa2 o25 (nI ct2))), (59, sn5), (60, cl3), (61, td6), (73, (upd od2 l2 (nI o25))), (74, id2)]) (V := [(upd oa2 o25 (nI ct2)), sn5, cl3, td6, (upd od2 l2 (nI o25)), id2, (B 55), (B 57), (upd oa2 o25 (nI ct2)), sn5, cl3, td6, (upd od2 l2 (nI o25)), id2]) rfl rfl) hP
                have hD : va_D A (mW G h0 a (upd (upd (upd (upd (upd (upd (upd (upd F 97 (nI (ct2 + q26))) 98 (nI ff2)) 101 (nI tn4)) 102 (nI op)) 111 (nI tp)) 115 (nI wn)) 128 (nI on)) 130 (nI idn2)) (updA (updA (updA (updA (updA (updA B 58 (upd oa2 o25 (nI ct2))) 59 sn5) 60 cl3) 61 td6) 73 (upd od2 l2 (nI o25))) 74 id2)) := mW_D hD
                refine W.widen (k := 0) (n := 0) (Nat.le_of_ble_eq_true rfl) (Nat.le_of_ble_eq_true rfl) ?_
                refine W.eq (g2 := F0 m 152 ls [.int (nI r48), .int (nI ff2), .ref h0]) rfl ?_
                have hr53 : r48 = q26 + (if B 55 o25 = -1 then 2 else 1) := by by_cases z : B 55 o25 = -1; rw [if_pos z]; exact h49 z; rw [if_neg z]; exact h50 z
                refine lv_iadd hx hb dX12_sweep_152 ?_
                refine lv_topi (fun x54 e55 => ?_)
                obtain rfl : x54 = nI (ff2 + r48) := e55.trans (nI_add (ff2) (r48))
                refine r_put (v := (nI (ff2 + r48))) (ty := .int) hx hb hown hq hE hP hD hS 98 719 tFX12_98 (by decide) pw_1976 (by decide) rfl rfl (ms_98 a _ _) dX12_sweep_153 (fun H locs hP hD hS => ?_)
                refine lv_iinc (v := (nI (kq2 + 1))) (lv' := [(2, .int (nI (kq2 + 1))), (5, .int (nI q26)), (4, .int (nI ps35)), (3, .int (nI o25)), (1, .int (nI (l2 + 1))), (0, .ref h0)]) hx hb dX12_sweep_156 hl (k := 3) rfl (nI_1 kq2) (by decide) rfl (fun ls hl => ?_)
                refine lv_goto (tgt := 18) hx hb dX12_sweep_159 (by decide) ?_
                have hP : va_P G.1 pCl (mW G h0 a (upd (upd (upd (upd (upd (upd (upd (upd F 97 (nI (ct2 + q26))) 98 (nI (ff2 + r48))) 101 (nI tn4)) 102 (nI op)) 111 (nI tp)) 115 (nI wn)) 128 (nI on)) 130 (nI idn2)) (updA (updA (updA (updA (updA (updA B 58 (upd oa2 o25 (nI ct2))) 59 sn5) 60 cl3) 61 td6) 73 (upd od2 l2 (nI o25))) 74 id2)) _ := mW_to (F := F) (l1 := [(97, (nI (ct2 + q26))), (98, (nI ff2)), (101, (nI tn4)), (102, (nI op)), (111, (nI tp)), (115, (nI wn)), (128, (nI on)), (130, (nI idn2)), (98, (nI (ff2 + r48)))]) (l2 := [(97, (nI (ct2 + q26))), (98, (nI (ff2 + r48))), (101, (nI tn4)), (102, (nI op)), (111, (nI tp)), (115, (nI wn)), (128, (nI on)), (130, (nI idn2))]) (V := [(nI (ct2 + q26)), (nI (ff2 + r48)), (nI tn4), (nI op), (nI tp), (nI wn), (nI on), (nI idn2), (nI (ff2 + r48)), (nI (ct2 + q26)), (nI (ff2 + r48)), (nI tn4), (nI op), (nI tp), (nI wn), (nI on), (nI idn2)]) rfl rfl rfl hP
                have hD : va_D A (mW G h0 a (upd (upd (upd (upd (upd (upd (upd (upd F 97 (nI (ct2 + q26))) 98 (nI (ff2 + r48))) 101 (nI tn4)) 102 (nI op)) 111 (nI tp)) 115 (nI wn)) 128 (nI on)) 130 (nI idn2)) (updA (updA (updA (updA (updA (updA B 58 (upd oa2 o25 (nI ct2))) 59 sn5) 60 cl3) 61 td6) 73 (upd od2 l2 (nI o25))) 74 id2)) := mW_D hD
                exact ih_o (kq2 + 1) (l2 + 1) idn2 (ct2 + q26) (ff2 + r48) (upd od2 l2 (nI o25)) id2 (upd oa2 o25 (nI ct2)) cl3 _ _ _ (by omega) (by omega) (by omega) (by rw [hr53]; exact Sw.keep hHS hsw (by omega) e28 h27 c34 e29 h30 (by obtain ⟨z1, z2, z3⟩ := hc3; rw [e36] at z1; exact ⟨z1, z2, z3⟩)) hP hD hS (lv_sub hl [0, 4, 5] rfl)
              · have n56 : ¬ (q26 ≤ iq3) := fun h9 => c43 ((nI_leI (a := q26) (b := iq3) (by omega) (by omega)).mpr h9)
                refine lv_aload_n hx hb dX12_sweep_107 rfl (lv_at hl 5 rfl) ?_
                refine r_get (v := .ref (a 60)) hx hb hown hq hE hP 96 193 tFX12_96 (by decide) pw_1492 rfl dX12_sweep_108 ?_
                refine lv_aload_n hx hb dX12_sweep_111 rfl (lv_at hl 5 rfl) ?_
                refine r_get (v := .int (nI (ct2 + iq3))) hx hb hown hq hE hP 97 722 tFX12_97 (by decide) pw_1977 rfl dX12_sweep_112 ?_
                refine lv_aload_n hx hb dX12_sweep_115 rfl (lv_at hl 5 rfl) ?_
                refine r_get (v := .ref (a 60)) hx hb hown hq hE hP 96 193 tFX12_96 (by decide) pw_1492 rfl dX12_sweep_116 ?_
                refine lv_iload hx hb dX12_sweep_119 (lv_at hl 1 rfl) ?_
                refine lv_iload hx hb dX12_sweep_121 (lv_at hl 0 rfl) ?_
                refine lv_iadd hx hb dX12_sweep_123 ?_
                refine lv_topi (fun x57 e58 => ?_)
                obtain rfl : x57 = nI (ps35 + iq3) := e58.trans (nI_add (ps35) (iq3))
                refine r_ldi (f := cl3) (j := (ps35 + iq3)) hx hb hE hP 60 (ma_60 G a _) rfl (by omega) (by decide) dX12_sweep_124 ?_
                refine r_sti (f := cl3) (j := (ct2 + iq3)) hx hb hE hP hD hS 60 (ma_60 G a _) rfl (mas_60 G a _) (by omega) (by decide) dX12_sweep_125 (fun H locs hP hD hS => ?_)
                refine lv_aload_n hx hb dX12_sweep_126 rfl (lv_at hl 5 rfl) ?_
                refine lv_dup hx hb dX12_sweep_127 rfl ?_
                refine r_get (v := .int (nI (ct2 + iq3))) hx hb hown hq hE hP 97 722 tFX12_97 (by decide) pw_1977 rfl dX12_sweep_128 ?_
                refine lv_iconst (v := 1) hx hb dX12_sweep_131 (by decide) ?_
                refine lv_iadd hx hb dX12_sweep_132 ?_
                refine lv_topi (fun x59 e60 => ?_)
                obtain rfl : x59 = nI ((ct2 + iq3) + 1) := e60.trans (nI_add ((ct2 + iq3)) (1))
                refine r_put (v := (nI ((ct2 + iq3) + 1))) (ty := .int) hx hb hown hq hE hP hD hS 97 722 tFX12_97 (by decide) pw_1977 (by decide) rfl rfl (ms_97 a _ _) dX12_sweep_133 (fun H locs hP hD hS => ?_)
                refine lv_iinc (v := (nI (iq3 + 1))) (lv' := [(5, .int (nI (iq3 + 1))), (4, .int (nI ps35)), (3, .int (nI o25)), (2, .int (nI kq2)), (1, .int (nI (l2 + 1))), (0, .ref h0)]) hx hb dX12_sweep_136 hl (k := 0) rfl (nI_1 iq3) (by decide) rfl (fun ls hl => ?_)
                refine lv_goto (tgt := 96) hx hb dX12_sweep_139 (by decide) ?_
                have hP : va_P G.1 pCl (mW G h0 a (upd (upd (upd (upd (upd (upd (upd (upd F 97 (nI (ct2 + (iq3 + 1)))) 98 (nI ff2)) 101 (nI tn4)) 102 (nI op)) 111 (nI tp)) 115 (nI wn)) 128 (nI on)) 130 (nI idn2)) (updA (updA (updA (updA (updA (updA B 58 (upd oa2 o25 (nI ct2))) 59 sn5) 60 (upd cl3 (ct2 + iq3) (cl3 (ps35 + iq3)))) 61 td6) 73 (upd od2 l2 (nI o25))) 74 id2)) _ := mW_to (F := F) (l1 := [(97, (nI (ct2 + iq3))), (98, (nI ff2)), (101, (nI tn4)), (102, (nI op)), (111, (nI tp)), (115, (nI wn)), (128, (nI on)), (130, (nI idn2)), (97, (nI ((ct2 + iq3) + 1)))]) (l2 := [(97, (nI (ct2 + (iq3 + 1)))), (98, (nI ff2)), (101, (nI tn4)), (102, (nI op)), (111, (nI tp)), (115, (nI wn)), (128, (nI on)), (130, (nI idn2))]) (V := [(nI (ct2 + (iq3 + 1))), (nI ff2), (nI tn4), (nI op), (nI tp), (nI wn), (nI on), (nI idn2), (nI (ct2 + (iq3 + 1))), (nI (ct2 + (iq3 + 1))), (nI ff2), (nI tn4), (nI op), (nI tp), (nI wn), (nI on), (nI idn2)]) rfl rfl (show (updA (updA (updA (updA (updA (updA (updA B 58 (upd oa2 o25 (nI ct2))) 59 sn5) 60 cl3) 61 td6) 73 (upd od2 l2 (nI o25))) 74 id2) 60 (upd cl3 (ct2 + iq3) (cl3 (ps35 + iq3)))) = (updA (updA (updA (updA (updA (updA B 58 (upd oa2 o25 (nI ct2))) 59 sn5) 60 (upd cl3 (ct2 + iq3) (cl3 (ps35 + iq3)))) 61 td6) 73 (upd od2 l2 (nI o25))) 74 id2) from updsA_eq2 (F := B) (l1 := [(58, (upd oa2 o25 (nI ct2))), (59, sn5), (60, cl3), (61, td6), (73, (upd od2 l2 (nI o25))), (74, id2), (60, (upd cl3 (ct2 + iq3) (cl3 (ps35 + iq3))))]) (l2 := [(58, (upd oa2 o25 (nI ct2))), (59, sn5), (60, (upd cl3 (ct2 + iq3) (cl3 (ps35 + iq3)))), (61, td6), (73, (upd od2 l2 (nI o25))), (74, id2)]) (V := [(upd oa2 o25 (nI ct2)), sn5, (upd cl3 (ct2 + iq3) (cl3 (ps35 + iq3))), td6, (upd od2 l2 (nI o25)), id2, (upd cl3 (ct2 + iq3) (cl3 (ps35 + iq3))), (upd oa2 o25 (nI ct2)), sn5, (upd cl3 (ct2 + iq3) (cl3 (ps35 + iq3))), td6, (upd od2 l2 (nI o25)), id2]) rfl rfl) hP
                have hD : va_D A (mW G h0 a (upd (upd (upd (upd (upd (upd (upd (upd F 97 (nI (ct2 + (iq3 + 1)))) 98 (nI ff2)) 101 (nI tn4)) 102 (nI op)) 111 (nI tp)) 115 (nI wn)) 128 (nI on)) 130 (nI idn2)) (updA (updA (updA (updA (updA (updA B 58 (upd oa2 o25 (nI ct2))) 59 sn5) 60 (upd cl3 (ct2 + iq3) (cl3 (ps35 + iq3)))) 61 td6) 73 (upd od2 l2 (nI o25))) 74 id2)) := mW_D hD
                exact ih_i (iq3 + 1) (upd cl3 (ct2 + iq3) (cl3 (ps35 + iq3))) _ _ _ (by omega) (by omega) (Cpy.succ hc3 (by omega) (fun a h => hsw.2.2.2.2.2.2.1 a (by omega))) hP hD hS (lv_sub hl [0, 1, 2, 3, 4, 5] rfl)
          have hP : va_P G.1 pCl (mW G h0 a (upd (upd (upd (upd (upd (upd (upd (upd F 97 (nI (ct2 + 0))) 98 (nI ff2)) 101 (nI tn4)) 102 (nI op)) 111 (nI tp)) 115 (nI wn)) 128 (nI on)) 130 (nI idn2)) (updA (updA (updA (updA (updA (updA B 58 (upd oa2 o25 (nI ct2))) 59 sn5) 60 cl2) 61 td6) 73 (upd od2 l2 (nI o25))) 74 id2)) _ := mW_to (F := F) (l1 := [(97, (nI ct2)), (98, (nI ff2)), (101, (nI tn4)), (102, (nI op)), (111, (nI tp)), (115, (nI wn)), (128, (nI on)), (130, (nI idn2))]) (l2 := [(97, (nI (ct2 + 0))), (98, (nI ff2)), (101, (nI tn4)), (102, (nI op)), (111, (nI tp)), (115, (nI wn)), (128, (nI on)), (130, (nI idn2))]) (V := [(nI (ct2 + 0)), (nI ff2), (nI tn4), (nI op), (nI tp), (nI wn), (nI on), (nI idn2), (nI (ct2 + 0)), (nI ff2), (nI tn4), (nI op), (nI tp), (nI wn), (nI on), (nI idn2)]) rfl rfl (show (updA (updA (updA (updA (updA (updA (updA (updA B 58 oa2) 59 sn5) 60 cl2) 61 td6) 73 od2) 74 id2) 73 (upd od2 l2 (nI o25))) 58 (upd oa2 o25 (nI ct2))) = (updA (updA (updA (updA (updA (updA B 58 (upd oa2 o25 (nI ct2))) 59 sn5) 60 cl2) 61 td6) 73 (upd od2 l2 (nI o25))) 74 id2) from updsA_eq2 (F := B) (l1 := [(58, oa2), (59, sn5), (60, cl2), (61, td6), (73, od2), (74, id2), (73, (upd od2 l2 (nI o25))), (58, (upd oa2 o25 (nI ct2)))]) (l2 := [(58, (upd oa2 o25 (nI ct2))), (59, sn5), (60, cl2), (61, td6), (73, (upd od2 l2 (nI o25))), (74, id2)]) (V := [(upd oa2 o25 (nI ct2)), sn5, cl2, td6, (upd od2 l2 (nI o25)), id2, (upd od2 l2 (nI o25)), (upd oa2 o25 (nI ct2)), (upd oa2 o25 (nI ct2)), sn5, cl2, td6, (upd od2 l2 (nI o25)), id2]) rfl rfl) hP
          have hD : va_D A (mW G h0 a (upd (upd (upd (upd (upd (upd (upd (upd F 97 (nI (ct2 + 0))) 98 (nI ff2)) 101 (nI tn4)) 102 (nI op)) 111 (nI tp)) 115 (nI wn)) 128 (nI on)) 130 (nI idn2)) (updA (updA (updA (updA (updA (updA B 58 (upd oa2 o25 (nI ct2))) 59 sn5) 60 cl2) 61 td6) 73 (upd od2 l2 (nI o25))) 74 id2)) := mW_D hD
          exact loop_i (q26 + 1) 0 cl2 _ _ _ (by omega) (by omega) Cpy.zero hP hD hS (lv_sub hl [0, 1, 3, 4, 2, 5] rfl)
        · refine lv_aload_n hx hb dX12_sweep_42 rfl (lv_at hl 3 rfl) ?_
          refine r_get (v := .ref (a 74)) hx hb hown hq hE hP 129 240 tFX12_129 (by decide) pw_1508 rfl dX12_sweep_43 ?_
          refine lv_aload_n hx hb dX12_sweep_46 rfl (lv_at hl 3 rfl) ?_
          refine r_get (v := .int (nI idn2)) hx hb hown hq hE hP 130 725 tFX12_130 (by decide) pw_1978 rfl dX12_sweep_47 ?_
          refine lv_iload_n hx hb dX12_sweep_50 rfl (lv_at hl 0 rfl) ?_
          refine r_sti (f := id2) (j := idn2) hx hb hE hP hD hS 74 (ma_74 G a _) rfl (mas_74 G a _) (by omega) (by decide) dX12_sweep_51 (fun H locs hP hD hS => ?_)
          refine lv_aload_n hx hb dX12_sweep_52 rfl (lv_at hl 3 rfl) ?_
          refine lv_dup hx hb dX12_sweep_53 rfl ?_
          refine r_get (v := .int (nI idn2)) hx hb hown hq hE hP 130 725 tFX12_130 (by decide) pw_1978 rfl dX12_sweep_54 ?_
          refine lv_iconst (v := 1) hx hb dX12_sweep_57 (by decide) ?_
          refine lv_iadd hx hb dX12_sweep_58 ?_
          refine lv_topi (fun x61 e62 => ?_)
          obtain rfl : x61 = nI (idn2 + 1) := e62.trans (nI_add (idn2) (1))
          refine r_put (v := (nI (idn2 + 1))) (ty := .int) hx hb hown hq hE hP hD hS 130 725 tFX12_130 (by decide) pw_1978 (by decide) rfl rfl (ms_130 a _ _) dX12_sweep_59 (fun H locs hP hD hS => ?_)
          refine lv_goto (tgt := 156) hx hb dX12_sweep_62 (by decide) ?_
          refine lv_iinc (v := (nI (kq2 + 1))) (lv' := [(2, .int (nI (kq2 + 1))), (3, .int (nI o25)), (1, .int (nI l2)), (0, .ref h0)]) hx hb dX12_sweep_156 hl (k := 1) rfl (nI_1 kq2) (by decide) rfl (fun ls hl => ?_)
          refine lv_goto (tgt := 18) hx hb dX12_sweep_159 (by decide) ?_
          have hP : va_P G.1 pCl (mW G h0 a (upd (upd (upd (upd (upd (upd (upd (upd F 97 (nI ct2)) 98 (nI ff2)) 101 (nI tn4)) 102 (nI op)) 111 (nI tp)) 115 (nI wn)) 128 (nI on)) 130 (nI (idn2 + 1))) (updA (updA (updA (updA (updA (updA B 58 oa2) 59 sn5) 60 cl2) 61 td6) 73 od2) 74 (upd id2 idn2 (nI o25)))) _ := mW_to (F := F) (l1 := [(97, (nI ct2)), (98, (nI ff2)), (101, (nI tn4)), (102, (nI op)), (111, (nI tp)), (115, (nI wn)), (128, (nI on)), (130, (nI idn2)), (130, (nI (idn2 + 1)))]) (l2 := [(97, (nI ct2)), (98, (nI ff2)), (101, (nI tn4)), (102, (nI op)), (111, (nI tp)), (115, (nI wn)), (128, (nI on)), (130, (nI (idn2 + 1)))]) (V := [(nI ct2), (nI ff2), (nI tn4), (nI op), (nI tp), (nI wn), (nI on), (nI (idn2 + 1)), (nI (idn2 + 1)), (nI ct2), (nI ff2), (nI tn4), (nI op), (nI tp), (nI wn), (nI on), (nI (idn2 + 1))]) rfl rfl (show (updA (updA (updA (updA (updA (updA (updA B 58 oa2) 59 sn5) 60 cl2) 61 td6) 73 od2) 74 id2) 74 (upd id2 idn2 (nI o25))) = (updA (updA (updA (updA (updA (updA B 58 oa2) 59 sn5) 60 cl2) 61 td6) 73 od2) 74 (upd id2 idn2 (nI o25))) from updsA_eq2 (F := B) (l1 := [(58, oa2), (59, sn5), (60, cl2), (61, td6), (73, od2), (74, id2), (74, (upd id2 idn2 (nI o25)))]) (l2 := [(58, oa2), (59, sn5), (60, cl2), (61, td6), (73, od2), (74, (upd id2 idn2 (nI o25)))]) (V := [oa2, sn5, cl2, td6, od2, (upd id2 idn2 (nI o25)), (upd id2 idn2 (nI o25)), oa2, sn5, cl2, td6, od2, (upd id2 idn2 (nI o25))]) rfl rfl) hP
          have hD : va_D A (mW G h0 a (upd (upd (upd (upd (upd (upd (upd (upd F 97 (nI ct2)) 98 (nI ff2)) 101 (nI tn4)) 102 (nI op)) 111 (nI tp)) 115 (nI wn)) 128 (nI on)) 130 (nI (idn2 + 1))) (updA (updA (updA (updA (updA (updA B 58 oa2) 59 sn5) 60 cl2) 61 td6) 73 od2) 74 (upd id2 idn2 (nI o25)))) := mW_D hD
          exact ih_o (kq2 + 1) l2 (idn2 + 1) ct2 ff2 od2 (upd id2 idn2 (nI o25)) oa2 cl2 _ _ _ (by omega) (by omega) (by omega) (Sw.drop hHS hsw (by omega) e28 h27 c34) hP hD hS (lv_sub hl [0, 2, 3] rfl)
  have hP : va_P G.1 pCl (mW G h0 a (upd (upd (upd (upd (upd (upd (upd (upd F 97 (nI 0)) 98 (nI 0)) 101 (nI tn4)) 102 (nI op)) 111 (nI tp)) 115 (nI wn)) 128 (nI on)) 130 (nI idn)) (updA (updA (updA (updA (updA (updA B 58 oa) 59 sn5) 60 cl) 61 td6) 73 od) 74 ido)) _ := mW_to (F := F) (l1 := [(98, (nI fl)), (101, (nI tn4)), (102, (nI op)), (111, (nI tp)), (115, (nI wn)), (128, (nI on)), (130, (nI idn)), (98, 0), (97, 0)]) (l2 := [(97, (nI 0)), (98, (nI 0)), (101, (nI tn4)), (102, (nI op)), (111, (nI tp)), (115, (nI wn)), (128, (nI on)), (130, (nI idn))]) (V := [(nI 0), (nI tn4), (nI op), (nI tp), (nI wn), (nI on), (nI idn), (nI 0), (nI 0), (nI 0), (nI 0), (nI tn4), (nI op), (nI tp), (nI wn), (nI on), (nI idn)]) rfl rfl rfl hP
  have hD : va_D A (mW G h0 a (upd (upd (upd (upd (upd (upd (upd (upd F 97 (nI 0)) 98 (nI 0)) 101 (nI tn4)) 102 (nI op)) 111 (nI tp)) 115 (nI wn)) 128 (nI on)) 130 (nI idn)) (updA (updA (updA (updA (updA (updA B 58 oa) 59 sn5) 60 cl) 61 td6) 73 od) 74 ido)) := mW_D hD
  exact loop_o (on + 1) 0 0 idn 0 0 od ido oa cl _ _ _ (by omega) (by omega) (by omega) (Sw.start hHS) hP hD hS (lv_sub hl [0, 1, 2] rfl)
