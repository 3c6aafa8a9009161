def upds (F : Nat → Int32) : List (Nat × Int32) → Nat → Int32
  | [] => F
  | q :: l => upds (upd F q.1 q.2) l
def lk1 : List (Nat × Int32) → Nat → Option Int32
  | [], _ => none
  | q :: l, j => (lk1 l j).or (cond (Nat.beq j q.1) (some q.2) none)
theorem upds_at : ∀ (l : List (Nat × Int32)) (F : Nat → Int32) (j : Nat), upds F l j = (lk1 l j).getD (F j)
  | [], _, _ => rfl
  | q :: l, F, j => by
    have h := upds_at l (upd F q.1 q.2) j
    refine h.trans ?_
    show (lk1 l j).getD (upd F q.1 q.2 j) = ((lk1 l j).or (cond (Nat.beq j q.1) (some q.2) none)).getD (F j)
    cases lk1 l j with
    | some w => rfl
    | none =>
      show upd F q.1 q.2 j = (cond (Nat.beq j q.1) (some q.2) none).getD (F j)
      cases hb : Nat.beq j q.1 with
      | true => exact if_pos (Nat.eq_of_beq_eq_true hb)
      | false => exact if_neg (Nat.ne_of_beq_eq_false hb)
theorem lk1_no : ∀ (l : List (Nat × Int32)) (j : Nat), j ∉ l.map Prod.fst → lk1 l j = none
  | [], _, _ => rfl
  | q :: l, j, h => by
    rw [List.map_cons, List.mem_cons] at h
    show (lk1 l j).or (cond (Nat.beq j q.1) (some q.2) none) = none
    rw [lk1_no l j (fun z => h (Or.inr z))]
    show cond (Nat.beq j q.1) (some q.2) none = none
    cases hb : Nat.beq j q.1 with
    | true => exact absurd (Or.inl (Nat.eq_of_beq_eq_true hb)) h
    | false => rfl
def lv1 (F : Nat → Int32) (l : List (Nat × Int32)) (j : Nat) : Int32 := (lk1 l j).getD (F j)
theorem upds_eq {F : Nat → Int32} {l1 l2 : List (Nat × Int32)} (h : (l1.map Prod.fst ++ l2.map Prod.fst).map (lv1 F l1) = (l1.map Prod.fst ++ l2.map Prod.fst).map (lv1 F l2)) : upds F l1 = upds F l2 := funext fun j => by
  rw [upds_at, upds_at]
  by_cases hj : j ∈ l1.map Prod.fst ++ l2.map Prod.fst
  · exact List.map_inj_left.mp h j hj
  · rw [List.mem_append] at hj
    rw [lk1_no l1 j (fun z => hj (Or.inl z)), lk1_no l2 j (fun z => hj (Or.inr z))]
def updsA (B : Nat → Nat → Int32) : List (Nat × (Nat → Int32)) → Nat → Nat → Int32
  | [] => B
  | q :: l => updsA (updA B q.1 q.2) l
def lk2 : List (Nat × (Nat → Int32)) → Nat → Option (Nat → Int32)
  | [], _ => none
  | q :: l, j => (lk2 l j).or (cond (Nat.beq j q.1) (some q.2) none)
theorem updsA_at : ∀ (l : List (Nat × (Nat → Int32))) (F : Nat → Nat → Int32) (j : Nat), updsA F l j = (lk2 l j).getD (F j)
  | [], _, _ => rfl
  | q :: l, F, j => by
    have h := updsA_at l (updA F q.1 q.2) j
    refine h.trans ?_
    show (lk2 l j).getD (updA F q.1 q.2 j) = ((lk2 l j).or (cond (Nat.beq j q.1) (some q.2) none)).getD (F j)
    cases lk2 l j with
    | some w => rfl
    | none =>
      show updA F q.1 q.2 j = (cond (Nat.beq j q.1) (some q.2) none).getD (F j)
      cases hb : Nat.beq j q.1 with
      | true => exact if_pos (Nat.eq_of_beq_eq_true hb)
      | false => exact if_neg (Nat.ne_of_beq_eq_false hb)
theorem lk2_no : ∀ (l : List (Nat × (Nat → Int32))) (j : Nat), j ∉ l.map Prod.fst → lk2 l j = none
  | [], _, _ => rfl
  | q :: l, j, h => by
    rw [List.map_cons, List.mem_cons] at h
    show (lk2 l j).or (cond (Nat.beq j q.1) (some q.2) none) = none
    rw [lk2_no l j (fun z => h (Or.inr z))]
    show cond (Nat.beq j q.1) (some q.2) none = none
    cases hb : Nat.beq j q.1 with
    | true => exact absurd (Or.inl (Nat.eq_of_beq_eq_true hb)) h
    | false => rfl
def lv2 (F : Nat → Nat → Int32) (l : List (Nat × (Nat → Int32))) (j : Nat) : Nat → Int32 := (lk2 l j).getD (F j)
theorem updsA_eq {F : Nat → Nat → Int32} {l1 l2 : List (Nat × (Nat → Int32))} (h : (l1.map Prod.fst ++ l2.map Prod.fst).map (lv2 F l1) = (l1.map Prod.fst ++ l2.map Prod.fst).map (lv2 F l2)) : updsA F l1 = updsA F l2 := funext fun j => by
  rw [updsA_at, updsA_at]
  by_cases hj : j ∈ l1.map Prod.fst ++ l2.map Prod.fst
  · exact List.map_inj_left.mp h j hj
  · rw [List.mem_append] at hj
    rw [lk2_no l1 j (fun z => hj (Or.inl z)), lk2_no l2 j (fun z => hj (Or.inr z))]
section MTO
variable {G : pT} {h0 : Nat} {a : Nat → Nat} {F F1 F2 : Nat → Int32} {B1 B2 : Nat → Nat → Int32} {l1 l2 : List (Nat × Int32)} {V : List Int32} {D : va_G} {cl : List vw_C} {H : Heap} {A : Nat → Prop} {w1 w2 : va_W}
theorem mW_to (e1 : (l1.map Prod.fst ++ l2.map Prod.fst).map (lv1 F l1) = V) (e2 : (l1.map Prod.fst ++ l2.map Prod.fst).map (lv1 F l2) = V) (eB : B1 = B2) (h : va_P D cl (mW G h0 a (upds F l1) B1) H) : va_P D cl (mW G h0 a (upds F l2) B2) H := by
  rw [← eB, ← upds_eq (e1.trans e2.symm)]; exact h
theorem updsA_eq2 {F : Nat → Nat → Int32} {l1 l2 : List (Nat × (Nat → Int32))} {V : List (Nat → Int32)} (h1 : (l1.map Prod.fst ++ l2.map Prod.fst).map (lv2 F l1) = V) (h2 : (l1.map Prod.fst ++ l2.map Prod.fst).map (lv2 F l2) = V) : updsA F l1 = updsA F l2 := updsA_eq (h1.trans h2.symm)
theorem va_D_adr (e : w1.map Prod.fst = w2.map Prod.fst) (h : va_D A w1) : va_D A w2 := by
  have key : ∀ (k : Nat) (q : Nat × va_E), w2[k]? = some q → ∃ p : Nat × va_E, w1[k]? = some p ∧ p.1 = q.1 := fun k q hk => by
    have z : (w1.map Prod.fst)[k]? = some q.1 := by rw [e, List.getElem?_map, hk]; rfl
    rw [List.getElem?_map] at z
    cases hw : w1[k]? with
    | none => rw [hw] at z; cases z
    | some p => rw [hw] at z; exact ⟨p, rfl, Option.some.inj z⟩
  refine ⟨fun i j p q hp hq e1 => ?_, fun k q hk => ?_⟩
  · obtain ⟨p1, a1, a2⟩ := key i p hp
    obtain ⟨q1, b1, b2⟩ := key j q hq
    exact h.1 i j p1 q1 a1 b1 (by rw [a2, b2]; exact e1)
  · obtain ⟨p1, a1, a2⟩ := key k q hk
    rw [← a2]; exact h.2 k p1 a1
set_option maxRecDepth 100000 in
theorem mW_D (h : va_D A (mW G h0 a F1 B1)) : va_D A (mW G h0 a F2 B2) := va_D_adr (w1 := mW G h0 a F1 B1) (show (mW G h0 a F1 B1).map Prod.fst = (mW G h0 a F2 B2).map Prod.fst from rfl) h
end MTO
