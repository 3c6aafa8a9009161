theorem updA_r {X : Nat → Nat → Int32} {r m j i : Nat} {v : Int32} (q : i ≠ m) : updA X r (upd (X r) m v) j i = X j i := st_ne (X := X) (r := r) (m := m) (v := v) (fun h => q h.2)
theorem updA_s {X Y : Nat → Nat → Int32} {r m j i : Nat} {f : Nat → Int32} {v : Int32} (h : Y j i = X j i) (e : f = X r) (q : i ≠ m) : updA Y r (upd f m v) j i = X j i := by
  unfold updA
  by_cases z : j = r
  · rw [if_pos z, z, e]; unfold upd; rw [if_neg q]
  · rw [if_neg z]; exact h
theorem NewN_ne {X : Nat → Nat → Int32} {m j i : Nat} {v0 v1 v2 v3 v4 v5 v6 v7 v8 v9 : Int32} (q : i ≠ m) : (updA (updA (updA (updA (updA (updA (updA (updA (updA (updA X 9 (upd (X 9) m v0)) 10 (upd (X 10) m v1)) 11 (upd (X 11) m v2)) 12 (upd (X 12) m v3)) 13 (upd (X 13) m v4)) 14 (upd (X 14) m v5)) 15 (upd (X 15) m v6)) 16 (upd (X 16) m v7)) 17 (upd (X 17) m v8)) 18 (upd (X 18) m v9)) j i = X j i :=
  updA_s (updA_s (updA_s (updA_s (updA_s (updA_s (updA_s (updA_s (updA_s (updA_s rfl rfl q) rfl q) rfl q) rfl q) rfl q) rfl q) rfl q) rfl q) rfl q) rfl q
theorem lcl_1 {k : Int32} (h : kcl 1 k = true) : lcl k = 1 := by
  unfold kcl at h
  rw [if_pos rfl] at h
  have w : k ≤ 23 := of_decide_eq_true (Bool.and_eq_true _ _ ▸ h).2
  unfold lcl
  rw [if_pos w]
theorem lcl_7 {k : Int32} (h : kcl 7 k = true) : lcl k = 2 := by
  unfold kcl at h
  rw [if_neg (by decide), if_neg (by decide), if_pos rfl] at h
  have w := Bool.and_eq_true _ _ ▸ h
  have w1 : (30 : Int32) ≤ k := of_decide_eq_true w.1
  have w2 : k ≤ 43 := of_decide_eq_true w.2
  unfold lcl
  have e1 : ¬ k ≤ 23 := fun q => absurd (Int32.le_trans w1 q) (by decide)
  have e2 : ¬ k = 44 := fun q => absurd (q ▸ w2) (by decide)
  rw [if_neg e1, if_neg e2]
def PRFlevel (l : Launch) (G : pT) (lv : Nat) : Prop := ∀ (h0 : Nat) (a : Nat → Nat) (F : Nat → Int32) (B : Nat → Nat → Int32) (at0 : Nat) (T : Nat) (fa : Nat) (K : Nat → Int32), (at0 ≤ T) → (T ≤ 5000) → (K T = 0 ∨ K T = 3) → (fa ≤ 100) → (0 < fa) → (lv ≤ 10) → PM l G pX0 yX12_level cX12_level 6 (some .int) ({ frames := (20 - lv), cells := 0, slots := 0, locals := (1000 - 50 * lv) }) [.ref h0, .int (nI lv)] (mW G h0 a (upd (upd F 15 (nI fa)) 64 (nI at0)) (updA B 2 K)) (fun (v : Option Value) (u : Unit) => v = some (.int 0)) (fun u => (mW G h0 a (upd (upd F 15 (nI fa)) 64 (nI at0)) (updA B 2 K)))
def Pchain (l : Launch) (G : pT) (n : Nat) : Prop := ∀ (h0 : Nat) (a : Nat → Nat) (F : Nat → Int32) (B : Nat → Nat → Int32) (at0 : Nat) (T : Nat) (ne : Nat) (nd : Nat) (wr : Nat) (lk : Nat) (K : Nat → Int32), (at0 ≤ T) → (T ≤ 5000) → (K T = 0 ∨ K T = 3) → (ne ≤ 20) → (nd ≤ 2 * at0) → (wr ≤ at0) → (lk ≤ 60) → (tkRow (B 19) wr T) → (21 ≤ n + ne) → PM l G pX0 yX12_chain cX12_chain 4 (some .int) ({ frames := (20 * n + 12), cells := 0, slots := 0, locals := (1000 * n + 40 * 12) }) [.ref h0] (mW G h0 a (upd (upd (upd (upd (upd (upd F 15 0) 27 (nI nd)) 31 (nI wr)) 64 (nI at0)) 65 (nI ne)) 66 (nI lk)) (updA B 2 K)) (fun (v : Option Value) (u : Nat × Nat × Int32 × Nat × Nat × Nat × Nat × (Nat → Nat → Int32)) => v = some (.int (nI u.2.2.2.2.2.2.1)) ∧ (at0 ≤ u.1) ∧ (u.1 ≤ T) ∧ (u.2.1 ≤ 100) ∧ (nd ≤ u.2.2.2.1) ∧ (u.2.2.2.1 + 2 * at0 ≤ nd + 2 * u.1 + 100000 * u.2.1) ∧ (u.2.2.2.1 + 2 * at0 ≤ nd + 2 * u.1 + 40 * (21 - ne)) ∧ (wr ≤ u.2.2.2.2.2.1) ∧ (u.2.2.2.2.2.1 + at0 ≤ wr + u.1) ∧ (lk ≤ u.2.2.2.2.1) ∧ (u.2.2.2.2.1 ≤ 60 + 100 * u.2.1) ∧ (at0 + 1 ≤ u.1 + u.2.1) ∧ (u.2.2.2.2.2.2.1 ≤ u.2.2.2.1) ∧ (Kp B u.2.2.2.2.2.2.2 u.2.2.2.2.2.1 T) ∧ (If (u.2.1 = 0) (Low B u.2.2.2.2.2.2.2 nd wr ∧ Frs K T u.2.2.2.2.2.1 u.2.2.2.2.2.2.2 nd u.2.2.2.1 20000 [(u.2.2.2.2.2.2.1, (210 + u.2.2.2.2.1 - (10 * ne + lk)))] ∧ kcl 1 (u.2.2.2.2.2.2.2 9 u.2.2.2.2.2.2.1) = true))) (fun u => (mW G h0 a (upd (upd (upd (upd (upd (upd (upd F 15 (nI u.2.1)) 16 u.2.2.1) 27 (nI u.2.2.2.1)) 31 (nI u.2.2.2.2.2.1)) 64 (nI u.1)) 65 (nI ne)) 66 (nI u.2.2.2.2.1)) (updA u.2.2.2.2.2.2.2 2 K)))
def Pfront (l : Launch) (G : pT) (n : Nat) : Prop := ∀ (h0 : Nat) (a : Nat → Nat) (F : Nat → Int32) (B : Nat → Nat → Int32) (at0 : Nat) (T : Nat) (ne : Nat) (nd : Nat) (wr : Nat) (lk : Nat) (K : Nat → Int32), (at0 ≤ T) → (T ≤ 5000) → (K T = 0 ∨ K T = 3) → (ne ≤ 20) → (nd ≤ 2 * at0) → (wr ≤ at0) → (lk ≤ 60) → (tkRow (B 19) wr T) → (21 ≤ n + ne) → PM l G pX0 yX12_front cX12_front 4 (some .int) ({ frames := (20 * n + 14), cells := 0, slots := 0, locals := (1000 * n + 40 * 14) }) [.ref h0] (mW G h0 a (upd (upd (upd (upd (upd (upd F 15 0) 27 (nI nd)) 31 (nI wr)) 64 (nI at0)) 65 (nI ne)) 66 (nI lk)) (updA B 2 K)) (fun (v : Option Value) (u : Nat × Nat × Int32 × Nat × Nat × Nat × Nat × (Nat → Nat → Int32)) => v = some (.int (nI u.2.2.2.2.2.2.1)) ∧ (at0 ≤ u.1) ∧ (u.1 ≤ T) ∧ (u.2.1 ≤ 100) ∧ (nd ≤ u.2.2.2.1) ∧ (u.2.2.2.1 + 2 * at0 ≤ nd + 2 * u.1 + 100000 * u.2.1) ∧ (u.2.2.2.1 + 2 * at0 ≤ nd + 2 * u.1 + 40 * (21 - ne)) ∧ (wr ≤ u.2.2.2.2.2.1) ∧ (u.2.2.2.2.2.1 + at0 ≤ wr + u.1) ∧ (lk ≤ u.2.2.2.2.1) ∧ (u.2.2.2.2.1 ≤ 60 + 100 * u.2.1) ∧ (at0 + 1 ≤ u.1 + u.2.1) ∧ (u.2.2.2.2.2.2.1 ≤ u.2.2.2.1) ∧ (Kp B u.2.2.2.2.2.2.2 u.2.2.2.2.2.1 T) ∧ (If (u.2.1 = 0) (Low B u.2.2.2.2.2.2.2 nd wr ∧ Frs K T u.2.2.2.2.2.1 u.2.2.2.2.2.2.2 nd u.2.2.2.1 20000 [(u.2.2.2.2.2.2.1, (210 + u.2.2.2.2.1 - (10 * ne + lk)))] ∧ kcl 1 (u.2.2.2.2.2.2.2 9 u.2.2.2.2.2.2.1) = true))) (fun u => (mW G h0 a (upd (upd (upd (upd (upd (upd (upd F 15 (nI u.2.1)) 16 u.2.2.1) 27 (nI u.2.2.2.1)) 31 (nI u.2.2.2.2.2.1)) 64 (nI u.1)) 65 (nI ne)) 66 (nI u.2.2.2.2.1)) (updA u.2.2.2.2.2.2.2 2 K)))
def Pchoice (l : Launch) (G : pT) (n : Nat) : Prop := ∀ (h0 : Nat) (a : Nat → Nat) (F : Nat → Int32) (B : Nat → Nat → Int32) (at0 : Nat) (T : Nat) (ne : Nat) (nd : Nat) (wr : Nat) (lk : Nat) (K : Nat → Int32), (at0 ≤ T) → (T ≤ 5000) → (K T = 0 ∨ K T = 3) → (ne ≤ 20) → (nd ≤ 2 * at0) → (wr ≤ at0) → (lk ≤ 60) → (tkRow (B 19) wr T) → (21 ≤ n + ne) → PM l G pX0 yX12_choice cX12_choice 4 (some .int) ({ frames := (20 * n + 27), cells := 0, slots := 0, locals := (1000 * n + 40 * 27) }) [.ref h0] (mW G h0 a (upd (upd (upd (upd (upd (upd F 15 0) 27 (nI nd)) 31 (nI wr)) 64 (nI at0)) 65 (nI ne)) 66 (nI lk)) (updA B 2 K)) (fun (v : Option Value) (u : Nat × Nat × Int32 × Nat × Nat × Nat × Nat × (Nat → Nat → Int32)) => v = some (.int (nI u.2.2.2.2.2.2.1)) ∧ (at0 ≤ u.1) ∧ (u.1 ≤ T) ∧ (u.2.1 ≤ 100) ∧ (nd ≤ u.2.2.2.1) ∧ (u.2.2.2.1 + 2 * at0 ≤ nd + 2 * u.1 + 100000 * u.2.1) ∧ (u.2.2.2.1 + 2 * at0 ≤ nd + 2 * u.1 + 40 * (21 - ne)) ∧ (wr ≤ u.2.2.2.2.2.1) ∧ (u.2.2.2.2.2.1 + at0 ≤ wr + u.1) ∧ (lk ≤ u.2.2.2.2.1) ∧ (u.2.2.2.2.1 ≤ 60 + 100 * u.2.1) ∧ (at0 + 1 ≤ u.1 + u.2.1) ∧ (u.2.2.2.2.2.2.1 ≤ u.2.2.2.1) ∧ (Kp B u.2.2.2.2.2.2.2 u.2.2.2.2.2.1 T) ∧ (If (u.2.1 = 0) (Low B u.2.2.2.2.2.2.2 nd wr ∧ Frs K T u.2.2.2.2.2.1 u.2.2.2.2.2.2.2 nd u.2.2.2.1 20000 [(u.2.2.2.2.2.2.1, (211 + u.2.2.2.2.1 - (10 * ne + lk)))] ∧ kcl 1 (u.2.2.2.2.2.2.2 9 u.2.2.2.2.2.2.1) = true))) (fun u => (mW G h0 a (upd (upd (upd (upd (upd (upd (upd F 15 (nI u.2.1)) 16 u.2.2.1) 27 (nI u.2.2.2.1)) 31 (nI u.2.2.2.2.2.1)) 64 (nI u.1)) 65 (nI ne)) 66 (nI u.2.2.2.2.1)) (updA u.2.2.2.2.2.2.2 2 K)))
def Poperand (l : Launch) (G : pT) (n : Nat) : Prop := ∀ (h0 : Nat) (a : Nat → Nat) (F : Nat → Int32) (B : Nat → Nat → Int32) (at0 : Nat) (T : Nat) (ne : Nat) (nd : Nat) (wr : Nat) (lk : Nat) (K : Nat → Int32), (at0 ≤ T) → (T ≤ 5000) → (K T = 0 ∨ K T = 3) → (ne ≤ 20) → (nd ≤ 2 * at0) → (wr ≤ at0) → (lk ≤ 60) → (tkRow (B 19) wr T) → (21 ≤ n + ne) → PM l G pX0 yX12_operand cX12_operand 5 (some .int) ({ frames := (20 * n + 10), cells := 0, slots := 0, locals := (1000 * n + 40 * 10) }) [.ref h0] (mW G h0 a (upd (upd (upd (upd (upd (upd F 15 0) 27 (nI nd)) 31 (nI wr)) 64 (nI at0)) 65 (nI ne)) 66 (nI lk)) (updA B 2 K)) (fun (v : Option Value) (u : Nat × Nat × Int32 × Nat × Nat × Nat × Nat × (Nat → Nat → Int32)) => v = some (.int (nI u.2.2.2.2.2.2.1)) ∧ (at0 ≤ u.1) ∧ (u.1 ≤ T) ∧ (u.2.1 ≤ 100) ∧ (nd ≤ u.2.2.2.1) ∧ (u.2.2.2.1 + 2 * at0 ≤ nd + 2 * u.1 + 100000 * u.2.1) ∧ (u.2.2.2.1 + 2 * at0 ≤ nd + 2 * u.1 + 40 * (21 - ne)) ∧ (wr ≤ u.2.2.2.2.2.1) ∧ (u.2.2.2.2.2.1 + at0 ≤ wr + u.1) ∧ (lk ≤ u.2.2.2.2.1) ∧ (u.2.2.2.2.1 ≤ 60 + 100 * u.2.1) ∧ (at0 + 1 ≤ u.1 + u.2.1) ∧ (u.2.2.2.2.2.2.1 ≤ u.2.2.2.1) ∧ (Kp B u.2.2.2.2.2.2.2 u.2.2.2.2.2.1 T) ∧ (If (u.2.1 = 0) (Low B u.2.2.2.2.2.2.2 nd wr ∧ Frs K T u.2.2.2.2.2.1 u.2.2.2.2.2.2.2 nd u.2.2.2.1 20000 [(u.2.2.2.2.2.2.1, (210 + u.2.2.2.2.1 - (10 * ne + lk)))] ∧ kcl 1 (u.2.2.2.2.2.2.2 9 u.2.2.2.2.2.2.1) = true))) (fun u => (mW G h0 a (upd (upd (upd (upd (upd (upd (upd F 15 (nI u.2.1)) 16 u.2.2.1) 27 (nI u.2.2.2.1)) 31 (nI u.2.2.2.2.2.1)) 64 (nI u.1)) 65 (nI ne)) 66 (nI u.2.2.2.2.1)) (updA u.2.2.2.2.2.2.2 2 K)))
def PnewHere (l : Launch) (G : pT) (n : Nat) : Prop := ∀ (h0 : Nat) (a : Nat → Nat) (F : Nat → Int32) (B : Nat → Nat → Int32) (at0 : Nat) (T : Nat) (ne : Nat) (nd : Nat) (wr : Nat) (lk : Nat) (K : Nat → Int32) (fi : Nat), (at0 ≤ T) → (T ≤ 5000) → (K T = 0 ∨ K T = 3) → (ne ≤ 20) → (nd ≤ 2 * at0) → (wr ≤ at0) → (lk ≤ 60) → (tkRow (B 19) wr T) → (21 ≤ n + ne) → (fi ≤ T) → PM l G pX0 yX12_newHere cX12_newHere 5 (some .int) ({ frames := (20 * n + 8), cells := 0, slots := 0, locals := (1000 * n + 40 * 8) }) [.ref h0, .int (nI fi)] (mW G h0 a (upd (upd (upd (upd (upd (upd F 15 0) 27 (nI nd)) 31 (nI wr)) 64 (nI at0)) 65 (nI ne)) 66 (nI lk)) (updA B 2 K)) (fun (v : Option Value) (u : Nat × Nat × Int32 × Nat × Nat × Nat × Nat × (Nat → Nat → Int32)) => v = some (.int (nI u.2.2.2.2.2.2.1)) ∧ (at0 ≤ u.1) ∧ (u.1 ≤ T) ∧ (u.2.1 ≤ 100) ∧ (nd ≤ u.2.2.2.1) ∧ (u.2.2.2.1 + 2 * at0 ≤ nd + 2 * u.1 + 100000 * u.2.1) ∧ (u.2.2.2.1 + 2 * at0 ≤ nd + 2 * u.1 + 40 * (21 - ne)) ∧ (wr ≤ u.2.2.2.2.2.1) ∧ (u.2.2.2.2.2.1 + at0 ≤ wr + u.1) ∧ (lk ≤ u.2.2.2.2.1) ∧ (u.2.2.2.2.1 ≤ 60 + 100 * u.2.1) ∧ (at0 + 1 ≤ u.1 + u.2.1) ∧ (u.2.2.2.2.2.2.1 ≤ u.2.2.2.1) ∧ (Kp B u.2.2.2.2.2.2.2 u.2.2.2.2.2.1 T) ∧ (If (u.2.1 = 0) (Low B u.2.2.2.2.2.2.2 nd wr ∧ Frs K T u.2.2.2.2.2.1 u.2.2.2.2.2.2.2 nd u.2.2.2.1 20000 [(u.2.2.2.2.2.2.1, (210 + u.2.2.2.2.1 - (10 * ne + lk)))] ∧ kcl 1 (u.2.2.2.2.2.2.2 9 u.2.2.2.2.2.2.1) = true))) (fun u => (mW G h0 a (upd (upd (upd (upd (upd (upd (upd F 15 (nI u.2.1)) 16 u.2.2.1) 27 (nI u.2.2.2.1)) 31 (nI u.2.2.2.2.2.1)) 64 (nI u.1)) 65 (nI ne)) 66 (nI u.2.2.2.2.1)) (updA u.2.2.2.2.2.2.2 2 K)))
def Parguments (l : Launch) (G : pT) (n : Nat) : Prop := ∀ (h0 : Nat) (a : Nat → Nat) (F : Nat → Int32) (B : Nat → Nat → Int32) (at0 : Nat) (T : Nat) (ne : Nat) (nd : Nat) (wr : Nat) (lk : Nat) (K : Nat → Int32) (x : Nat) (lo : Nat) (zx : Nat) (zb : Nat) (k : Nat) (xa : Int32), (at0 ≤ T) → (T ≤ 5000) → (K T = 0 ∨ K T = 3) → (ne ≤ 20) → (nd ≤ 2 * at0) → (wr ≤ at0) → (lk ≤ 60) → (tkRow (B 19) wr T) → (21 ≤ n + ne) → (Frs K T wr B lo nd x [(x, zx)]) → (Nd B x (nI k) xa (-1) (-1) (-1)) → (cdOf k 2 = 201 ∧ cdOf k 4 = 51 ∧ k ≤ 44 ∧ hdr (nI k) = 13 ∧ cdOf k 3 = 0) → (need k 1 xa) → (zx ≤ zb) → (210 ≤ zb + 10 * ne) → (lo ≤ nd) → PM l G pX0 yX12_arguments cX12_arguments 5 none ({ frames := (20 * n + 8), cells := 0, slots := 0, locals := (1000 * n + 40 * 8) }) [.ref h0, .int (nI x)] (mW G h0 a (upd (upd (upd (upd (upd (upd F 15 0) 27 (nI nd)) 31 (nI wr)) 64 (nI at0)) 65 (nI ne)) 66 (nI lk)) (updA B 2 K)) (fun (v : Option Value) (u : Nat × Nat × Int32 × Nat × Nat × Nat × (Nat → Nat → Int32)) => v = none ∧ (at0 ≤ u.1) ∧ (u.1 ≤ T) ∧ (u.2.1 ≤ 100) ∧ (nd ≤ u.2.2.2.1) ∧ (u.2.2.2.1 + 2 * at0 ≤ nd + 2 * u.1 + 100000 * u.2.1) ∧ (u.2.2.2.1 + 2 * at0 ≤ nd + 2 * u.1 + 40 * (21 - ne)) ∧ (wr ≤ u.2.2.2.2.2.1) ∧ (u.2.2.2.2.2.1 + at0 ≤ wr + u.1) ∧ (lk ≤ u.2.2.2.2.1) ∧ (u.2.2.2.2.1 ≤ 60 + 100 * u.2.1) ∧ (at0 + 1 ≤ u.1 + u.2.1) ∧ (Kp B u.2.2.2.2.2.2 u.2.2.2.2.2.1 T) ∧ (If (u.2.1 = 0) (Low B u.2.2.2.2.2.2 lo wr ∧ Frs K T u.2.2.2.2.2.1 u.2.2.2.2.2.2 lo u.2.2.2.1 20000 [(x, (zb + u.2.2.2.2.1 - lk))] ∧ u.2.2.2.2.2.2 9 x = nI k))) (fun u => (mW G h0 a (upd (upd (upd (upd (upd (upd (upd F 15 (nI u.2.1)) 16 u.2.2.1) 27 (nI u.2.2.2.1)) 31 (nI u.2.2.2.2.2.1)) 64 (nI u.1)) 65 (nI ne)) 66 (nI u.2.2.2.2.1)) (updA u.2.2.2.2.2.2 2 K)))
def Plevel (l : Launch) (G : pT) (n : Nat) (lv : Nat) : Prop := ∀ (h0 : Nat) (a : Nat → Nat) (F : Nat → Int32) (B : Nat → Nat → Int32) (at0 : Nat) (T : Nat) (ne : Nat) (nd : Nat) (wr : Nat) (lk : Nat) (K : Nat → Int32), (at0 ≤ T) → (T ≤ 5000) → (K T = 0 ∨ K T = 3) → (ne ≤ 20) → (nd ≤ 2 * at0) → (wr ≤ at0) → (lk ≤ 60) → (tkRow (B 19) wr T) → (21 ≤ n + ne) → (lv ≤ 10) → PM l G pX0 yX12_level cX12_level 6 (some .int) ({ frames := (20 * n + (26 - lv)), cells := 0, slots := 0, locals := (1000 * n + 40 * (26 - lv)) }) [.ref h0, .int (nI lv)] (mW G h0 a (upd (upd (upd (upd (upd (upd F 15 0) 27 (nI nd)) 31 (nI wr)) 64 (nI at0)) 65 (nI ne)) 66 (nI lk)) (updA B 2 K)) (fun (v : Option Value) (u : Nat × Nat × Int32 × Nat × Nat × Nat × Nat × (Nat → Nat → Int32)) => v = some (.int (nI u.2.2.2.2.2.2.1)) ∧ (at0 ≤ u.1) ∧ (u.1 ≤ T) ∧ (u.2.1 ≤ 100) ∧ (nd ≤ u.2.2.2.1) ∧ (u.2.2.2.1 + 2 * at0 ≤ nd + 2 * u.1 + 100000 * u.2.1) ∧ (u.2.2.2.1 + 2 * at0 ≤ nd + 2 * u.1 + 40 * (21 - ne)) ∧ (wr ≤ u.2.2.2.2.2.1) ∧ (u.2.2.2.2.2.1 + at0 ≤ wr + u.1) ∧ (lk ≤ u.2.2.2.2.1) ∧ (u.2.2.2.2.1 ≤ 60 + 100 * u.2.1) ∧ (at0 + 1 ≤ u.1 + u.2.1) ∧ (u.2.2.2.2.2.2.1 ≤ u.2.2.2.1) ∧ (Kp B u.2.2.2.2.2.2.2 u.2.2.2.2.2.1 T) ∧ (If (u.2.1 = 0) (Low B u.2.2.2.2.2.2.2 nd wr ∧ Frs K T u.2.2.2.2.2.1 u.2.2.2.2.2.2.2 nd u.2.2.2.1 20000 [(u.2.2.2.2.2.2.1, (210 + u.2.2.2.2.1 - (10 * ne + lk)))] ∧ kcl 1 (u.2.2.2.2.2.2.2 9 u.2.2.2.2.2.2.1) = true))) (fun u => (mW G h0 a (upd (upd (upd (upd (upd (upd (upd F 15 (nI u.2.1)) 16 u.2.2.1) 27 (nI u.2.2.2.1)) 31 (nI u.2.2.2.2.2.1)) 64 (nI u.1)) 65 (nI ne)) 66 (nI u.2.2.2.2.1)) (updA u.2.2.2.2.2.2.2 2 K)))
set_option maxHeartbeats 2000000 in
set_option maxRecDepth 100000 in
/-- node(kind, first, token, a, b) -/
theorem R_nodeB (l : Launch) (G : pT) (h0 : Nat) (a : Nat → Nat) (F : Nat → Int32) (B : Nat → Nat → Int32) (kd : Int32) (fi : Int32) (tk : Int32) (xa : Int32) (xb : Int32) (nd : Nat) (K : Nat → Int32) (hnd : nd < 12000) : PM l G pX0 yX12_node cX12_node 7 (some .int) ({ frames := 2, cells := 0, slots := 0, locals := 60 }) [.ref h0, .int kd, .int fi, .int tk, .int xa, .int xb] (mW G h0 a (upd F 27 (nI nd)) (updA B 2 K)) (fun (v : Option Value) (u : (Nat → Nat → Int32)) => v = some (.int (nI nd)) ∧ (NewN B u nd kd fi tk xa xb)) (fun u => (mW G h0 a (upd F 27 (nI (nd + 1))) (updA u 2 K))) := by
  intro sz
  refine Met.ofW (cc := cX12_node) (maxL := 7) (ret := (some .int)) (by decide) rfl ?_
  intro p e s m args below meth c s₁ B9 hml hv
  obtain ⟨rfl, hsz, hP, hD0, hE, hX⟩ := hv
  have hx := B9.exec
  have hb := B9.bytes
  have hr := B9.returns
  have hts := atoms_spec (ws := Cond.code yX12_node cX12_node 7 (some .int) :: pw) B9.pre
  have hq : ∀ w ∈ pw, w.before _ s = true := fun w h => hts w (List.mem_cons_of_mem _ h)
  have hown : s.vm.findClass RX12 = some m.cls := findClass_of_methodNamed B9.named
  have hlocks := B9.notSynchronized
  subst hsz
  have hD := hD0.self (sz := s.heap.size)
  have hA : ∀ q : Nat, s.heap.size ≤ q → va_A (mW G h0 a (upd F 27 (nI nd)) (updA B 2 K)) s.heap.size q := fun q h => Or.inr h
  have hP : va_P G.1 pCl (mW G h0 a (upd F 27 (nI nd)) (updA B 2 K)) s.heap := hP
  generalize va_A (mW G h0 a (upd F 27 (nI nd)) (updA B 2 K)) s.heap.size = A at hD hE hA ⊢
  have hS : va_S A s.heap s.heap [] := va_S.rf
  have hl := lv_entry ([.ref h0, .int kd, .int fi, .int tk, .int xa, .int xb]) (n := 7) (Nat.le_of_ble_eq_true rfl)
  rw [lg_entry_eq]
  generalize (lg_sl ([.ref h0, .int kd, .int fi, .int tk, .int xa, .int xb]) ++ List.replicate (7 - (lg_sl ([.ref h0, .int kd, .int fi, .int tk, .int xa, .int xb])).length) Slot.unset).toArray = ls at hl ⊢
  have hl : lv_has ls 7 [(0, .ref h0), (1, .int kd), (2, .int fi), (3, .int tk), (4, .int xa), (5, .int xb)] := hl
  refine lv_aload_n hx hb dX12_node_0 rfl (lv_at hl 0 rfl) ?_
  refine r_get (v := .int (nI nd)) hx hb hown hq hE hP 27 340 tFX12_27 (by decide) pw_1590 rfl dX12_node_1 ?_
  refine lv_istore (lv' := [(6, .int (nI nd)), (0, .ref h0), (1, .int kd), (2, .int fi), (3, .int tk), (4, .int xa), (5, .int xb)]) hx hb dX12_node_4 hl (by decide) rfl (fun ls hl => ?_)
  refine lv_aload_n hx hb dX12_node_6 rfl (lv_at hl 1 rfl) ?_
  refine lv_dup hx hb dX12_node_7 rfl ?_
  refine r_get (v := .int (nI nd)) hx hb hown hq hE hP 27 340 tFX12_27 (by decide) pw_1590 rfl dX12_node_8 ?_
  refine lv_iconst (v := 1) hx hb dX12_node_11 (by decide) ?_
  refine lv_iadd hx hb dX12_node_12 ?_
  refine lv_topi (fun x1 e2 => ?_)
  obtain rfl : x1 = nI (nd + 1) := e2.trans (nI_add (nd) (1))
  refine r_put (v := (nI (nd + 1))) (ty := .int) hx hb hown hq hE hP hD hS 27 340 tFX12_27 (by decide) pw_1590 (by decide) rfl rfl (ms_27 a _ _) dX12_node_13 (fun H locs hP hD hS => ?_)
  refine lv_aload_n hx hb dX12_node_16 rfl (lv_at hl 1 rfl) ?_
  refine r_get (v := .ref (a 9)) hx hb hown hq hE hP 17 38 tFX12_17 (by decide) pw_1439 rfl dX12_node_17 ?_
  refine lv_iload hx hb dX12_node_20 (lv_at hl 0 rfl) ?_
  refine lv_iload_n hx hb dX12_node_22 rfl (lv_at hl 2 rfl) ?_
  refine r_sti (f := (B 9)) (j := nd) hx hb hE hP hD hS 9 (ma_9 G a _) rfl (mas_9 G a _) (by omega) (by decide) dX12_node_23 (fun H locs hP hD hS => ?_)
  refine lv_aload_n hx hb dX12_node_24 rfl (lv_at hl 1 rfl) ?_
  refine r_get (v := .ref (a 10)) hx hb hown hq hE hP 18 41 tFX12_18 (by decide) pw_1440 rfl dX12_node_25 ?_
  refine lv_iload hx hb dX12_node_28 (lv_at hl 0 rfl) ?_
  refine lv_iload_n hx hb dX12_node_30 rfl (lv_at hl 3 rfl) ?_
  refine r_sti (f := (B 10)) (j := nd) hx hb hE hP hD hS 10 (ma_10 G a _) rfl (mas_10 G a _) (by omega) (by decide) dX12_node_31 (fun H locs hP hD hS => ?_)
  refine lv_aload_n hx hb dX12_node_32 rfl (lv_at hl 1 rfl) ?_
  refine r_get (v := .ref (a 11)) hx hb hown hq hE hP 19 44 tFX12_19 (by decide) pw_1441 rfl dX12_node_33 ?_
  refine lv_iload hx hb dX12_node_36 (lv_at hl 0 rfl) ?_
  refine lv_iload_n hx hb dX12_node_38 rfl (lv_at hl 4 rfl) ?_
  refine r_sti (f := (B 11)) (j := nd) hx hb hE hP hD hS 11 (ma_11 G a _) rfl (mas_11 G a _) (by omega) (by decide) dX12_node_39 (fun H locs hP hD hS => ?_)
  refine lv_aload_n hx hb dX12_node_40 rfl (lv_at hl 1 rfl) ?_
  refine r_get (v := .ref (a 12)) hx hb hown hq hE hP 20 47 tFX12_20 (by decide) pw_1442 rfl dX12_node_41 ?_
  refine lv_iload hx hb dX12_node_44 (lv_at hl 0 rfl) ?_
  refine lv_iload hx hb dX12_node_46 (lv_at hl 5 rfl) ?_
  refine r_sti (f := (B 12)) (j := nd) hx hb hE hP hD hS 12 (ma_12 G a _) rfl (mas_12 G a _) (by omega) (by decide) dX12_node_48 (fun H locs hP hD hS => ?_)
  refine lv_aload_n hx hb dX12_node_49 rfl (lv_at hl 1 rfl) ?_
  refine r_get (v := .ref (a 13)) hx hb hown hq hE hP 21 50 tFX12_21 (by decide) pw_1443 rfl dX12_node_50 ?_
  refine lv_iload hx hb dX12_node_53 (lv_at hl 0 rfl) ?_
  refine lv_iload hx hb dX12_node_55 (lv_at hl 6 rfl) ?_
  refine r_sti (f := (B 13)) (j := nd) hx hb hE hP hD hS 13 (ma_13 G a _) rfl (mas_13 G a _) (by omega) (by decide) dX12_node_57 (fun H locs hP hD hS => ?_)
  refine lv_aload_n hx hb dX12_node_58 rfl (lv_at hl 1 rfl) ?_
  refine r_get (v := .ref (a 14)) hx hb hown hq hE hP 22 53 tFX12_22 (by decide) pw_1444 rfl dX12_node_59 ?_
  refine lv_iload hx hb dX12_node_62 (lv_at hl 0 rfl) ?_
  refine lv_iconst (v := (-1)) hx hb dX12_node_64 (by decide) ?_
  refine r_sti (f := (B 14)) (j := nd) hx hb hE hP hD hS 14 (ma_14 G a _) rfl (mas_14 G a _) (by omega) (by decide) dX12_node_65 (fun H locs hP hD hS => ?_)
  refine lv_aload_n hx hb dX12_node_66 rfl (lv_at hl 1 rfl) ?_
  refine r_get (v := .ref (a 15)) hx hb hown hq hE hP 23 56 tFX12_23 (by decide) pw_1445 rfl dX12_node_67 ?_
  refine lv_iload hx hb dX12_node_70 (lv_at hl 0 rfl) ?_
  refine lv_iconst (v := (-1)) hx hb dX12_node_72 (by decide) ?_
  refine r_sti (f := (B 15)) (j := nd) hx hb hE hP hD hS 15 (ma_15 G a _) rfl (mas_15 G a _) (by omega) (by decide) dX12_node_73 (fun H locs hP hD hS => ?_)
  refine lv_aload_n hx hb dX12_node_74 rfl (lv_at hl 1 rfl) ?_
  refine r_get (v := .ref (a 16)) hx hb hown hq hE hP 24 59 tFX12_24 (by decide) pw_1446 rfl dX12_node_75 ?_
  refine lv_iload hx hb dX12_node_78 (lv_at hl 0 rfl) ?_
  refine lv_iconst (v := (-1)) hx hb dX12_node_80 (by decide) ?_
  refine r_sti (f := (B 16)) (j := nd) hx hb hE hP hD hS 16 (ma_16 G a _) rfl (mas_16 G a _) (by omega) (by decide) dX12_node_81 (fun H locs hP hD hS => ?_)
  refine lv_aload_n hx hb dX12_node_82 rfl (lv_at hl 1 rfl) ?_
  refine r_get (v := .ref (a 17)) hx hb hown hq hE hP 25 62 tFX12_25 (by decide) pw_1447 rfl dX12_node_83 ?_
  refine lv_iload hx hb dX12_node_86 (lv_at hl 0 rfl) ?_
  refine lv_iconst (v := 0) hx hb dX12_node_88 (by decide) ?_
  refine r_sti (f := (B 17)) (j := nd) hx hb hE hP hD hS 17 (ma_17 G a _) rfl (mas_17 G a _) (by omega) (by decide) dX12_node_89 (fun H locs hP hD hS => ?_)
  refine lv_aload_n hx hb dX12_node_90 rfl (lv_at hl 1 rfl) ?_
  refine r_get (v := .ref (a 18)) hx hb hown hq hE hP 26 65 tFX12_26 (by decide) pw_1448 rfl dX12_node_91 ?_
  refine lv_iload hx hb dX12_node_94 (lv_at hl 0 rfl) ?_
  refine lv_iconst (v := (-1)) hx hb dX12_node_96 (by decide) ?_
  refine r_sti (f := (B 18)) (j := nd) hx hb hE hP hD hS 18 (ma_18 G a _) rfl (mas_18 G a _) (by omega) (by decide) dX12_node_97 (fun H locs hP hD hS => ?_)
  refine lv_iload hx hb dX12_node_98 (lv_at hl 0 rfl) ?_
  have hz3 : NewN B (updA (updA (updA (updA (updA (updA (updA (updA (updA (updA B 9 (upd (B 9) nd kd)) 10 (upd (B 10) nd fi)) 11 (upd (B 11) nd tk)) 12 (upd (B 12) nd xa)) 13 (upd (B 13) nd xb)) 14 (upd (B 14) nd (-1))) 15 (upd (B 15) nd (-1))) 16 (upd (B 16) nd (-1))) 17 (upd (B 17) nd 0)) 18 (upd (B 18) nd (-1))) nd kd fi tk xa xb := ⟨fun j q => by unfold updA; simp only [if_neg (show ¬ j = 9 by omega), if_neg (show ¬ j = 10 by omega), if_neg (show ¬ j = 11 by omega), if_neg (show ¬ j = 12 by omega), if_neg (show ¬ j = 13 by omega), if_neg (show ¬ j = 14 by omega), if_neg (show ¬ j = 15 by omega), if_neg (show ¬ j = 16 by omega), if_neg (show ¬ j = 17 by omega), if_neg (show ¬ j = 18 by omega)], fun j i q => NewN_ne q, upd_eq, upd_eq, upd_eq, upd_eq, upd_eq, upd_eq, upd_eq, upd_eq⟩
  have hP : va_P G.1 pCl (mW G h0 a (upd F 27 (nI (nd + 1))) (updA (updA (updA (updA (updA (updA (updA (updA (updA (updA (updA B 9 (upd (B 9) nd kd)) 10 (upd (B 10) nd fi)) 11 (upd (B 11) nd tk)) 12 (upd (B 12) nd xa)) 13 (upd (B 13) nd xb)) 14 (upd (B 14) nd (-1))) 15 (upd (B 15) nd (-1))) 16 (upd (B 16) nd (-1))) 17 (upd (B 17) nd 0)) 18 (upd (B 18) nd (-1))) 2 K)) _ := mW_to (F := F) (l1 := [(27, (nI nd)), (27, (nI (nd + 1)))]) (l2 := [(27, (nI (nd + 1)))]) (V := [(nI (nd + 1)), (nI (nd + 1)), (nI (nd + 1))]) rfl rfl (show (updA (updA (updA (updA (updA (updA (updA (updA (updA (updA (updA B 2 K) 9 (upd (B 9) nd kd)) 10 (upd (B 10) nd fi)) 11 (upd (B 11) nd tk)) 12 (upd (B 12) nd xa)) 13 (upd (B 13) nd xb)) 14 (upd (B 14) nd (-1))) 15 (upd (B 15) nd (-1))) 16 (upd (B 16) nd (-1))) 17 (upd (B 17) nd 0)) 18 (upd (B 18) nd (-1))) = (updA (updA (updA (updA (updA (updA (updA (updA (updA (updA (updA B 9 (upd (B 9) nd kd)) 10 (upd (B 10) nd fi)) 11 (upd (B 11) nd tk)) 12 (upd (B 12) nd xa)) 13 (upd (B 13) nd xb)) 14 (upd (B 14) nd (-1))) 15 (upd (B 15) nd (-1))) 16 (upd (B 16) nd (-1))) 17 (upd (B 17) nd 0)) 18 (upd (B 18) nd (-1))) 2 K) from updsA_eq2 (F := B) (l1 := [(2, K), (9, (upd (B 9) nd kd)), (10, (upd (B 10) nd fi)), (11, (upd (B 11) nd tk)), (12, (upd (B 12) nd xa)), (13, (upd (B 13) nd xb)), (14, (upd (B 14) nd (-1))), (15, (upd (B 15) nd (-1))), (16, (upd (B 16) nd (-1))), (17, (upd (B 17) nd 0)), (18, (upd (B 18) nd (-1)))]) (l2 := [(9, (upd (B 9) nd kd)), (10, (upd (B 10) nd fi)), (11, (upd (B 11) nd tk)), (12, (upd (B 12) nd xa)), (13, (upd (B 13) nd xb)), (14, (upd (B 14) nd (-1))), (15, (upd (B 15) nd (-1))), (16, (upd (B 16) nd (-1))), (17, (upd (B 17) nd 0)), (18, (upd (B 18) nd (-1))), (2, K)]) (V := [K, (upd (B 9) nd kd), (upd (B 10) nd fi), (upd (B 11) nd tk), (upd (B 12) nd xa), (upd (B 13) nd xb), (upd (B 14) nd (-1)), (upd (B 15) nd (-1)), (upd (B 16) nd (-1)), (upd (B 17) nd 0), (upd (B 18) nd (-1)), (upd (B 9) nd kd), (upd (B 10) nd fi), (upd (B 11) nd tk), (upd (B 12) nd xa), (upd (B 13) nd xb), (upd (B 14) nd (-1)), (upd (B 15) nd (-1)), (upd (B 16) nd (-1)), (upd (B 17) nd 0), (upd (B 18) nd (-1)), K]) rfl rfl) hP
  have hD : va_D A (mW G h0 a (upd F 27 (nI (nd + 1))) (updA (updA (updA (updA (updA (updA (updA (updA (updA (updA (updA B 9 (upd (B 9) nd kd)) 10 (upd (B 10) nd fi)) 11 (upd (B 11) nd tk)) 12 (upd (B 12) nd xa)) 13 (upd (B 13) nd xb)) 14 (upd (B 14) nd (-1))) 15 (upd (B 15) nd (-1))) 16 (upd (B 16) nd (-1))) 17 (upd (B 17) nd 0)) 18 (upd (B 18) nd (-1))) 2 K)) := mW_D hD
  exact W.iret (v := (nI nd)) hx hb hr (fun t9 ht9 hW9 => ⟨⟨_, (updA (updA (updA (updA (updA (updA (updA (updA (updA (updA B 9 (upd (B 9) nd kd)) 10 (upd (B 10) nd fi)) 11 (upd (B 11) nd tk)) 12 (upd (B 12) nd xa)) 13 (upd (B 13) nd xb)) 14 (upd (B 14) nd (-1))) 15 (upd (B 15) nd (-1))) 16 (upd (B 16) nd (-1))) 17 (upd (B 17) nd 0)) 18 (upd (B 18) nd (-1))), rfl, ⟨rfl, hz3⟩, by rw [ht9]; exact hP, hD⟩, hS.F ht9⟩) hS.2.2 dX12_node_100
set_option maxHeartbeats 2000000 in
set_option maxRecDepth 100000 in
/-- linked() -/
theorem R_linkedN (l : Launch) (G : pT) (h0 : Nat) (a : Nat → Nat) (F : Nat → Int32) (B : Nat → Nat → Int32) (at0 : Nat) (T : Nat) (fa : Nat) (K : Nat → Int32) (lk : Nat) (hat : at0 ≤ T) (hT : T ≤ 5000) (hK : K T = 0 ∨ K T = 3) (hfa : fa ≤ 100) (hlk : lk ≤ 1000) : PM l G pX0 yX12_linked cX12_linked 1 none ({ frames := 4, cells := 0, slots := 0, locals := 103 }) [.ref h0] (mW G h0 a (upd (upd (upd F 15 (nI fa)) 64 (nI at0)) 66 (nI lk)) (updA B 2 K)) (fun (v : Option Value) (u : Nat × Int32) => v = none ∧ (fa ≤ u.1) ∧ (u.1 ≤ 100) ∧ (If (0 < fa) (u.1 = fa)) ∧ (If (lk ≤ 60) (lk + 1 ≤ 60 + 100 * u.1))) (fun u => (mW G h0 a (upd (upd (upd (upd F 15 (nI u.1)) 16 u.2) 64 (nI at0)) 66 (nI (lk + 1))) (updA B 2 K))) := by
  intro sz
  refine Met.ofW (cc := cX12_linked) (maxL := 1) (ret := none) (by decide) rfl ?_
  intro p e s m args below meth c s₁ B9 hml hv
  obtain ⟨rfl, hsz, hP, hD0, hE, hX⟩ := hv
  have hx := B9.exec
  have hb := B9.bytes
  have hr := B9.returns
  have hts := atoms_spec (ws := Cond.code yX12_linked cX12_linked 1 none :: pw) B9.pre
  have hq : ∀ w ∈ pw, w.before _ s = true := fun w h => hts w (List.mem_cons_of_mem _ h)
  have hown : s.vm.findClass RX12 = some m.cls := findClass_of_methodNamed B9.named
  have hlocks := B9.notSynchronized
  subst hsz
  have hD := hD0.self (sz := s.heap.size)
  have hA : ∀ q : Nat, s.heap.size ≤ q → va_A (mW G h0 a (upd (upd (upd F 15 (nI fa)) 64 (nI at0)) 66 (nI lk)) (updA B 2 K)) s.heap.size q := fun q h => Or.inr h
  have hP : va_P G.1 pCl (mW G h0 a (upd (upd (upd F 15 (nI fa)) 64 (nI at0)) 66 (nI lk)) (updA B 2 K)) s.heap := hP
  generalize va_A (mW G h0 a (upd (upd (upd F 15 (nI fa)) 64 (nI at0)) 66 (nI lk)) (updA B 2 K)) s.heap.size = A at hD hE hA ⊢
  have hS : va_S A s.heap s.heap [] := va_S.rf
  have hl := lv_entry ([.ref h0]) (n := 1) (Nat.le_of_ble_eq_true rfl)
  rw [lg_entry_eq]
  generalize (lg_sl ([.ref h0]) ++ List.replicate (1 - (lg_sl ([.ref h0])).length) Slot.unset).toArray = ls at hl ⊢
  have hl : lv_has ls 1 [(0, .ref h0)] := hl
  refine lv_aload_n hx hb dX12_linked_0 rfl (lv_at hl 0 rfl) ?_
  refine r_get (v := .int (nI fa)) hx hb hown hq hE hP 15 350 tFX12_15 (by decide) pw_1594 rfl dX12_linked_1 ?_
  refine lv_if_ne (tgt := 21) hx hb dX12_linked_4 (by decide) (fun c1 => ?_) (fun c1 => ?_)
  · have n2 : ¬ (fa = 0) := fun h9 => c1 ((nI_eq (a := fa) (b := 0) (by omega) (by omega)).mpr h9)
    refine lv_aload_n hx hb dX12_linked_21 rfl (lv_at hl 0 rfl) ?_
    refine lv_dup hx hb dX12_linked_22 rfl ?_
    refine r_get (v := .int (nI lk)) hx hb hown hq hE hP 66 363 tFX12_66 (by decide) pw_1610 rfl dX12_linked_23 ?_
    refine lv_iconst (v := 1) hx hb dX12_linked_26 (by decide) ?_
    refine lv_iadd hx hb dX12_linked_27 ?_
    refine lv_topi (fun x3 e4 => ?_)
    obtain rfl : x3 = nI (lk + 1) := e4.trans (nI_add (lk) (1))
    refine r_put (v := (nI (lk + 1))) (ty := .int) hx hb hown hq hE hP hD hS 66 363 tFX12_66 (by decide) pw_1610 (by decide) rfl rfl (ms_66 a _ _) dX12_linked_28 (fun H locs hP hD hS => ?_)
    have hz5 : fa ≤ fa := (by omega)
    have hz6 : fa ≤ 100 := (by omega)
    have hz7 : If (0 < fa) (fa = fa) := (fun h9 => by omega)
    have hz8 : If (lk ≤ 60) (lk + 1 ≤ 60 + 100 * fa) := (fun h9 => by omega)
    have hP : va_P G.1 pCl (mW G h0 a (upd (upd (upd (upd F 15 (nI fa)) 16 (F 16)) 64 (nI at0)) 66 (nI (lk + 1))) (updA B 2 K)) _ := mW_to (F := F) (l1 := [(15, (nI fa)), (64, (nI at0)), (66, (nI lk)), (66, (nI (lk + 1)))]) (l2 := [(15, (nI fa)), (16, (F 16)), (64, (nI at0)), (66, (nI (lk + 1)))]) (V := [(nI fa), (nI at0), (nI (lk + 1)), (nI (lk + 1)), (nI fa), (F 16), (nI at0), (nI (lk + 1))]) rfl rfl rfl hP
    have hD : va_D A (mW G h0 a (upd (upd (upd (upd F 15 (nI fa)) 16 (F 16)) 64 (nI at0)) 66 (nI (lk + 1))) (updA B 2 K)) := mW_D hD
    exact W.vret hx hb hr (fun t9 ht9 hW9 => ⟨⟨_, (fa, (F 16)), rfl, ⟨rfl, hz5, hz6, hz7, hz8⟩, by rw [ht9]; exact hP, hD⟩, hS.F ht9⟩) hS.2.2 dX12_linked_31
  · have n9 : fa = 0 := (nI_eq (a := fa) (b := 0) (by omega) (by omega)).mp c1
    refine lv_aload_n hx hb dX12_linked_7 rfl (lv_at hl 0 rfl) ?_
    refine r_get (v := .int (nI lk)) hx hb hown hq hE hP 66 363 tFX12_66 (by decide) pw_1610 rfl dX12_linked_8 ?_
    refine lv_bipush (v := 60) hx hb dX12_linked_11 (by decide) ?_
    refine lv_icmp_ne (tgt := 21) hx hb dX12_linked_13 (by decide) (fun c10 => ?_) (fun c10 => ?_)
    · have n11 : ¬ (lk = 60) := fun h9 => c10 ((nI_eq (a := lk) (b := 60) (by omega) (by omega)).mpr h9)
      refine lv_aload_n hx hb dX12_linked_21 rfl (lv_at hl 0 rfl) ?_
      refine lv_dup hx hb dX12_linked_22 rfl ?_
      refine r_get (v := .int (nI lk)) hx hb hown hq hE hP 66 363 tFX12_66 (by decide) pw_1610 rfl dX12_linked_23 ?_
      refine lv_iconst (v := 1) hx hb dX12_linked_26 (by decide) ?_
      refine lv_iadd hx hb dX12_linked_27 ?_
      refine lv_topi (fun x12 e13 => ?_)
      obtain rfl : x12 = nI (lk + 1) := e13.trans (nI_add (lk) (1))
      refine r_put (v := (nI (lk + 1))) (ty := .int) hx hb hown hq hE hP hD hS 66 363 tFX12_66 (by decide) pw_1610 (by decide) rfl rfl (ms_66 a _ _) dX12_linked_28 (fun H locs hP hD hS => ?_)
      have hz14 : fa ≤ fa := (by omega)
      have hz15 : fa ≤ 100 := (by omega)
      have hz16 : If (0 < fa) (fa = fa) := (fun h9 => by omega)
      have hz17 : If (lk ≤ 60) (lk + 1 ≤ 60 + 100 * fa) := (fun h9 => by omega)
      have hP : va_P G.1 pCl (mW G h0 a (upd (upd (upd (upd F 15 (nI fa)) 16 (F 16)) 64 (nI at0)) 66 (nI (lk + 1))) (updA B 2 K)) _ := mW_to (F := F) (l1 := [(15, (nI fa)), (64, (nI at0)), (66, (nI lk)), (66, (nI (lk + 1)))]) (l2 := [(15, (nI fa)), (16, (F 16)), (64, (nI at0)), (66, (nI (lk + 1)))]) (V := [(nI fa), (nI at0), (nI (lk + 1)), (nI (lk + 1)), (nI fa), (F 16), (nI at0), (nI (lk + 1))]) rfl rfl rfl hP
      have hD : va_D A (mW G h0 a (upd (upd (upd (upd F 15 (nI fa)) 16 (F 16)) 64 (nI at0)) 66 (nI (lk + 1))) (updA B 2 K)) := mW_D hD
      exact W.vret hx hb hr (fun t9 ht9 hW9 => ⟨⟨_, (fa, (F 16)), rfl, ⟨rfl, hz14, hz15, hz16, hz17⟩, by rw [ht9]; exact hP, hD⟩, hS.F ht9⟩) hS.2.2 dX12_linked_31
    · have n18 : lk = 60 := (nI_eq (a := lk) (b := 60) (by omega) (by omega)).mp c10
      refine lv_aload_n hx hb dX12_linked_16 rfl (lv_at hl 0 rfl) ?_
      refine lv_iconst (v := 2) hx hb dX12_linked_17 (by decide) ?_
      have hP : va_P G.1 pCl (mW G h0 a (upd (upd (upd (upd (upd F 15 (nI fa)) 64 (nI at0)) 66 (nI lk)) 15 (nI fa)) 64 (nI at0)) (updA (updA B 2 K) 2 K)) _ := mW_to (F := F) (l1 := [(15, (nI fa)), (64, (nI at0)), (66, (nI lk))]) (l2 := [(15, (nI fa)), (64, (nI at0)), (66, (nI lk)), (15, (nI fa)), (64, (nI at0))]) (V := [(nI fa), (nI at0), (nI lk), (nI fa), (nI at0), (nI lk), (nI fa), (nI at0)]) rfl rfl (show (updA B 2 K) = (updA (updA B 2 K) 2 K) from updsA_eq2 (F := B) (l1 := [(2, K)]) (l2 := [(2, K), (2, K)]) (V := [K, K, K]) rfl rfl) hP
      have hD : va_D A (mW G h0 a (upd (upd (upd (upd (upd F 15 (nI fa)) 64 (nI at0)) 66 (nI lk)) 15 (nI fa)) 64 (nI at0)) (updA (updA B 2 K) 2 K)) := mW_D hD
      refine pc_V0 (G := G) (As := [.int (nI 2)]) (rest := []) hx hb hml hown hq hE hX pX0_al hP hD hS hA hl.1 (R_bad l G h0 a (upd (upd (upd F 15 (nI fa)) 64 (nI at0)) 66 (nI lk)) (updA B 2 K) at0 T fa K 2 (by omega) (by omega) hK (by omega) (by omega) (by omega)) (gV pw_1602 pw_1603 pw_1604 pw_1523 pw_1596) hV_X12_bad 0 9 rfl rfl rfl rfl (Nat.le_of_ble_eq_true rfl) dX12_linked_18 ⟨Nat.le_of_ble_eq_true rfl, Nat.le_of_ble_eq_true rfl⟩ ⟨Nat.le_of_ble_eq_true rfl, Nat.le_of_ble_eq_true rfl⟩ (fun v21 u19 H locs hw20 hP hD hS => ?_)
      obtain ⟨fa22, pl23⟩ := u19
      obtain ⟨hw20, h24, h25, h26, h27⟩ := hw20
      have h24 : fa ≤ fa22 := h24
      have h25 : fa22 ≤ fa + 2 := h25
      have h26 : 0 < fa22 := h26
      have h27 : If (0 < fa) (fa22 = fa) := h27
      obtain rfl : v21 = none := hw20
      have hP : va_P G.1 pCl (mW G h0 a (upd (upd (upd (upd F 15 (nI fa22)) 16 pl23) 64 (nI at0)) 66 (nI lk)) (updA B 2 K)) _ := mW_to (F := F) (l1 := [(15, (nI fa)), (64, (nI at0)), (66, (nI lk)), (15, (nI fa22)), (16, pl23), (64, (nI at0))]) (l2 := [(15, (nI fa22)), (16, pl23), (64, (nI at0)), (66, (nI lk))]) (V := [(nI fa22), (nI at0), (nI lk), (nI fa22), pl23, (nI at0), (nI fa22), pl23, (nI at0), (nI lk)]) rfl rfl (show (updA (updA B 2 K) 2 K) = (updA B 2 K) from updsA_eq2 (F := B) (l1 := [(2, K), (2, K)]) (l2 := [(2, K)]) (V := [K, K, K]) rfl rfl) hP
      have hD : va_D A (mW G h0 a (upd (upd (upd (upd F 15 (nI fa22)) 16 pl23) 64 (nI at0)) 66 (nI lk)) (updA B 2 K)) := mW_D hD
      refine W.widen (k := 0) (n := 0) (Nat.le_of_ble_eq_true rfl) (Nat.le_of_ble_eq_true rfl) ?_
      refine W.eq (g2 := F0 m 21 ls []) rfl ?_
      refine lv_aload_n hx hb dX12_linked_21 rfl (lv_at hl 0 rfl) ?_
      refine lv_dup hx hb dX12_linked_22 rfl ?_
      refine r_get (v := .int (nI lk)) hx hb hown hq hE hP 66 363 tFX12_66 (by decide) pw_1610 rfl dX12_linked_23 ?_
      refine lv_iconst (v := 1) hx hb dX12_linked_26 (by decide) ?_
      refine lv_iadd hx hb dX12_linked_27 ?_
      refine lv_topi (fun x28 e29 => ?_)
      obtain rfl : x28 = nI (lk + 1) := e29.trans (nI_add (lk) (1))
      refine r_put (v := (nI (lk + 1))) (ty := .int) hx hb hown hq hE hP hD hS 66 363 tFX12_66 (by decide) pw_1610 (by decide) rfl rfl (ms_66 a _ _) dX12_linked_28 (fun H locs hP hD hS => ?_)
      have hz30 : fa ≤ fa22 := (by omega)
      have hz31 : fa22 ≤ 100 := (by omega)
      have hz32 : If (0 < fa) (fa22 = fa) := (fun h9 => by omega)
      have hz33 : If (lk ≤ 60) (lk + 1 ≤ 60 + 100 * fa22) := (fun h9 => by omega)
      have hP : va_P G.1 pCl (mW G h0 a (upd (upd (upd (upd F 15 (nI fa22)) 16 pl23) 64 (nI at0)) 66 (nI (lk + 1))) (updA B 2 K)) _ := mW_to (F := F) (l1 := [(15, (nI fa22)), (16, pl23), (64, (nI at0)), (66, (nI lk)), (66, (nI (lk + 1)))]) (l2 := [(15, (nI fa22)), (16, pl23), (64, (nI at0)), (66, (nI (lk + 1)))]) (V := [(nI fa22), pl23, (nI at0), (nI (lk + 1)), (nI (lk + 1)), (nI fa22), pl23, (nI at0), (nI (lk + 1))]) rfl rfl rfl hP
      have hD : va_D A (mW G h0 a (upd (upd (upd (upd F 15 (nI fa22)) 16 pl23) 64 (nI at0)) 66 (nI (lk + 1))) (updA B 2 K)) := mW_D hD
      exact W.vret hx hb hr (fun t9 ht9 hW9 => ⟨⟨_, (fa22, pl23), rfl, ⟨rfl, hz30, hz31, hz32, hz33⟩, by rw [ht9]; exact hP, hD⟩, hS.F ht9⟩) hS.2.2 dX12_linked_31
set_option maxHeartbeats 1000000 in
set_option maxRecDepth 100000 in
/-- strength(kind) -/
theorem s_strengthN (l : Launch) (G : pT) (x : Int32) : PM l G pX0 yX12_strength cX12_strength 1 (some .int) ({ frames := 2, cells := 0, slots := 0, locals := 60 }) [.int x] [] (fun (v : Option Value) (u : Unit) => ∃ r : Int32, v = some (.int r) ∧ (r = -1 ∨ stOK x)) (fun u => []) := by
  intro sz
  refine Met.ofW (cc := cX12_strength) (maxL := 1) (ret := (some .int)) (by decide) rfl ?_
  intro p e s m args below meth c s₁ B hml hv
  obtain ⟨rfl, hsz, hP, hD0, hE, hX⟩ := hv
  have hx := B.exec
  have hb := B.bytes
  have hr := B.returns
  have hts := atoms_spec (ws := Cond.code yX12_strength cX12_strength 1 (some .int) :: pw) B.pre
  have hq : ∀ w ∈ pw, w.before _ s = true := fun w h => hts w (List.mem_cons_of_mem _ h)
  have hown : s.vm.findClass RX12 = some m.cls := findClass_of_methodNamed B.named
  have hlocks := B.notSynchronized
  subst hsz
  have hD := hD0.self (sz := s.heap.size)
  have hA : ∀ q : Nat, s.heap.size ≤ q → va_A [] s.heap.size q := fun q h => Or.inr h
  have hP : va_P G.1 pCl [] s.heap := hP
  generalize va_A [] s.heap.size = A at hD hE hA ⊢
  have hS : va_S A s.heap s.heap [] := va_S.rf
  have hl := lv_entry ([.int x]) (n := 1) (Nat.le_of_ble_eq_true rfl)
  rw [lg_entry_eq]
  generalize (lg_sl ([.int x]) ++ List.replicate (1 - (lg_sl ([.int x])).length) Slot.unset).toArray = ls at hl ⊢
  have hl : lv_has ls 1 [(0, .int x)] := hl
  refine lv_iload_n hx hb dX12_strength_0 rfl (lv_at hl 0 rfl) ?_
  by_cases h1 : x = 37
  · refine lv_lookup (tgt := 201) (off := 200) hx hb dX12_strength_1 (by decide) (by rw [h1]; decide) (by decide) ?_
    refine lv_bipush (v := 9) hx hb dX12_strength_201 (by decide) ?_
    refine W.widen (k := 0) (n := 0) (Nat.le_of_ble_eq_true rfl) (Nat.le_of_ble_eq_true rfl) ?_
    exact W.iret (v := 9) hx hb hr (fun t ht hW => ⟨⟨_, (), rfl, ⟨_, rfl, Or.inr (stOK_of h1 (by unfold stOK; decide))⟩, by rw [ht]; exact hP.sub [] rfl, hD.sub [] (by decide) rfl⟩, hS.F ht⟩) hS.2.2 dX12_strength_203
  by_cases h2 : x = 38
  · refine lv_lookup (tgt := 188) (off := 187) hx hb dX12_strength_1 (by decide) (by rw [h2]; decide) (by decide) ?_
    refine lv_iconst (v := 4) hx hb dX12_strength_188 (by decide) ?_
    refine W.widen (k := 0) (n := 0) (Nat.le_of_ble_eq_true rfl) (Nat.le_of_ble_eq_true rfl) ?_
    exact W.iret (v := 4) hx hb hr (fun t ht hW => ⟨⟨_, (), rfl, ⟨_, rfl, Or.inr (stOK_of h2 (by unfold stOK; decide))⟩, by rw [ht]; exact hP.sub [] rfl, hD.sub [] (by decide) rfl⟩, hS.F ht⟩) hS.2.2 dX12_strength_189
  by_cases h3 : x = 42
  · refine lv_lookup (tgt := 201) (off := 200) hx hb dX12_strength_1 (by decide) (by rw [h3]; decide) (by decide) ?_
    refine lv_bipush (v := 9) hx hb dX12_strength_201 (by decide) ?_
    refine W.widen (k := 0) (n := 0) (Nat.le_of_ble_eq_true rfl) (Nat.le_of_ble_eq_true rfl) ?_
    exact W.iret (v := 9) hx hb hr (fun t ht hW => ⟨⟨_, (), rfl, ⟨_, rfl, Or.inr (stOK_of h3 (by unfold stOK; decide))⟩, by rw [ht]; exact hP.sub [] rfl, hD.sub [] (by decide) rfl⟩, hS.F ht⟩) hS.2.2 dX12_strength_203
  by_cases h4 : x = 43
  · refine lv_lookup (tgt := 198) (off := 197) hx hb dX12_strength_1 (by decide) (by rw [h4]; decide) (by decide) ?_
    refine lv_bipush (v := 8) hx hb dX12_strength_198 (by decide) ?_
    refine W.widen (k := 0) (n := 0) (Nat.le_of_ble_eq_true rfl) (Nat.le_of_ble_eq_true rfl) ?_
    exact W.iret (v := 8) hx hb hr (fun t ht hW => ⟨⟨_, (), rfl, ⟨_, rfl, Or.inr (stOK_of h4 (by unfold stOK; decide))⟩, by rw [ht]; exact hP.sub [] rfl, hD.sub [] (by decide) rfl⟩, hS.F ht⟩) hS.2.2 dX12_strength_200
  by_cases h5 : x = 45
  · refine lv_lookup (tgt := 198) (off := 197) hx hb dX12_strength_1 (by decide) (by rw [h5]; decide) (by decide) ?_
    refine lv_bipush (v := 8) hx hb dX12_strength_198 (by decide) ?_
    refine W.widen (k := 0) (n := 0) (Nat.le_of_ble_eq_true rfl) (Nat.le_of_ble_eq_true rfl) ?_
    exact W.iret (v := 8) hx hb hr (fun t ht hW => ⟨⟨_, (), rfl, ⟨_, rfl, Or.inr (stOK_of h5 (by unfold stOK; decide))⟩, by rw [ht]; exact hP.sub [] rfl, hD.sub [] (by decide) rfl⟩, hS.F ht⟩) hS.2.2 dX12_strength_200
  by_cases h6 : x = 47
  · refine lv_lookup (tgt := 201) (off := 200) hx hb dX12_strength_1 (by decide) (by rw [h6]; decide) (by decide) ?_
    refine lv_bipush (v := 9) hx hb dX12_strength_201 (by decide) ?_
    refine W.widen (k := 0) (n := 0) (Nat.le_of_ble_eq_true rfl) (Nat.le_of_ble_eq_true rfl) ?_
    exact W.iret (v := 9) hx hb hr (fun t ht hW => ⟨⟨_, (), rfl, ⟨_, rfl, Or.inr (stOK_of h6 (by unfold stOK; decide))⟩, by rw [ht]; exact hP.sub [] rfl, hD.sub [] (by decide) rfl⟩, hS.F ht⟩) hS.2.2 dX12_strength_203
  by_cases h7 : x = 60
  · refine lv_lookup (tgt := 192) (off := 191) hx hb dX12_strength_1 (by decide) (by rw [h7]; decide) (by decide) ?_
    refine lv_bipush (v := 6) hx hb dX12_strength_192 (by decide) ?_
    refine W.widen (k := 0) (n := 0) (Nat.le_of_ble_eq_true rfl) (Nat.le_of_ble_eq_true rfl) ?_
    exact W.iret (v := 6) hx hb hr (fun t ht hW => ⟨⟨_, (), rfl, ⟨_, rfl, Or.inr (stOK_of h7 (by unfold stOK; decide))⟩, by rw [ht]; exact hP.sub [] rfl, hD.sub [] (by decide) rfl⟩, hS.F ht⟩) hS.2.2 dX12_strength_194
  by_cases h8 : x = 62
  · refine lv_lookup (tgt := 192) (off := 191) hx hb dX12_strength_1 (by decide) (by rw [h8]; decide) (by decide) ?_
    refine lv_bipush (v := 6) hx hb dX12_strength_192 (by decide) ?_
    refine W.widen (k := 0) (n := 0) (Nat.le_of_ble_eq_true rfl) (Nat.le_of_ble_eq_true rfl) ?_
    exact W.iret (v := 6) hx hb hr (fun t ht hW => ⟨⟨_, (), rfl, ⟨_, rfl, Or.inr (stOK_of h8 (by unfold stOK; decide))⟩, by rw [ht]; exact hP.sub [] rfl, hD.sub [] (by decide) rfl⟩, hS.F ht⟩) hS.2.2 dX12_strength_194
  by_cases h9 : x = 94
  · refine lv_lookup (tgt := 186) (off := 185) hx hb dX12_strength_1 (by decide) (by rw [h9]; decide) (by decide) ?_
    refine lv_iconst (v := 3) hx hb dX12_strength_186 (by decide) ?_
    refine W.widen (k := 0) (n := 0) (Nat.le_of_ble_eq_true rfl) (Nat.le_of_ble_eq_true rfl) ?_
    exact W.iret (v := 3) hx hb hr (fun t ht hW => ⟨⟨_, (), rfl, ⟨_, rfl, Or.inr (stOK_of h9 (by unfold stOK; decide))⟩, by rw [ht]; exact hP.sub [] rfl, hD.sub [] (by decide) rfl⟩, hS.F ht⟩) hS.2.2 dX12_strength_187
  by_cases h10 : x = 124
  · refine lv_lookup (tgt := 184) (off := 183) hx hb dX12_strength_1 (by decide) (by rw [h10]; decide) (by decide) ?_
    refine lv_iconst (v := 2) hx hb dX12_strength_184 (by decide) ?_
    refine W.widen (k := 0) (n := 0) (Nat.le_of_ble_eq_true rfl) (Nat.le_of_ble_eq_true rfl) ?_
    exact W.iret (v := 2) hx hb hr (fun t ht hW => ⟨⟨_, (), rfl, ⟨_, rfl, Or.inr (stOK_of h10 (by unfold stOK; decide))⟩, by rw [ht]; exact hP.sub [] rfl, hD.sub [] (by decide) rfl⟩, hS.F ht⟩) hS.2.2 dX12_strength_185
  by_cases h11 : x = 256
  · refine lv_lookup (tgt := 192) (off := 191) hx hb dX12_strength_1 (by decide) (by rw [h11]; decide) (by decide) ?_
    refine lv_bipush (v := 6) hx hb dX12_strength_192 (by decide) ?_
    refine W.widen (k := 0) (n := 0) (Nat.le_of_ble_eq_true rfl) (Nat.le_of_ble_eq_true rfl) ?_
    exact W.iret (v := 6) hx hb hr (fun t ht hW => ⟨⟨_, (), rfl, ⟨_, rfl, Or.inr (stOK_of h11 (by unfold stOK; decide))⟩, by rw [ht]; exact hP.sub [] rfl, hD.sub [] (by decide) rfl⟩, hS.F ht⟩) hS.2.2 dX12_strength_194
  by_cases h12 : x = 257
  · refine lv_lookup (tgt := 192) (off := 191) hx hb dX12_strength_1 (by decide) (by rw [h12]; decide) (by decide) ?_
    refine lv_bipush (v := 6) hx hb dX12_strength_192 (by decide) ?_
    refine W.widen (k := 0) (n := 0) (Nat.le_of_ble_eq_true rfl) (Nat.le_of_ble_eq_true rfl) ?_
    exact W.iret (v := 6) hx hb hr (fun t ht hW => ⟨⟨_, (), rfl, ⟨_, rfl, Or.inr (stOK_of h12 (by unfold stOK; decide))⟩, by rw [ht]; exact hP.sub [] rfl, hD.sub [] (by decide) rfl⟩, hS.F ht⟩) hS.2.2 dX12_strength_194
  by_cases h13 : x = 258
  · refine lv_lookup (tgt := 190) (off := 189) hx hb dX12_strength_1 (by decide) (by rw [h13]; decide) (by decide) ?_
    refine lv_iconst (v := 5) hx hb dX12_strength_190 (by decide) ?_
    refine W.widen (k := 0) (n := 0) (Nat.le_of_ble_eq_true rfl) (Nat.le_of_ble_eq_true rfl) ?_
    exact W.iret (v := 5) hx hb hr (fun t ht hW => ⟨⟨_, (), rfl, ⟨_, rfl, Or.inr (stOK_of h13 (by unfold stOK; decide))⟩, by rw [ht]; exact hP.sub [] rfl, hD.sub [] (by decide) rfl⟩, hS.F ht⟩) hS.2.2 dX12_strength_191
  by_cases h14 : x = 259
  · refine lv_lookup (tgt := 190) (off := 189) hx hb dX12_strength_1 (by decide) (by rw [h14]; decide) (by decide) ?_
    refine lv_iconst (v := 5) hx hb dX12_strength_190 (by decide) ?_
    refine W.widen (k := 0) (n := 0) (Nat.le_of_ble_eq_true rfl) (Nat.le_of_ble_eq_true rfl) ?_
    exact W.iret (v := 5) hx hb hr (fun t ht hW => ⟨⟨_, (), rfl, ⟨_, rfl, Or.inr (stOK_of h14 (by unfold stOK; decide))⟩, by rw [ht]; exact hP.sub [] rfl, hD.sub [] (by decide) rfl⟩, hS.F ht⟩) hS.2.2 dX12_strength_191
  by_cases h15 : x = 260
  · refine lv_lookup (tgt := 182) (off := 181) hx hb dX12_strength_1 (by decide) (by rw [h15]; decide) (by decide) ?_
    refine lv_iconst (v := 1) hx hb dX12_strength_182 (by decide) ?_
    refine W.widen (k := 0) (n := 0) (Nat.le_of_ble_eq_true rfl) (Nat.le_of_ble_eq_true rfl) ?_
    exact W.iret (v := 1) hx hb hr (fun t ht hW => ⟨⟨_, (), rfl, ⟨_, rfl, Or.inr (stOK_of h15 (by unfold stOK; decide))⟩, by rw [ht]; exact hP.sub [] rfl, hD.sub [] (by decide) rfl⟩, hS.F ht⟩) hS.2.2 dX12_strength_183
  by_cases h16 : x = 261
  · refine lv_lookup (tgt := 180) (off := 179) hx hb dX12_strength_1 (by decide) (by rw [h16]; decide) (by decide) ?_
    refine lv_iconst (v := 0) hx hb dX12_strength_180 (by decide) ?_
    refine W.widen (k := 0) (n := 0) (Nat.le_of_ble_eq_true rfl) (Nat.le_of_ble_eq_true rfl) ?_
    exact W.iret (v := 0) hx hb hr (fun t ht hW => ⟨⟨_, (), rfl, ⟨_, rfl, Or.inr (stOK_of h16 (by unfold stOK; decide))⟩, by rw [ht]; exact hP.sub [] rfl, hD.sub [] (by decide) rfl⟩, hS.F ht⟩) hS.2.2 dX12_strength_181
  by_cases h17 : x = 262
  · refine lv_lookup (tgt := 195) (off := 194) hx hb dX12_strength_1 (by decide) (by rw [h17]; decide) (by decide) ?_
    refine lv_bipush (v := 7) hx hb dX12_strength_195 (by decide) ?_
    refine W.widen (k := 0) (n := 0) (Nat.le_of_ble_eq_true rfl) (Nat.le_of_ble_eq_true rfl) ?_
    exact W.iret (v := 7) hx hb hr (fun t ht hW => ⟨⟨_, (), rfl, ⟨_, rfl, Or.inr (stOK_of h17 (by unfold stOK; decide))⟩, by rw [ht]; exact hP.sub [] rfl, hD.sub [] (by decide) rfl⟩, hS.F ht⟩) hS.2.2 dX12_strength_197
  by_cases h18 : x = 263
  · refine lv_lookup (tgt := 195) (off := 194) hx hb dX12_strength_1 (by decide) (by rw [h18]; decide) (by decide) ?_
    refine lv_bipush (v := 7) hx hb dX12_strength_195 (by decide) ?_
    refine W.widen (k := 0) (n := 0) (Nat.le_of_ble_eq_true rfl) (Nat.le_of_ble_eq_true rfl) ?_
    exact W.iret (v := 7) hx hb hr (fun t ht hW => ⟨⟨_, (), rfl, ⟨_, rfl, Or.inr (stOK_of h18 (by unfold stOK; decide))⟩, by rw [ht]; exact hP.sub [] rfl, hD.sub [] (by decide) rfl⟩, hS.F ht⟩) hS.2.2 dX12_strength_197
  by_cases h19 : x = 264
  · refine lv_lookup (tgt := 195) (off := 194) hx hb dX12_strength_1 (by decide) (by rw [h19]; decide) (by decide) ?_
    refine lv_bipush (v := 7) hx hb dX12_strength_195 (by decide) ?_
    refine W.widen (k := 0) (n := 0) (Nat.le_of_ble_eq_true rfl) (Nat.le_of_ble_eq_true rfl) ?_
    exact W.iret (v := 7) hx hb hr (fun t ht hW => ⟨⟨_, (), rfl, ⟨_, rfl, Or.inr (stOK_of h19 (by unfold stOK; decide))⟩, by rw [ht]; exact hP.sub [] rfl, hD.sub [] (by decide) rfl⟩, hS.F ht⟩) hS.2.2 dX12_strength_197
  by_cases h20 : x = 310
  · refine lv_lookup (tgt := 192) (off := 191) hx hb dX12_strength_1 (by decide) (by rw [h20]; decide) (by decide) ?_
    refine lv_bipush (v := 6) hx hb dX12_strength_192 (by decide) ?_
    refine W.widen (k := 0) (n := 0) (Nat.le_of_ble_eq_true rfl) (Nat.le_of_ble_eq_true rfl) ?_
    exact W.iret (v := 6) hx hb hr (fun t ht hW => ⟨⟨_, (), rfl, ⟨_, rfl, Or.inr (stOK_of h20 (by unfold stOK; decide))⟩, by rw [ht]; exact hP.sub [] rfl, hD.sub [] (by decide) rfl⟩, hS.F ht⟩) hS.2.2 dX12_strength_194
  by_cases h21 : x = 325
  · refine lv_lookup (tgt := 192) (off := 191) hx hb dX12_strength_1 (by decide) (by rw [h21]; decide) (by decide) ?_
    refine lv_bipush (v := 6) hx hb dX12_strength_192 (by decide) ?_
    refine W.widen (k := 0) (n := 0) (Nat.le_of_ble_eq_true rfl) (Nat.le_of_ble_eq_true rfl) ?_
    exact W.iret (v := 6) hx hb hr (fun t ht hW => ⟨⟨_, (), rfl, ⟨_, rfl, Or.inr (stOK_of h21 (by unfold stOK; decide))⟩, by rw [ht]; exact hP.sub [] rfl, hD.sub [] (by decide) rfl⟩, hS.F ht⟩) hS.2.2 dX12_strength_194
  refine lv_lookup (tgt := 204) (off := 203) hx hb dX12_strength_1 (by decide) ((lv_osw h1 (by decide)).trans ((lv_osw h2 (by decide)).trans ((lv_osw h3 (by decide)).trans ((lv_osw h4 (by decide)).trans ((lv_osw h5 (by decide)).trans ((lv_osw h6 (by decide)).trans ((lv_osw h7 (by decide)).trans ((lv_osw h8 (by decide)).trans ((lv_osw h9 (by decide)).trans ((lv_osw h10 (by decide)).trans ((lv_osw h11 (by decide)).trans ((lv_osw h12 (by decide)).trans ((lv_osw h13 (by decide)).trans ((lv_osw h14 (by decide)).trans ((lv_osw h15 (by decide)).trans ((lv_osw h16 (by decide)).trans ((lv_osw h17 (by decide)).trans ((lv_osw h18 (by decide)).trans ((lv_osw h19 (by decide)).trans ((lv_osw h20 (by decide)).trans ((lv_osw h21 (by decide)).trans rfl))))))))))))))))))))) (by decide) ?_
  refine lv_iconst (v := (-1)) hx hb dX12_strength_204 (by decide) ?_
  refine W.widen (k := 0) (n := 0) (Nat.le_of_ble_eq_true rfl) (Nat.le_of_ble_eq_true rfl) ?_
  exact W.iret (v := (-1)) hx hb hr (fun t ht hW => ⟨⟨_, (), rfl, ⟨_, rfl, Or.inl rfl⟩, by rw [ht]; exact hP.sub [] rfl, hD.sub [] (by decide) rfl⟩, hS.F ht⟩) hS.2.2 dX12_strength_205
set_option maxHeartbeats 2000000 in
set_option maxRecDepth 100000 in
/-- level(l), a fault known -/
theorem RF_levelN (l : Launch) (G : pT) (h0 : Nat) (a : Nat → Nat) (F : Nat → Int32) (B : Nat → Nat → Int32) (at0 : Nat) (T : Nat) (fa : Nat) (K : Nat → Int32) (lv : Nat) (hat : at0 ≤ T) (hT : T ≤ 5000) (hK : K T = 0 ∨ K T = 3) (hfa : fa ≤ 100) (hfp : 0 < fa) (hlv : lv ≤ 10) (hL : If (lv < 10) (PRFlevel l G (lv + 1))) : PM l G pX0 yX12_level cX12_level 6 (some .int) ({ frames := (20 - lv), cells := 0, slots := 0, locals := (1000 - 50 * lv) }) [.ref h0, .int (nI lv)] (mW G h0 a (upd (upd F 15 (nI fa)) 64 (nI at0)) (updA B 2 K)) (fun (v : Option Value) (u : Unit) => v = some (.int 0)) (fun u => (mW G h0 a (upd (upd F 15 (nI fa)) 64 (nI at0)) (updA B 2 K))) := by
  intro sz
  refine Met.ofW (cc := cX12_level) (maxL := 6) (ret := (some .int)) (by decide) rfl ?_
  intro p e s m args below meth c s₁ B9 hml hv
  obtain ⟨rfl, hsz, hP, hD0, hE, hX⟩ := hv
  have hx := B9.exec
  have hb := B9.bytes
  have hr := B9.returns
  have hts := atoms_spec (ws := Cond.code yX12_level cX12_level 6 (some .int) :: pw) B9.pre
  have hq : ∀ w ∈ pw, w.before _ s = true := fun w h => hts w (List.mem_cons_of_mem _ h)
  have hown : s.vm.findClass RX12 = some m.cls := findClass_of_methodNamed B9.named
  have hlocks := B9.notSynchronized
  subst hsz
  have hD := hD0.self (sz := s.heap.size)
  have hA : ∀ q : Nat, s.heap.size ≤ q → va_A (mW G h0 a (upd (upd F 15 (nI fa)) 64 (nI at0)) (updA B 2 K)) s.heap.size q := fun q h => Or.inr h
  have hP : va_P G.1 pCl (mW G h0 a (upd (upd F 15 (nI fa)) 64 (nI at0)) (updA B 2 K)) s.heap := hP
  generalize va_A (mW G h0 a (upd (upd F 15 (nI fa)) 64 (nI at0)) (updA B 2 K)) s.heap.size = A at hD hE hA ⊢
  have hS : va_S A s.heap s.heap [] := va_S.rf
  have hl := lv_entry ([.ref h0, .int (nI lv)]) (n := 6) (Nat.le_of_ble_eq_true rfl)
  rw [lg_entry_eq]
  generalize (lg_sl ([.ref h0, .int (nI lv)]) ++ List.replicate (6 - (lg_sl ([.ref h0, .int (nI lv)])).length) Slot.unset).toArray = ls at hl ⊢
  have hl : lv_has ls 6 [(0, .ref h0), (1, .int (nI lv))] := hl
  refine lv_iload_n hx hb dX12_level_0 rfl (lv_at hl 1 rfl) ?_
  refine lv_bipush (v := 10) hx hb dX12_level_1 (by decide) ?_
  refine lv_icmp_ne (tgt := 11) hx hb dX12_level_3 (by decide) (fun c1 => ?_) (fun c1 => ?_)
  · have n2 : ¬ (lv = 10) := fun h9 => c1 ((nI_eq (a := lv) (b := 10) (by omega) (by omega)).mpr h9)
    refine lv_aload_n hx hb dX12_level_11 rfl (lv_at hl 0 rfl) ?_
    refine lv_iload_n hx hb dX12_level_12 rfl (lv_at hl 1 rfl) ?_
    refine lv_iconst (v := 1) hx hb dX12_level_13 (by decide) ?_
    refine lv_iadd hx hb dX12_level_14 ?_
    refine lv_topi (fun x3 e4 => ?_)
    obtain rfl : x3 = nI (lv + 1) := e4.trans (nI_add (lv) (1))
    have hP : va_P G.1 pCl (mW G h0 a (upd (upd (upd (upd F 15 (nI fa)) 64 (nI at0)) 15 (nI fa)) 64 (nI at0)) (updA (updA B 2 K) 2 K)) _ := mW_to (F := F) (l1 := [(15, (nI fa)), (64, (nI at0))]) (l2 := [(15, (nI fa)), (64, (nI at0)), (15, (nI fa)), (64, (nI at0))]) (V := [(nI fa), (nI at0), (nI fa), (nI at0), (nI fa), (nI at0)]) rfl rfl (show (updA B 2 K) = (updA (updA B 2 K) 2 K) from updsA_eq2 (F := B) (l1 := [(2, K)]) (l2 := [(2, K), (2, K)]) (V := [K, K, K]) rfl rfl) hP
    have hD : va_D A (mW G h0 a (upd (upd (upd (upd F 15 (nI fa)) 64 (nI at0)) 15 (nI fa)) 64 (nI at0)) (updA (updA B 2 K) 2 K)) := mW_D hD
    refine pc_V0 (G := G) (As := [.int (nI (lv + 1))]) (rest := []) hx hb hml hown hq hE hX pX0_al hP hD hS hA hl.1 ((hL (by omega)) h0 a (upd (upd F 15 (nI fa)) 64 (nI at0)) (updA B 2 K) at0 T fa K (by omega) (by omega) hK (by omega) hfp (by omega)) (gV pw_1657 pw_1658 pw_1659 pw_1523 pw_1667) hV_X12_level 0 9 rfl rfl rfl rfl (Nat.le_of_ble_eq_true rfl) dX12_level_15 ⟨Nat.le_of_ble_eq_true rfl, Nat.le_of_ble_eq_true rfl⟩ ⟨(by show (20 - (lv + 1)) + 1 ≤ (20 - lv); omega), (by show 8 + (6 + 11) + (1000 - 50 * (lv + 1)) ≤ (1000 - 50 * lv); omega)⟩ (fun v7 u5 H locs hw6 hP hD hS => ?_)
    obtain rfl : v7 = some (.int 0) := hw6
    have hP : va_P G.1 pCl (mW G h0 a (upd (upd F 15 (nI fa)) 64 (nI at0)) (updA B 2 K)) _ := mW_to (F := F) (l1 := [(15, (nI fa)), (64, (nI at0)), (15, (nI fa)), (64, (nI at0))]) (l2 := [(15, (nI fa)), (64, (nI at0))]) (V := [(nI fa), (nI at0), (nI fa), (nI at0), (nI fa), (nI at0)]) rfl rfl (show (updA (updA B 2 K) 2 K) = (updA B 2 K) from updsA_eq2 (F := B) (l1 := [(2, K), (2, K)]) (l2 := [(2, K)]) (V := [K, K, K]) rfl rfl) hP
    have hD : va_D A (mW G h0 a (upd (upd F 15 (nI fa)) 64 (nI at0)) (updA B 2 K)) := mW_D hD
    refine W.widen (k := 0) (n := 0) (Nat.le_of_ble_eq_true rfl) (Nat.le_of_ble_eq_true rfl) ?_
    refine W.eq (g2 := F0 m 18 ls [.int 0]) rfl ?_
    refine lv_istore_n (lv' := [(2, .int 0), (0, .ref h0), (1, .int (nI lv))]) hx hb dX12_level_18 rfl hl (by decide) rfl (fun ls hl => ?_)
    refine lv_aload_n hx hb dX12_level_19 rfl (lv_at hl 1 rfl) ?_
    refine r_get (v := .int (nI fa)) hx hb hown hq hE hP 15 350 tFX12_15 (by decide) pw_1594 rfl dX12_level_20 ?_
    refine lv_if_ne (tgt := 169) hx hb dX12_level_23 (by decide) (fun c8 => ?_) (fun c8 => (by have n9 : fa = 0 := (nI_eq (a := fa) (b := 0) (by omega) (by omega)).mp c8; omega))
    refine lv_iload_n hx hb dX12_level_169 rfl (lv_at hl 0 rfl) ?_
    have hP : va_P G.1 pCl (mW G h0 a (upd (upd F 15 (nI fa)) 64 (nI at0)) (updA B 2 K)) _ := hP
    have hD : va_D A (mW G h0 a (upd (upd F 15 (nI fa)) 64 (nI at0)) (updA B 2 K)) := mW_D hD
    exact W.iret (v := 0) hx hb hr (fun t9 ht9 hW9 => ⟨⟨_, (), rfl, rfl, by rw [ht9]; exact hP, hD⟩, hS.F ht9⟩) hS.2.2 dX12_level_170
  · have n10 : lv = 10 := (nI_eq (a := lv) (b := 10) (by omega) (by omega)).mp c1
    refine lv_aload_n hx hb dX12_level_6 rfl (lv_at hl 0 rfl) ?_
    have hP : va_P G.1 pCl (mW G h0 a (upd (upd (upd (upd F 15 (nI fa)) 64 (nI at0)) 15 (nI fa)) 64 (nI at0)) (updA (updA B 2 K) 2 K)) _ := mW_to (F := F) (l1 := [(15, (nI fa)), (64, (nI at0))]) (l2 := [(15, (nI fa)), (64, (nI at0)), (15, (nI fa)), (64, (nI at0))]) (V := [(nI fa), (nI at0), (nI fa), (nI at0), (nI fa), (nI at0)]) rfl rfl (show (updA B 2 K) = (updA (updA B 2 K) 2 K) from updsA_eq2 (F := B) (l1 := [(2, K)]) (l2 := [(2, K), (2, K)]) (V := [K, K, K]) rfl rfl) hP
    have hD : va_D A (mW G h0 a (upd (upd (upd (upd F 15 (nI fa)) 64 (nI at0)) 15 (nI fa)) 64 (nI at0)) (updA (updA B 2 K) 2 K)) := mW_D hD
    refine pc_V0 (G := G) (As := []) (rest := []) hx hb hml hown hq hE hX pX0_al hP hD hS hA hl.1 (RF_front l G h0 a (upd (upd F 15 (nI fa)) 64 (nI at0)) (updA B 2 K) at0 T fa K (by omega) (by omega) hK (by omega) (by omega)) (gV pw_1664 pw_1665 pw_1666 pw_1523 pw_1660) hV_X12_front 0 9 rfl rfl rfl rfl (Nat.le_of_ble_eq_true rfl) dX12_level_7 ⟨Nat.le_of_ble_eq_true rfl, Nat.le_of_ble_eq_true rfl⟩ ⟨(by show 4 + 1 ≤ (20 - lv); omega), (by show 8 + (4 + 11) + 107 ≤ (1000 - 50 * lv); omega)⟩ (fun v13 u11 H locs hw12 hP hD hS => ?_)
    obtain rfl : v13 = some (.int 0) := hw12
    have hP : va_P G.1 pCl (mW G h0 a (upd (upd F 15 (nI fa)) 64 (nI at0)) (updA B 2 K)) _ := mW_to (F := F) (l1 := [(15, (nI fa)), (64, (nI at0)), (15, (nI fa)), (64, (nI at0))]) (l2 := [(15, (nI fa)), (64, (nI at0))]) (V := [(nI fa), (nI at0), (nI fa), (nI at0), (nI fa), (nI at0)]) rfl rfl (show (updA (updA B 2 K) 2 K) = (updA B 2 K) from updsA_eq2 (F := B) (l1 := [(2, K), (2, K)]) (l2 := [(2, K)]) (V := [K, K, K]) rfl rfl) hP
    have hD : va_D A (mW G h0 a (upd (upd F 15 (nI fa)) 64 (nI at0)) (updA B 2 K)) := mW_D hD
    refine W.widen (k := 0) (n := 0) (Nat.le_of_ble_eq_true rfl) (Nat.le_of_ble_eq_true rfl) ?_
    refine W.eq (g2 := F0 m 10 ls [.int 0]) rfl ?_
    have hP : va_P G.1 pCl (mW G h0 a (upd (upd F 15 (nI fa)) 64 (nI at0)) (updA B 2 K)) _ := hP
    have hD : va_D A (mW G h0 a (upd (upd F 15 (nI fa)) 64 (nI at0)) (updA B 2 K)) := mW_D hD
    exact W.iret (v := 0) hx hb hr (fun t9 ht9 hW9 => ⟨⟨_, (), rfl, rfl, by rw [ht9]; exact hP, hD⟩, hS.F ht9⟩) hS.2.2 dX12_level_10
theorem RF_levelA (l : Launch) (G : pT) : ∀ d lv : Nat, lv + d = 10 → PRFlevel l G lv := by
  intro d
  induction d with
  | zero => intro lv e; exact fun h0 a F B at0 T fa K hat hT hK hfa hfp hlv => RF_levelN l G h0 a F B at0 T fa K lv hat hT hK hfa hfp hlv (fun z => absurd z (by omega))
  | succ d ih => intro lv e; exact fun h0 a F B at0 T fa K hat hT hK hfa hfp hlv => RF_levelN l G h0 a F B at0 T fa K lv hat hT hK hfa hfp hlv (fun z => ih (lv + 1) (by omega))
theorem hV_X12_choice : yX12_choice.cls = RX12 ∧ yX12_choice.cls ≠ "java/lang/invoke/MethodHandle" ∧ yX12_choice.cls ≠ "java/lang/invoke/VarHandle" ∧ (parseMethodDescriptor yX12_choice.desc).map (fun d => d.parameters.length) = some 0 := by decide +kernel
theorem hV_X12_newHere : yX12_newHere.cls = RX12 ∧ yX12_newHere.cls ≠ "java/lang/invoke/MethodHandle" ∧ yX12_newHere.cls ≠ "java/lang/invoke/VarHandle" ∧ (parseMethodDescriptor yX12_newHere.desc).map (fun d => d.parameters.length) = some 1 := by decide +kernel
theorem hV_X12_arguments : yX12_arguments.cls = RX12 ∧ yX12_arguments.cls ≠ "java/lang/invoke/MethodHandle" ∧ yX12_arguments.cls ≠ "java/lang/invoke/VarHandle" ∧ (parseMethodDescriptor yX12_arguments.desc).map (fun d => d.parameters.length) = some 1 := by decide +kernel
theorem hV_X12_node : yX12_node.cls = RX12 ∧ yX12_node.cls ≠ "java/lang/invoke/MethodHandle" ∧ yX12_node.cls ≠ "java/lang/invoke/VarHandle" ∧ (parseMethodDescriptor yX12_node.desc).map (fun d => d.parameters.length) = some 5 := by decide +kernel
theorem hV_X12_linked : yX12_linked.cls = RX12 ∧ yX12_linked.cls ≠ "java/lang/invoke/MethodHandle" ∧ yX12_linked.cls ≠ "java/lang/invoke/VarHandle" ∧ (parseMethodDescriptor yX12_linked.desc).map (fun d => d.parameters.length) = some 0 := by decide +kernel
