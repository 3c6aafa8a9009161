def PwQ (x : Int32) (r : Nat) : Prop := r = 0 ∨ ¬ x = 67
def PwS (x : Int32) : Prop := x = 0 ∨ x = 15 ∨ x = 44 ∨ x = 45 ∨ x = 46 ∨ x = 47 ∨ x = 48 ∨ x = 49 ∨ x = 50 ∨ x = 51 ∨ x = 54 ∨ x = 55 ∨ x = 56 ∨ x = 57 ∨ x = 58 ∨ x = 59 ∨ x = 60 ∨ x = 61 ∨ x = 62 ∨ x = 63 ∨ x = 64
def PwR (x : Int32) (r : Nat) : Prop := r = 0 ∨ PwS x
def NsS (x : Int32) : Prop := ¬ x = 15 ∧ ¬ x = 0 ∧ ¬ x = 60 ∧ ¬ x = 61
def SnR (x r : Int32) : Prop := r = 17 → NsS x
theorem PwS.sg {x : Int32} (h : PwS x) (n : NsS x) : SgN x := by
  unfold PwS at h
  obtain ⟨n0, n1, n2, n3⟩ := n
  rcases h with h | h | h | h | h | h | h | h | h | h | h | h | h | h | h | h | h | h | h | h | h
  · exact absurd h n1
  · exact absurd h n0
  · rw [h]; unfold SgN; decide
  · rw [h]; unfold SgN; decide
  · rw [h]; unfold SgN; decide
  · rw [h]; unfold SgN; decide
  · rw [h]; unfold SgN; decide
  · rw [h]; unfold SgN; decide
  · rw [h]; unfold SgN; decide
  · rw [h]; unfold SgN; decide
  · rw [h]; unfold SgN; decide
  · rw [h]; unfold SgN; decide
  · rw [h]; unfold SgN; decide
  · rw [h]; unfold SgN; decide
  · rw [h]; unfold SgN; decide
  · rw [h]; unfold SgN; decide
  · exact absurd h n2
  · exact absurd h n3
  · rw [h]; unfold SgN; decide
  · rw [h]; unfold SgN; decide
  · rw [h]; unfold SgN; decide
def PwT (r at9 sz : Nat) : Prop := r = 0 ∨ at9 < sz
def SgK (r : Int32) : Prop := r = 17 ∨ r = 18 ∨ r = 19
set_option maxHeartbeats 8000000 in
set_option maxRecDepth 100000 in
theorem P_power (l : Launch) (G : pT) (h0 : Nat) (a : Nat → Nat) (F : Nat → Int32) (R : Nat → Value) (Z : Int64) (B : Nat → Nat → Int32) (J : Nat → Nat → Int64) (T : Nat → Nat) (Pi : Nat → va_E → Prop) (w : va_W) (x : Int32) (hO : OKW G h0 a F R Z B J T Pi w) : PM l G pX0 yX8_power cX8_power 1 (some .int) ({ frames := 2, cells := 0, slots := 0, locals := 60 }) [.int x] w (fun (v : Option Value) (u : va_W × (Nat)) => v = some (.int (nI u.2)) ∧ (u.2 ≤ 10) ∧ (PwQ x u.2) ∧ (PwR x u.2) ∧ (OKW G h0 a F R Z B J T Pi u.1)) (fun u => u.1) := by
  intro sz
  refine Met.ofW (cc := cX8_power) (maxL := 1) (ret := (some .int)) (by decide) rfl ?_
  intro p e s m args below meth c s₁ B9 hml hv
  obtain ⟨rfl, hsz, hP, hD0, hE, hX⟩ := hv
  have hx := B9.exec
  have hb := B9.bytes
  have hr := B9.returns
  have hts := atoms_spec (ws := Cond.code yX8_power cX8_power 1 (some .int) :: pw) B9.pre
  have hq : ∀ w ∈ pw, w.before _ s = true := fun w h => hts w (List.mem_cons_of_mem _ h)
  have hown : s.vm.findClass RX8 = some m.cls := findClass_of_methodNamed B9.named
  have hlocks := B9.notSynchronized
  subst hsz
  have hD := hD0.self (sz := s.heap.size)
  have hA : ∀ q : Nat, s.heap.size ≤ q → va_A w s.heap.size q := fun q h => Or.inr h
  generalize va_A w s.heap.size = A at hD hE hA ⊢
  have hS : va_S A s.heap s.heap [] := va_S.rf
  have hl := lv_entry ([.int x]) (n := 1) (Nat.le_of_ble_eq_true rfl)
  rw [lg_entry_eq]
  generalize (lg_sl ([.int x]) ++ List.replicate (1 - (lg_sl ([.int x])).length) Slot.unset).toArray = ls at hl ⊢
  have hl : lv_has ls 1 [(0, .int x)] := hl
  obtain ⟨y9, hy9⟩ : ∃ z : Int32, z = x := ⟨_, rfl⟩
  rw [← hy9] at hl
  refine lv_iload_n hx hb dX8_power_0 rfl (lv_at hl 0 rfl) ?_
  by_cases h1 : y9 = 0
  · subst h1
    refine lv_tableIn (tgt := 289) (off := 288) hx hb dX8_power_1 (by decide) (by decide) (by decide) (by decide) ?_
    refine lv_bipush (v := 7) hx hb dX8_power_289 (by decide) ?_
    have hz2 : 7 ≤ 10 := (by omega)
    have hz3 : PwQ x 7 := (Or.inr (by rw [← hy9]; decide))
    have hz4 : PwR x 7 := (Or.inr (by rw [← hy9]; unfold PwS; decide))
    have hO : OKW G h0 a F R Z B J T Pi w := hO.to rfl
    exact W.iret (v := 7) hx hb hr (fun t99 ht99 hW99 => ⟨⟨_, (w, 7), rfl, ⟨rfl, hz2, hz3, hz4, hO⟩, by rw [ht99]; exact hP, hD⟩, hS.F ht99⟩) hS.2.2 dX8_power_291
  by_cases h5 : y9 = 1
  · subst h5
    refine lv_tableIn (tgt := 301) (off := 300) hx hb dX8_power_1 (by decide) (by decide) (by decide) (by decide) ?_
    refine lv_iconst (v := 0) hx hb dX8_power_301 (by decide) ?_
    have hz6 : 0 ≤ 10 := (by omega)
    have hz7 : PwQ x 0 := (Or.inl rfl)
    have hz8 : PwR x 0 := (Or.inl rfl)
    have hO : OKW G h0 a F R Z B J T Pi w := hO.to rfl
    exact W.iret (v := 0) hx hb hr (fun t99 ht99 hW99 => ⟨⟨_, (w, 0), rfl, ⟨rfl, hz6, hz7, hz8, hO⟩, by rw [ht99]; exact hP, hD⟩, hS.F ht99⟩) hS.2.2 dX8_power_302
  by_cases h9 : y9 = 2
  · subst h9
    refine lv_tableIn (tgt := 301) (off := 300) hx hb dX8_power_1 (by decide) (by decide) (by decide) (by decide) ?_
    refine lv_iconst (v := 0) hx hb dX8_power_301 (by decide) ?_
    have hz10 : 0 ≤ 10 := (by omega)
    have hz11 : PwQ x 0 := (Or.inl rfl)
    have hz12 : PwR x 0 := (Or.inl rfl)
    have hO : OKW G h0 a F R Z B J T Pi w := hO.to rfl
    exact W.iret (v := 0) hx hb hr (fun t99 ht99 hW99 => ⟨⟨_, (w, 0), rfl, ⟨rfl, hz10, hz11, hz12, hO⟩, by rw [ht99]; exact hP, hD⟩, hS.F ht99⟩) hS.2.2 dX8_power_302
  by_cases h13 : y9 = 3
  · subst h13
    refine lv_tableIn (tgt := 301) (off := 300) hx hb dX8_power_1 (by decide) (by decide) (by decide) (by decide) ?_
    refine lv_iconst (v := 0) hx hb dX8_power_301 (by decide) ?_
    have hz14 : 0 ≤ 10 := (by omega)
    have hz15 : PwQ x 0 := (Or.inl rfl)
    have hz16 : PwR x 0 := (Or.inl rfl)
    have hO : OKW G h0 a F R Z B J T Pi w := hO.to rfl
    exact W.iret (v := 0) hx hb hr (fun t99 ht99 hW99 => ⟨⟨_, (w, 0), rfl, ⟨rfl, hz14, hz15, hz16, hO⟩, by rw [ht99]; exact hP, hD⟩, hS.F ht99⟩) hS.2.2 dX8_power_302
  by_cases h17 : y9 = 4
  · subst h17
    refine lv_tableIn (tgt := 301) (off := 300) hx hb dX8_power_1 (by decide) (by decide) (by decide) (by decide) ?_
    refine lv_iconst (v := 0) hx hb dX8_power_301 (by decide) ?_
    have hz18 : 0 ≤ 10 := (by omega)
    have hz19 : PwQ x 0 := (Or.inl rfl)
    have hz20 : PwR x 0 := (Or.inl rfl)
    have hO : OKW G h0 a F R Z B J T Pi w := hO.to rfl
    exact W.iret (v := 0) hx hb hr (fun t99 ht99 hW99 => ⟨⟨_, (w, 0), rfl, ⟨rfl, hz18, hz19, hz20, hO⟩, by rw [ht99]; exact hP, hD⟩, hS.F ht99⟩) hS.2.2 dX8_power_302
  by_cases h21 : y9 = 5
  · subst h21
    refine lv_tableIn (tgt := 301) (off := 300) hx hb dX8_power_1 (by decide) (by decide) (by decide) (by decide) ?_
    refine lv_iconst (v := 0) hx hb dX8_power_301 (by decide) ?_
    have hz22 : 0 ≤ 10 := (by omega)
    have hz23 : PwQ x 0 := (Or.inl rfl)
    have hz24 : PwR x 0 := (Or.inl rfl)
    have hO : OKW G h0 a F R Z B J T Pi w := hO.to rfl
    exact W.iret (v := 0) hx hb hr (fun t99 ht99 hW99 => ⟨⟨_, (w, 0), rfl, ⟨rfl, hz22, hz23, hz24, hO⟩, by rw [ht99]; exact hP, hD⟩, hS.F ht99⟩) hS.2.2 dX8_power_302
  by_cases h25 : y9 = 6
  · subst h25
    refine lv_tableIn (tgt := 301) (off := 300) hx hb dX8_power_1 (by decide) (by decide) (by decide) (by decide) ?_
    refine lv_iconst (v := 0) hx hb dX8_power_301 (by decide) ?_
    have hz26 : 0 ≤ 10 := (by omega)
    have hz27 : PwQ x 0 := (Or.inl rfl)
    have hz28 : PwR x 0 := (Or.inl rfl)
    have hO : OKW G h0 a F R Z B J T Pi w := hO.to rfl
    exact W.iret (v := 0) hx hb hr (fun t99 ht99 hW99 => ⟨⟨_, (w, 0), rfl, ⟨rfl, hz26, hz27, hz28, hO⟩, by rw [ht99]; exact hP, hD⟩, hS.F ht99⟩) hS.2.2 dX8_power_302
  by_cases h29 : y9 = 7
  · subst h29
    refine lv_tableIn (tgt := 301) (off := 300) hx hb dX8_power_1 (by decide) (by decide) (by decide) (by decide) ?_
    refine lv_iconst (v := 0) hx hb dX8_power_301 (by decide) ?_
    have hz30 : 0 ≤ 10 := (by omega)
    have hz31 : PwQ x 0 := (Or.inl rfl)
    have hz32 : PwR x 0 := (Or.inl rfl)
    have hO : OKW G h0 a F R Z B J T Pi w := hO.to rfl
    exact W.iret (v := 0) hx hb hr (fun t99 ht99 hW99 => ⟨⟨_, (w, 0), rfl, ⟨rfl, hz30, hz31, hz32, hO⟩, by rw [ht99]; exact hP, hD⟩, hS.F ht99⟩) hS.2.2 dX8_power_302
  by_cases h33 : y9 = 8
  · subst h33
    refine lv_tableIn (tgt := 301) (off := 300) hx hb dX8_power_1 (by decide) (by decide) (by decide) (by decide) ?_
    refine lv_iconst (v := 0) hx hb dX8_power_301 (by decide) ?_
    have hz34 : 0 ≤ 10 := (by omega)
    have hz35 : PwQ x 0 := (Or.inl rfl)
    have hz36 : PwR x 0 := (Or.inl rfl)
    have hO : OKW G h0 a F R Z B J T Pi w := hO.to rfl
    exact W.iret (v := 0) hx hb hr (fun t99 ht99 hW99 => ⟨⟨_, (w, 0), rfl, ⟨rfl, hz34, hz35, hz36, hO⟩, by rw [ht99]; exact hP, hD⟩, hS.F ht99⟩) hS.2.2 dX8_power_302
  by_cases h37 : y9 = 9
  · subst h37
    refine lv_tableIn (tgt := 301) (off := 300) hx hb dX8_power_1 (by decide) (by decide) (by decide) (by decide) ?_
    refine lv_iconst (v := 0) hx hb dX8_power_301 (by decide) ?_
    have hz38 : 0 ≤ 10 := (by omega)
    have hz39 : PwQ x 0 := (Or.inl rfl)
    have hz40 : PwR x 0 := (Or.inl rfl)
    have hO : OKW G h0 a F R Z B J T Pi w := hO.to rfl
    exact W.iret (v := 0) hx hb hr (fun t99 ht99 hW99 => ⟨⟨_, (w, 0), rfl, ⟨rfl, hz38, hz39, hz40, hO⟩, by rw [ht99]; exact hP, hD⟩, hS.F ht99⟩) hS.2.2 dX8_power_302
  by_cases h41 : y9 = 10
  · subst h41
    refine lv_tableIn (tgt := 301) (off := 300) hx hb dX8_power_1 (by decide) (by decide) (by decide) (by decide) ?_
    refine lv_iconst (v := 0) hx hb dX8_power_301 (by decide) ?_
    have hz42 : 0 ≤ 10 := (by omega)
    have hz43 : PwQ x 0 := (Or.inl rfl)
    have hz44 : PwR x 0 := (Or.inl rfl)
    have hO : OKW G h0 a F R Z B J T Pi w := hO.to rfl
    exact W.iret (v := 0) hx hb hr (fun t99 ht99 hW99 => ⟨⟨_, (w, 0), rfl, ⟨rfl, hz42, hz43, hz44, hO⟩, by rw [ht99]; exact hP, hD⟩, hS.F ht99⟩) hS.2.2 dX8_power_302
  by_cases h45 : y9 = 11
  · subst h45
    refine lv_tableIn (tgt := 301) (off := 300) hx hb dX8_power_1 (by decide) (by decide) (by decide) (by decide) ?_
    refine lv_iconst (v := 0) hx hb dX8_power_301 (by decide) ?_
    have hz46 : 0 ≤ 10 := (by omega)
    have hz47 : PwQ x 0 := (Or.inl rfl)
    have hz48 : PwR x 0 := (Or.inl rfl)
    have hO : OKW G h0 a F R Z B J T Pi w := hO.to rfl
    exact W.iret (v := 0) hx hb hr (fun t99 ht99 hW99 => ⟨⟨_, (w, 0), rfl, ⟨rfl, hz46, hz47, hz48, hO⟩, by rw [ht99]; exact hP, hD⟩, hS.F ht99⟩) hS.2.2 dX8_power_302
  by_cases h49 : y9 = 12
  · subst h49
    refine lv_tableIn (tgt := 301) (off := 300) hx hb dX8_power_1 (by decide) (by decide) (by decide) (by decide) ?_
    refine lv_iconst (v := 0) hx hb dX8_power_301 (by decide) ?_
    have hz50 : 0 ≤ 10 := (by omega)
    have hz51 : PwQ x 0 := (Or.inl rfl)
    have hz52 : PwR x 0 := (Or.inl rfl)
    have hO : OKW G h0 a F R Z B J T Pi w := hO.to rfl
    exact W.iret (v := 0) hx hb hr (fun t99 ht99 hW99 => ⟨⟨_, (w, 0), rfl, ⟨rfl, hz50, hz51, hz52, hO⟩, by rw [ht99]; exact hP, hD⟩, hS.F ht99⟩) hS.2.2 dX8_power_302
  by_cases h53 : y9 = 13
  · subst h53
    refine lv_tableIn (tgt := 301) (off := 300) hx hb dX8_power_1 (by decide) (by decide) (by decide) (by decide) ?_
    refine lv_iconst (v := 0) hx hb dX8_power_301 (by decide) ?_
    have hz54 : 0 ≤ 10 := (by omega)
    have hz55 : PwQ x 0 := (Or.inl rfl)
    have hz56 : PwR x 0 := (Or.inl rfl)
    have hO : OKW G h0 a F R Z B J T Pi w := hO.to rfl
    exact W.iret (v := 0) hx hb hr (fun t99 ht99 hW99 => ⟨⟨_, (w, 0), rfl, ⟨rfl, hz54, hz55, hz56, hO⟩, by rw [ht99]; exact hP, hD⟩, hS.F ht99⟩) hS.2.2 dX8_power_302
  by_cases h57 : y9 = 14
  · subst h57
    refine lv_tableIn (tgt := 301) (off := 300) hx hb dX8_power_1 (by decide) (by decide) (by decide) (by decide) ?_
    refine lv_iconst (v := 0) hx hb dX8_power_301 (by decide) ?_
    have hz58 : 0 ≤ 10 := (by omega)
    have hz59 : PwQ x 0 := (Or.inl rfl)
    have hz60 : PwR x 0 := (Or.inl rfl)
    have hO : OKW G h0 a F R Z B J T Pi w := hO.to rfl
    exact W.iret (v := 0) hx hb hr (fun t99 ht99 hW99 => ⟨⟨_, (w, 0), rfl, ⟨rfl, hz58, hz59, hz60, hO⟩, by rw [ht99]; exact hP, hD⟩, hS.F ht99⟩) hS.2.2 dX8_power_302
  by_cases h61 : y9 = 15
  · subst h61
    refine lv_tableIn (tgt := 289) (off := 288) hx hb dX8_power_1 (by decide) (by decide) (by decide) (by decide) ?_
    refine lv_bipush (v := 7) hx hb dX8_power_289 (by decide) ?_
    have hz62 : 7 ≤ 10 := (by omega)
    have hz63 : PwQ x 7 := (Or.inr (by rw [← hy9]; decide))
    have hz64 : PwR x 7 := (Or.inr (by rw [← hy9]; unfold PwS; decide))
    have hO : OKW G h0 a F R Z B J T Pi w := hO.to rfl
    exact W.iret (v := 7) hx hb hr (fun t99 ht99 hW99 => ⟨⟨_, (w, 7), rfl, ⟨rfl, hz62, hz63, hz64, hO⟩, by rw [ht99]; exact hP, hD⟩, hS.F ht99⟩) hS.2.2 dX8_power_291
  by_cases h65 : y9 = 16
  · subst h65
    refine lv_tableIn (tgt := 301) (off := 300) hx hb dX8_power_1 (by decide) (by decide) (by decide) (by decide) ?_
    refine lv_iconst (v := 0) hx hb dX8_power_301 (by decide) ?_
    have hz66 : 0 ≤ 10 := (by omega)
    have hz67 : PwQ x 0 := (Or.inl rfl)
    have hz68 : PwR x 0 := (Or.inl rfl)
    have hO : OKW G h0 a F R Z B J T Pi w := hO.to rfl
    exact W.iret (v := 0) hx hb hr (fun t99 ht99 hW99 => ⟨⟨_, (w, 0), rfl, ⟨rfl, hz66, hz67, hz68, hO⟩, by rw [ht99]; exact hP, hD⟩, hS.F ht99⟩) hS.2.2 dX8_power_302
  by_cases h69 : y9 = 17
  · subst h69
    refine lv_tableIn (tgt := 301) (off := 300) hx hb dX8_power_1 (by decide) (by decide) (by decide) (by decide) ?_
    refine lv_iconst (v := 0) hx hb dX8_power_301 (by decide) ?_
    have hz70 : 0 ≤ 10 := (by omega)
    have hz71 : PwQ x 0 := (Or.inl rfl)
    have hz72 : PwR x 0 := (Or.inl rfl)
    have hO : OKW G h0 a F R Z B J T Pi w := hO.to rfl
    exact W.iret (v := 0) hx hb hr (fun t99 ht99 hW99 => ⟨⟨_, (w, 0), rfl, ⟨rfl, hz70, hz71, hz72, hO⟩, by rw [ht99]; exact hP, hD⟩, hS.F ht99⟩) hS.2.2 dX8_power_302
  by_cases h73 : y9 = 18
  · subst h73
    refine lv_tableIn (tgt := 301) (off := 300) hx hb dX8_power_1 (by decide) (by decide) (by decide) (by decide) ?_
    refine lv_iconst (v := 0) hx hb dX8_power_301 (by decide) ?_
    have hz74 : 0 ≤ 10 := (by omega)
    have hz75 : PwQ x 0 := (Or.inl rfl)
    have hz76 : PwR x 0 := (Or.inl rfl)
    have hO : OKW G h0 a F R Z B J T Pi w := hO.to rfl
    exact W.iret (v := 0) hx hb hr (fun t99 ht99 hW99 => ⟨⟨_, (w, 0), rfl, ⟨rfl, hz74, hz75, hz76, hO⟩, by rw [ht99]; exact hP, hD⟩, hS.F ht99⟩) hS.2.2 dX8_power_302
  by_cases h77 : y9 = 19
  · subst h77
    refine lv_tableIn (tgt := 301) (off := 300) hx hb dX8_power_1 (by decide) (by decide) (by decide) (by decide) ?_
    refine lv_iconst (v := 0) hx hb dX8_power_301 (by decide) ?_
    have hz78 : 0 ≤ 10 := (by omega)
    have hz79 : PwQ x 0 := (Or.inl rfl)
    have hz80 : PwR x 0 := (Or.inl rfl)
    have hO : OKW G h0 a F R Z B J T Pi w := hO.to rfl
    exact W.iret (v := 0) hx hb hr (fun t99 ht99 hW99 => ⟨⟨_, (w, 0), rfl, ⟨rfl, hz78, hz79, hz80, hO⟩, by rw [ht99]; exact hP, hD⟩, hS.F ht99⟩) hS.2.2 dX8_power_302
  by_cases h81 : y9 = 20
  · subst h81
    refine lv_tableIn (tgt := 301) (off := 300) hx hb dX8_power_1 (by decide) (by decide) (by decide) (by decide) ?_
    refine lv_iconst (v := 0) hx hb dX8_power_301 (by decide) ?_
    have hz82 : 0 ≤ 10 := (by omega)
    have hz83 : PwQ x 0 := (Or.inl rfl)
    have hz84 : PwR x 0 := (Or.inl rfl)
    have hO : OKW G h0 a F R Z B J T Pi w := hO.to rfl
    exact W.iret (v := 0) hx hb hr (fun t99 ht99 hW99 => ⟨⟨_, (w, 0), rfl, ⟨rfl, hz82, hz83, hz84, hO⟩, by rw [ht99]; exact hP, hD⟩, hS.F ht99⟩) hS.2.2 dX8_power_302
  by_cases h85 : y9 = 21
  · subst h85
    refine lv_tableIn (tgt := 301) (off := 300) hx hb dX8_power_1 (by decide) (by decide) (by decide) (by decide) ?_
    refine lv_iconst (v := 0) hx hb dX8_power_301 (by decide) ?_
    have hz86 : 0 ≤ 10 := (by omega)
    have hz87 : PwQ x 0 := (Or.inl rfl)
    have hz88 : PwR x 0 := (Or.inl rfl)
    have hO : OKW G h0 a F R Z B J T Pi w := hO.to rfl
    exact W.iret (v := 0) hx hb hr (fun t99 ht99 hW99 => ⟨⟨_, (w, 0), rfl, ⟨rfl, hz86, hz87, hz88, hO⟩, by rw [ht99]; exact hP, hD⟩, hS.F ht99⟩) hS.2.2 dX8_power_302
  by_cases h89 : y9 = 22
  · subst h89
    refine lv_tableIn (tgt := 301) (off := 300) hx hb dX8_power_1 (by decide) (by decide) (by decide) (by decide) ?_
    refine lv_iconst (v := 0) hx hb dX8_power_301 (by decide) ?_
    have hz90 : 0 ≤ 10 := (by omega)
    have hz91 : PwQ x 0 := (Or.inl rfl)
    have hz92 : PwR x 0 := (Or.inl rfl)
    have hO : OKW G h0 a F R Z B J T Pi w := hO.to rfl
    exact W.iret (v := 0) hx hb hr (fun t99 ht99 hW99 => ⟨⟨_, (w, 0), rfl, ⟨rfl, hz90, hz91, hz92, hO⟩, by rw [ht99]; exact hP, hD⟩, hS.F ht99⟩) hS.2.2 dX8_power_302
  by_cases h93 : y9 = 23
  · subst h93
    refine lv_tableIn (tgt := 301) (off := 300) hx hb dX8_power_1 (by decide) (by decide) (by decide) (by decide) ?_
    refine lv_iconst (v := 0) hx hb dX8_power_301 (by decide) ?_
    have hz94 : 0 ≤ 10 := (by omega)
    have hz95 : PwQ x 0 := (Or.inl rfl)
    have hz96 : PwR x 0 := (Or.inl rfl)
    have hO : OKW G h0 a F R Z B J T Pi w := hO.to rfl
    exact W.iret (v := 0) hx hb hr (fun t99 ht99 hW99 => ⟨⟨_, (w, 0), rfl, ⟨rfl, hz94, hz95, hz96, hO⟩, by rw [ht99]; exact hP, hD⟩, hS.F ht99⟩) hS.2.2 dX8_power_302
  by_cases h97 : y9 = 24
  · subst h97
    refine lv_tableIn (tgt := 301) (off := 300) hx hb dX8_power_1 (by decide) (by decide) (by decide) (by decide) ?_
    refine lv_iconst (v := 0) hx hb dX8_power_301 (by decide) ?_
    have hz98 : 0 ≤ 10 := (by omega)
    have hz99 : PwQ x 0 := (Or.inl rfl)
    have hz100 : PwR x 0 := (Or.inl rfl)
    have hO : OKW G h0 a F R Z B J T Pi w := hO.to rfl
    exact W.iret (v := 0) hx hb hr (fun t99 ht99 hW99 => ⟨⟨_, (w, 0), rfl, ⟨rfl, hz98, hz99, hz100, hO⟩, by rw [ht99]; exact hP, hD⟩, hS.F ht99⟩) hS.2.2 dX8_power_302
  by_cases h101 : y9 = 25
  · subst h101
    refine lv_tableIn (tgt := 301) (off := 300) hx hb dX8_power_1 (by decide) (by decide) (by decide) (by decide) ?_
    refine lv_iconst (v := 0) hx hb dX8_power_301 (by decide) ?_
    have hz102 : 0 ≤ 10 := (by omega)
    have hz103 : PwQ x 0 := (Or.inl rfl)
    have hz104 : PwR x 0 := (Or.inl rfl)
    have hO : OKW G h0 a F R Z B J T Pi w := hO.to rfl
    exact W.iret (v := 0) hx hb hr (fun t99 ht99 hW99 => ⟨⟨_, (w, 0), rfl, ⟨rfl, hz102, hz103, hz104, hO⟩, by rw [ht99]; exact hP, hD⟩, hS.F ht99⟩) hS.2.2 dX8_power_302
  by_cases h105 : y9 = 26
  · subst h105
    refine lv_tableIn (tgt := 301) (off := 300) hx hb dX8_power_1 (by decide) (by decide) (by decide) (by decide) ?_
    refine lv_iconst (v := 0) hx hb dX8_power_301 (by decide) ?_
    have hz106 : 0 ≤ 10 := (by omega)
    have hz107 : PwQ x 0 := (Or.inl rfl)
    have hz108 : PwR x 0 := (Or.inl rfl)
    have hO : OKW G h0 a F R Z B J T Pi w := hO.to rfl
    exact W.iret (v := 0) hx hb hr (fun t99 ht99 hW99 => ⟨⟨_, (w, 0), rfl, ⟨rfl, hz106, hz107, hz108, hO⟩, by rw [ht99]; exact hP, hD⟩, hS.F ht99⟩) hS.2.2 dX8_power_302
  by_cases h109 : y9 = 27
  · subst h109
    refine lv_tableIn (tgt := 301) (off := 300) hx hb dX8_power_1 (by decide) (by decide) (by decide) (by decide) ?_
    refine lv_iconst (v := 0) hx hb dX8_power_301 (by decide) ?_
    have hz110 : 0 ≤ 10 := (by omega)
    have hz111 : PwQ x 0 := (Or.inl rfl)
    have hz112 : PwR x 0 := (Or.inl rfl)
    have hO : OKW G h0 a F R Z B J T Pi w := hO.to rfl
    exact W.iret (v := 0) hx hb hr (fun t99 ht99 hW99 => ⟨⟨_, (w, 0), rfl, ⟨rfl, hz110, hz111, hz112, hO⟩, by rw [ht99]; exact hP, hD⟩, hS.F ht99⟩) hS.2.2 dX8_power_302
  by_cases h113 : y9 = 28
  · subst h113
    refine lv_tableIn (tgt := 301) (off := 300) hx hb dX8_power_1 (by decide) (by decide) (by decide) (by decide) ?_
    refine lv_iconst (v := 0) hx hb dX8_power_301 (by decide) ?_
    have hz114 : 0 ≤ 10 := (by omega)
    have hz115 : PwQ x 0 := (Or.inl rfl)
    have hz116 : PwR x 0 := (Or.inl rfl)
    have hO : OKW G h0 a F R Z B J T Pi w := hO.to rfl
    exact W.iret (v := 0) hx hb hr (fun t99 ht99 hW99 => ⟨⟨_, (w, 0), rfl, ⟨rfl, hz114, hz115, hz116, hO⟩, by rw [ht99]; exact hP, hD⟩, hS.F ht99⟩) hS.2.2 dX8_power_302
  by_cases h117 : y9 = 29
  · subst h117
    refine lv_tableIn (tgt := 301) (off := 300) hx hb dX8_power_1 (by decide) (by decide) (by decide) (by decide) ?_
    refine lv_iconst (v := 0) hx hb dX8_power_301 (by decide) ?_
    have hz118 : 0 ≤ 10 := (by omega)
    have hz119 : PwQ x 0 := (Or.inl rfl)
    have hz120 : PwR x 0 := (Or.inl rfl)
    have hO : OKW G h0 a F R Z B J T Pi w := hO.to rfl
    exact W.iret (v := 0) hx hb hr (fun t99 ht99 hW99 => ⟨⟨_, (w, 0), rfl, ⟨rfl, hz118, hz119, hz120, hO⟩, by rw [ht99]; exact hP, hD⟩, hS.F ht99⟩) hS.2.2 dX8_power_302
  by_cases h121 : y9 = 30
  · subst h121
    refine lv_tableIn (tgt := 301) (off := 300) hx hb dX8_power_1 (by decide) (by decide) (by decide) (by decide) ?_
    refine lv_iconst (v := 0) hx hb dX8_power_301 (by decide) ?_
    have hz122 : 0 ≤ 10 := (by omega)
    have hz123 : PwQ x 0 := (Or.inl rfl)
    have hz124 : PwR x 0 := (Or.inl rfl)
    have hO : OKW G h0 a F R Z B J T Pi w := hO.to rfl
    exact W.iret (v := 0) hx hb hr (fun t99 ht99 hW99 => ⟨⟨_, (w, 0), rfl, ⟨rfl, hz122, hz123, hz124, hO⟩, by rw [ht99]; exact hP, hD⟩, hS.F ht99⟩) hS.2.2 dX8_power_302
  by_cases h125 : y9 = 31
  · subst h125
    refine lv_tableIn (tgt := 301) (off := 300) hx hb dX8_power_1 (by decide) (by decide) (by decide) (by decide) ?_
    refine lv_iconst (v := 0) hx hb dX8_power_301 (by decide) ?_
    have hz126 : 0 ≤ 10 := (by omega)
    have hz127 : PwQ x 0 := (Or.inl rfl)
    have hz128 : PwR x 0 := (Or.inl rfl)
    have hO : OKW G h0 a F R Z B J T Pi w := hO.to rfl
    exact W.iret (v := 0) hx hb hr (fun t99 ht99 hW99 => ⟨⟨_, (w, 0), rfl, ⟨rfl, hz126, hz127, hz128, hO⟩, by rw [ht99]; exact hP, hD⟩, hS.F ht99⟩) hS.2.2 dX8_power_302
  by_cases h129 : y9 = 32
  · subst h129
    refine lv_tableIn (tgt := 301) (off := 300) hx hb dX8_power_1 (by decide) (by decide) (by decide) (by decide) ?_
    refine lv_iconst (v := 0) hx hb dX8_power_301 (by decide) ?_
    have hz130 : 0 ≤ 10 := (by omega)
    have hz131 : PwQ x 0 := (Or.inl rfl)
    have hz132 : PwR x 0 := (Or.inl rfl)
    have hO : OKW G h0 a F R Z B J T Pi w := hO.to rfl
    exact W.iret (v := 0) hx hb hr (fun t99 ht99 hW99 => ⟨⟨_, (w, 0), rfl, ⟨rfl, hz130, hz131, hz132, hO⟩, by rw [ht99]; exact hP, hD⟩, hS.F ht99⟩) hS.2.2 dX8_power_302
  by_cases h133 : y9 = 33
  · subst h133
    refine lv_tableIn (tgt := 301) (off := 300) hx hb dX8_power_1 (by decide) (by decide) (by decide) (by decide) ?_
    refine lv_iconst (v := 0) hx hb dX8_power_301 (by decide) ?_
    have hz134 : 0 ≤ 10 := (by omega)
    have hz135 : PwQ x 0 := (Or.inl rfl)
    have hz136 : PwR x 0 := (Or.inl rfl)
    have hO : OKW G h0 a F R Z B J T Pi w := hO.to rfl
    exact W.iret (v := 0) hx hb hr (fun t99 ht99 hW99 => ⟨⟨_, (w, 0), rfl, ⟨rfl, hz134, hz135, hz136, hO⟩, by rw [ht99]; exact hP, hD⟩, hS.F ht99⟩) hS.2.2 dX8_power_302
  by_cases h137 : y9 = 34
  · subst h137
    refine lv_tableIn (tgt := 301) (off := 300) hx hb dX8_power_1 (by decide) (by decide) (by decide) (by decide) ?_
    refine lv_iconst (v := 0) hx hb dX8_power_301 (by decide) ?_
    have hz138 : 0 ≤ 10 := (by omega)
    have hz139 : PwQ x 0 := (Or.inl rfl)
    have hz140 : PwR x 0 := (Or.inl rfl)
    have hO : OKW G h0 a F R Z B J T Pi w := hO.to rfl
    exact W.iret (v := 0) hx hb hr (fun t99 ht99 hW99 => ⟨⟨_, (w, 0), rfl, ⟨rfl, hz138, hz139, hz140, hO⟩, by rw [ht99]; exact hP, hD⟩, hS.F ht99⟩) hS.2.2 dX8_power_302
  by_cases h141 : y9 = 35
  · subst h141
    refine lv_tableIn (tgt := 301) (off := 300) hx hb dX8_power_1 (by decide) (by decide) (by decide) (by decide) ?_
    refine lv_iconst (v := 0) hx hb dX8_power_301 (by decide) ?_
    have hz142 : 0 ≤ 10 := (by omega)
    have hz143 : PwQ x 0 := (Or.inl rfl)
    have hz144 : PwR x 0 := (Or.inl rfl)
    have hO : OKW G h0 a F R Z B J T Pi w := hO.to rfl
    exact W.iret (v := 0) hx hb hr (fun t99 ht99 hW99 => ⟨⟨_, (w, 0), rfl, ⟨rfl, hz142, hz143, hz144, hO⟩, by rw [ht99]; exact hP, hD⟩, hS.F ht99⟩) hS.2.2 dX8_power_302
  by_cases h145 : y9 = 36
  · subst h145
    refine lv_tableIn (tgt := 301) (off := 300) hx hb dX8_power_1 (by decide) (by decide) (by decide) (by decide) ?_
    refine lv_iconst (v := 0) hx hb dX8_power_301 (by decide) ?_
    have hz146 : 0 ≤ 10 := (by omega)
    have hz147 : PwQ x 0 := (Or.inl rfl)
    have hz148 : PwR x 0 := (Or.inl rfl)
    have hO : OKW G h0 a F R Z B J T Pi w := hO.to rfl
    exact W.iret (v := 0) hx hb hr (fun t99 ht99 hW99 => ⟨⟨_, (w, 0), rfl, ⟨rfl, hz146, hz147, hz148, hO⟩, by rw [ht99]; exact hP, hD⟩, hS.F ht99⟩) hS.2.2 dX8_power_302
  by_cases h149 : y9 = 37
  · subst h149
    refine lv_tableIn (tgt := 301) (off := 300) hx hb dX8_power_1 (by decide) (by decide) (by decide) (by decide) ?_
    refine lv_iconst (v := 0) hx hb dX8_power_301 (by decide) ?_
    have hz150 : 0 ≤ 10 := (by omega)
    have hz151 : PwQ x 0 := (Or.inl rfl)
    have hz152 : PwR x 0 := (Or.inl rfl)
    have hO : OKW G h0 a F R Z B J T Pi w := hO.to rfl
    exact W.iret (v := 0) hx hb hr (fun t99 ht99 hW99 => ⟨⟨_, (w, 0), rfl, ⟨rfl, hz150, hz151, hz152, hO⟩, by rw [ht99]; exact hP, hD⟩, hS.F ht99⟩) hS.2.2 dX8_power_302
  by_cases h153 : y9 = 38
  · subst h153
    refine lv_tableIn (tgt := 301) (off := 300) hx hb dX8_power_1 (by decide) (by decide) (by decide) (by decide) ?_
    refine lv_iconst (v := 0) hx hb dX8_power_301 (by decide) ?_
    have hz154 : 0 ≤ 10 := (by omega)
    have hz155 : PwQ x 0 := (Or.inl rfl)
    have hz156 : PwR x 0 := (Or.inl rfl)
    have hO : OKW G h0 a F R Z B J T Pi w := hO.to rfl
    exact W.iret (v := 0) hx hb hr (fun t99 ht99 hW99 => ⟨⟨_, (w, 0), rfl, ⟨rfl, hz154, hz155, hz156, hO⟩, by rw [ht99]; exact hP, hD⟩, hS.F ht99⟩) hS.2.2 dX8_power_302
  by_cases h157 : y9 = 39
  · subst h157
    refine lv_tableIn (tgt := 301) (off := 300) hx hb dX8_power_1 (by decide) (by decide) (by decide) (by decide) ?_
    refine lv_iconst (v := 0) hx hb dX8_power_301 (by decide) ?_
    have hz158 : 0 ≤ 10 := (by omega)
    have hz159 : PwQ x 0 := (Or.inl rfl)
    have hz160 : PwR x 0 := (Or.inl rfl)
    have hO : OKW G h0 a F R Z B J T Pi w := hO.to rfl
    exact W.iret (v := 0) hx hb hr (fun t99 ht99 hW99 => ⟨⟨_, (w, 0), rfl, ⟨rfl, hz158, hz159, hz160, hO⟩, by rw [ht99]; exact hP, hD⟩, hS.F ht99⟩) hS.2.2 dX8_power_302
  by_cases h161 : y9 = 40
  · subst h161
    refine lv_tableIn (tgt := 301) (off := 300) hx hb dX8_power_1 (by decide) (by decide) (by decide) (by decide) ?_
    refine lv_iconst (v := 0) hx hb dX8_power_301 (by decide) ?_
    have hz162 : 0 ≤ 10 := (by omega)
    have hz163 : PwQ x 0 := (Or.inl rfl)
    have hz164 : PwR x 0 := (Or.inl rfl)
    have hO : OKW G h0 a F R Z B J T Pi w := hO.to rfl
    exact W.iret (v := 0) hx hb hr (fun t99 ht99 hW99 => ⟨⟨_, (w, 0), rfl, ⟨rfl, hz162, hz163, hz164, hO⟩, by rw [ht99]; exact hP, hD⟩, hS.F ht99⟩) hS.2.2 dX8_power_302
  by_cases h165 : y9 = 41
  · subst h165
    refine lv_tableIn (tgt := 301) (off := 300) hx hb dX8_power_1 (by decide) (by decide) (by decide) (by decide) ?_
    refine lv_iconst (v := 0) hx hb dX8_power_301 (by decide) ?_
    have hz166 : 0 ≤ 10 := (by omega)
    have hz167 : PwQ x 0 := (Or.inl rfl)
    have hz168 : PwR x 0 := (Or.inl rfl)
    have hO : OKW G h0 a F R Z B J T Pi w := hO.to rfl
    exact W.iret (v := 0) hx hb hr (fun t99 ht99 hW99 => ⟨⟨_, (w, 0), rfl, ⟨rfl, hz166, hz167, hz168, hO⟩, by rw [ht99]; exact hP, hD⟩, hS.F ht99⟩) hS.2.2 dX8_power_302
  by_cases h169 : y9 = 42
  · subst h169
    refine lv_tableIn (tgt := 301) (off := 300) hx hb dX8_power_1 (by decide) (by decide) (by decide) (by decide) ?_
    refine lv_iconst (v := 0) hx hb dX8_power_301 (by decide) ?_
    have hz170 : 0 ≤ 10 := (by omega)
    have hz171 : PwQ x 0 := (Or.inl rfl)
    have hz172 : PwR x 0 := (Or.inl rfl)
    have hO : OKW G h0 a F R Z B J T Pi w := hO.to rfl
    exact W.iret (v := 0) hx hb hr (fun t99 ht99 hW99 => ⟨⟨_, (w, 0), rfl, ⟨rfl, hz170, hz171, hz172, hO⟩, by rw [ht99]; exact hP, hD⟩, hS.F ht99⟩) hS.2.2 dX8_power_302
  by_cases h173 : y9 = 43
  · subst h173
    refine lv_tableIn (tgt := 301) (off := 300) hx hb dX8_power_1 (by decide) (by decide) (by decide) (by decide) ?_
    refine lv_iconst (v := 0) hx hb dX8_power_301 (by decide) ?_
    have hz174 : 0 ≤ 10 := (by omega)
    have hz175 : PwQ x 0 := (Or.inl rfl)
    have hz176 : PwR x 0 := (Or.inl rfl)
    have hO : OKW G h0 a F R Z B J T Pi w := hO.to rfl
    exact W.iret (v := 0) hx hb hr (fun t99 ht99 hW99 => ⟨⟨_, (w, 0), rfl, ⟨rfl, hz174, hz175, hz176, hO⟩, by rw [ht99]; exact hP, hD⟩, hS.F ht99⟩) hS.2.2 dX8_power_302
  by_cases h177 : y9 = 44
  · subst h177
    refine lv_tableIn (tgt := 295) (off := 294) hx hb dX8_power_1 (by decide) (by decide) (by decide) (by decide) ?_
    refine lv_bipush (v := 9) hx hb dX8_power_295 (by decide) ?_
    have hz178 : 9 ≤ 10 := (by omega)
    have hz179 : PwQ x 9 := (Or.inr (by rw [← hy9]; decide))
    have hz180 : PwR x 9 := (Or.inr (by rw [← hy9]; unfold PwS; decide))
    have hO : OKW G h0 a F R Z B J T Pi w := hO.to rfl
    exact W.iret (v := 9) hx hb hr (fun t99 ht99 hW99 => ⟨⟨_, (w, 9), rfl, ⟨rfl, hz178, hz179, hz180, hO⟩, by rw [ht99]; exact hP, hD⟩, hS.F ht99⟩) hS.2.2 dX8_power_297
  by_cases h181 : y9 = 45
  · subst h181
    refine lv_tableIn (tgt := 295) (off := 294) hx hb dX8_power_1 (by decide) (by decide) (by decide) (by decide) ?_
    refine lv_bipush (v := 9) hx hb dX8_power_295 (by decide) ?_
    have hz182 : 9 ≤ 10 := (by omega)
    have hz183 : PwQ x 9 := (Or.inr (by rw [← hy9]; decide))
    have hz184 : PwR x 9 := (Or.inr (by rw [← hy9]; unfold PwS; decide))
    have hO : OKW G h0 a F R Z B J T Pi w := hO.to rfl
    exact W.iret (v := 9) hx hb hr (fun t99 ht99 hW99 => ⟨⟨_, (w, 9), rfl, ⟨rfl, hz182, hz183, hz184, hO⟩, by rw [ht99]; exact hP, hD⟩, hS.F ht99⟩) hS.2.2 dX8_power_297
  by_cases h185 : y9 = 46
  · subst h185
    refine lv_tableIn (tgt := 298) (off := 297) hx hb dX8_power_1 (by decide) (by decide) (by decide) (by decide) ?_
    refine lv_bipush (v := 10) hx hb dX8_power_298 (by decide) ?_
    have hz186 : 10 ≤ 10 := (by omega)
    have hz187 : PwQ x 10 := (Or.inr (by rw [← hy9]; decide))
    have hz188 : PwR x 10 := (Or.inr (by rw [← hy9]; unfold PwS; decide))
    have hO : OKW G h0 a F R Z B J T Pi w := hO.to rfl
    exact W.iret (v := 10) hx hb hr (fun t99 ht99 hW99 => ⟨⟨_, (w, 10), rfl, ⟨rfl, hz186, hz187, hz188, hO⟩, by rw [ht99]; exact hP, hD⟩, hS.F ht99⟩) hS.2.2 dX8_power_300
  by_cases h189 : y9 = 47
  · subst h189
    refine lv_tableIn (tgt := 298) (off := 297) hx hb dX8_power_1 (by decide) (by decide) (by decide) (by decide) ?_
    refine lv_bipush (v := 10) hx hb dX8_power_298 (by decide) ?_
    have hz190 : 10 ≤ 10 := (by omega)
    have hz191 : PwQ x 10 := (Or.inr (by rw [← hy9]; decide))
    have hz192 : PwR x 10 := (Or.inr (by rw [← hy9]; unfold PwS; decide))
    have hO : OKW G h0 a F R Z B J T Pi w := hO.to rfl
    exact W.iret (v := 10) hx hb hr (fun t99 ht99 hW99 => ⟨⟨_, (w, 10), rfl, ⟨rfl, hz190, hz191, hz192, hO⟩, by rw [ht99]; exact hP, hD⟩, hS.F ht99⟩) hS.2.2 dX8_power_300
  by_cases h193 : y9 = 48
  · subst h193
    refine lv_tableIn (tgt := 298) (off := 297) hx hb dX8_power_1 (by decide) (by decide) (by decide) (by decide) ?_
    refine lv_bipush (v := 10) hx hb dX8_power_298 (by decide) ?_
    have hz194 : 10 ≤ 10 := (by omega)
    have hz195 : PwQ x 10 := (Or.inr (by rw [← hy9]; decide))
    have hz196 : PwR x 10 := (Or.inr (by rw [← hy9]; unfold PwS; decide))
    have hO : OKW G h0 a F R Z B J T Pi w := hO.to rfl
    exact W.iret (v := 10) hx hb hr (fun t99 ht99 hW99 => ⟨⟨_, (w, 10), rfl, ⟨rfl, hz194, hz195, hz196, hO⟩, by rw [ht99]; exact hP, hD⟩, hS.F ht99⟩) hS.2.2 dX8_power_300
  by_cases h197 : y9 = 49
  · subst h197
    refine lv_tableIn (tgt := 284) (off := 283) hx hb dX8_power_1 (by decide) (by decide) (by decide) (by decide) ?_
    refine lv_iconst (v := 5) hx hb dX8_power_284 (by decide) ?_
    have hz198 : 5 ≤ 10 := (by omega)
    have hz199 : PwQ x 5 := (Or.inr (by rw [← hy9]; decide))
    have hz200 : PwR x 5 := (Or.inr (by rw [← hy9]; unfold PwS; decide))
    have hO : OKW G h0 a F R Z B J T Pi w := hO.to rfl
    exact W.iret (v := 5) hx hb hr (fun t99 ht99 hW99 => ⟨⟨_, (w, 5), rfl, ⟨rfl, hz198, hz199, hz200, hO⟩, by rw [ht99]; exact hP, hD⟩, hS.F ht99⟩) hS.2.2 dX8_power_285
  by_cases h201 : y9 = 50
  · subst h201
    refine lv_tableIn (tgt := 280) (off := 279) hx hb dX8_power_1 (by decide) (by decide) (by decide) (by decide) ?_
    refine lv_iconst (v := 3) hx hb dX8_power_280 (by decide) ?_
    have hz202 : 3 ≤ 10 := (by omega)
    have hz203 : PwQ x 3 := (Or.inr (by rw [← hy9]; decide))
    have hz204 : PwR x 3 := (Or.inr (by rw [← hy9]; unfold PwS; decide))
    have hO : OKW G h0 a F R Z B J T Pi w := hO.to rfl
    exact W.iret (v := 3) hx hb hr (fun t99 ht99 hW99 => ⟨⟨_, (w, 3), rfl, ⟨rfl, hz202, hz203, hz204, hO⟩, by rw [ht99]; exact hP, hD⟩, hS.F ht99⟩) hS.2.2 dX8_power_281
  by_cases h205 : y9 = 51
  · subst h205
    refine lv_tableIn (tgt := 282) (off := 281) hx hb dX8_power_1 (by decide) (by decide) (by decide) (by decide) ?_
    refine lv_iconst (v := 4) hx hb dX8_power_282 (by decide) ?_
    have hz206 : 4 ≤ 10 := (by omega)
    have hz207 : PwQ x 4 := (Or.inr (by rw [← hy9]; decide))
    have hz208 : PwR x 4 := (Or.inr (by rw [← hy9]; unfold PwS; decide))
    have hO : OKW G h0 a F R Z B J T Pi w := hO.to rfl
    exact W.iret (v := 4) hx hb hr (fun t99 ht99 hW99 => ⟨⟨_, (w, 4), rfl, ⟨rfl, hz206, hz207, hz208, hO⟩, by rw [ht99]; exact hP, hD⟩, hS.F ht99⟩) hS.2.2 dX8_power_283
  by_cases h209 : y9 = 52
  · subst h209
    refine lv_tableIn (tgt := 301) (off := 300) hx hb dX8_power_1 (by decide) (by decide) (by decide) (by decide) ?_
    refine lv_iconst (v := 0) hx hb dX8_power_301 (by decide) ?_
    have hz210 : 0 ≤ 10 := (by omega)
    have hz211 : PwQ x 0 := (Or.inl rfl)
    have hz212 : PwR x 0 := (Or.inl rfl)
    have hO : OKW G h0 a F R Z B J T Pi w := hO.to rfl
    exact W.iret (v := 0) hx hb hr (fun t99 ht99 hW99 => ⟨⟨_, (w, 0), rfl, ⟨rfl, hz210, hz211, hz212, hO⟩, by rw [ht99]; exact hP, hD⟩, hS.F ht99⟩) hS.2.2 dX8_power_302
  by_cases h213 : y9 = 53
  · subst h213
    refine lv_tableIn (tgt := 301) (off := 300) hx hb dX8_power_1 (by decide) (by decide) (by decide) (by decide) ?_
    refine lv_iconst (v := 0) hx hb dX8_power_301 (by decide) ?_
    have hz214 : 0 ≤ 10 := (by omega)
    have hz215 : PwQ x 0 := (Or.inl rfl)
    have hz216 : PwR x 0 := (Or.inl rfl)
    have hO : OKW G h0 a F R Z B J T Pi w := hO.to rfl
    exact W.iret (v := 0) hx hb hr (fun t99 ht99 hW99 => ⟨⟨_, (w, 0), rfl, ⟨rfl, hz214, hz215, hz216, hO⟩, by rw [ht99]; exact hP, hD⟩, hS.F ht99⟩) hS.2.2 dX8_power_302
  by_cases h217 : y9 = 54
  · subst h217
    refine lv_tableIn (tgt := 289) (off := 288) hx hb dX8_power_1 (by decide) (by decide) (by decide) (by decide) ?_
    refine lv_bipush (v := 7) hx hb dX8_power_289 (by decide) ?_
    have hz218 : 7 ≤ 10 := (by omega)
    have hz219 : PwQ x 7 := (Or.inr (by rw [← hy9]; decide))
    have hz220 : PwR x 7 := (Or.inr (by rw [← hy9]; unfold PwS; decide))
    have hO : OKW G h0 a F R Z B J T Pi w := hO.to rfl
    exact W.iret (v := 7) hx hb hr (fun t99 ht99 hW99 => ⟨⟨_, (w, 7), rfl, ⟨rfl, hz218, hz219, hz220, hO⟩, by rw [ht99]; exact hP, hD⟩, hS.F ht99⟩) hS.2.2 dX8_power_291
  by_cases h221 : y9 = 55
  · subst h221
    refine lv_tableIn (tgt := 289) (off := 288) hx hb dX8_power_1 (by decide) (by decide) (by decide) (by decide) ?_
    refine lv_bipush (v := 7) hx hb dX8_power_289 (by decide) ?_
    have hz222 : 7 ≤ 10 := (by omega)
    have hz223 : PwQ x 7 := (Or.inr (by rw [← hy9]; decide))
    have hz224 : PwR x 7 := (Or.inr (by rw [← hy9]; unfold PwS; decide))
    have hO : OKW G h0 a F R Z B J T Pi w := hO.to rfl
    exact W.iret (v := 7) hx hb hr (fun t99 ht99 hW99 => ⟨⟨_, (w, 7), rfl, ⟨rfl, hz222, hz223, hz224, hO⟩, by rw [ht99]; exact hP, hD⟩, hS.F ht99⟩) hS.2.2 dX8_power_291
  by_cases h225 : y9 = 56
  · subst h225
    refine lv_tableIn (tgt := 289) (off := 288) hx hb dX8_power_1 (by decide) (by decide) (by decide) (by decide) ?_
    refine lv_bipush (v := 7) hx hb dX8_power_289 (by decide) ?_
    have hz226 : 7 ≤ 10 := (by omega)
    have hz227 : PwQ x 7 := (Or.inr (by rw [← hy9]; decide))
    have hz228 : PwR x 7 := (Or.inr (by rw [← hy9]; unfold PwS; decide))
    have hO : OKW G h0 a F R Z B J T Pi w := hO.to rfl
    exact W.iret (v := 7) hx hb hr (fun t99 ht99 hW99 => ⟨⟨_, (w, 7), rfl, ⟨rfl, hz226, hz227, hz228, hO⟩, by rw [ht99]; exact hP, hD⟩, hS.F ht99⟩) hS.2.2 dX8_power_291
  by_cases h229 : y9 = 57
  · subst h229
    refine lv_tableIn (tgt := 289) (off := 288) hx hb dX8_power_1 (by decide) (by decide) (by decide) (by decide) ?_
    refine lv_bipush (v := 7) hx hb dX8_power_289 (by decide) ?_
    have hz230 : 7 ≤ 10 := (by omega)
    have hz231 : PwQ x 7 := (Or.inr (by rw [← hy9]; decide))
    have hz232 : PwR x 7 := (Or.inr (by rw [← hy9]; unfold PwS; decide))
    have hO : OKW G h0 a F R Z B J T Pi w := hO.to rfl
    exact W.iret (v := 7) hx hb hr (fun t99 ht99 hW99 => ⟨⟨_, (w, 7), rfl, ⟨rfl, hz230, hz231, hz232, hO⟩, by rw [ht99]; exact hP, hD⟩, hS.F ht99⟩) hS.2.2 dX8_power_291
  by_cases h233 : y9 = 58
  · subst h233
    refine lv_tableIn (tgt := 286) (off := 285) hx hb dX8_power_1 (by decide) (by decide) (by decide) (by decide) ?_
    refine lv_bipush (v := 6) hx hb dX8_power_286 (by decide) ?_
    have hz234 : 6 ≤ 10 := (by omega)
    have hz235 : PwQ x 6 := (Or.inr (by rw [← hy9]; decide))
    have hz236 : PwR x 6 := (Or.inr (by rw [← hy9]; unfold PwS; decide))
    have hO : OKW G h0 a F R Z B J T Pi w := hO.to rfl
    exact W.iret (v := 6) hx hb hr (fun t99 ht99 hW99 => ⟨⟨_, (w, 6), rfl, ⟨rfl, hz234, hz235, hz236, hO⟩, by rw [ht99]; exact hP, hD⟩, hS.F ht99⟩) hS.2.2 dX8_power_288
  by_cases h237 : y9 = 59
  · subst h237
    refine lv_tableIn (tgt := 286) (off := 285) hx hb dX8_power_1 (by decide) (by decide) (by decide) (by decide) ?_
    refine lv_bipush (v := 6) hx hb dX8_power_286 (by decide) ?_
    have hz238 : 6 ≤ 10 := (by omega)
    have hz239 : PwQ x 6 := (Or.inr (by rw [← hy9]; decide))
    have hz240 : PwR x 6 := (Or.inr (by rw [← hy9]; unfold PwS; decide))
    have hO : OKW G h0 a F R Z B J T Pi w := hO.to rfl
    exact W.iret (v := 6) hx hb hr (fun t99 ht99 hW99 => ⟨⟨_, (w, 6), rfl, ⟨rfl, hz238, hz239, hz240, hO⟩, by rw [ht99]; exact hP, hD⟩, hS.F ht99⟩) hS.2.2 dX8_power_288
  by_cases h241 : y9 = 60
  · subst h241
    refine lv_tableIn (tgt := 278) (off := 277) hx hb dX8_power_1 (by decide) (by decide) (by decide) (by decide) ?_
    refine lv_iconst (v := 2) hx hb dX8_power_278 (by decide) ?_
    have hz242 : 2 ≤ 10 := (by omega)
    have hz243 : PwQ x 2 := (Or.inr (by rw [← hy9]; decide))
    have hz244 : PwR x 2 := (Or.inr (by rw [← hy9]; unfold PwS; decide))
    have hO : OKW G h0 a F R Z B J T Pi w := hO.to rfl
    exact W.iret (v := 2) hx hb hr (fun t99 ht99 hW99 => ⟨⟨_, (w, 2), rfl, ⟨rfl, hz242, hz243, hz244, hO⟩, by rw [ht99]; exact hP, hD⟩, hS.F ht99⟩) hS.2.2 dX8_power_279
  by_cases h245 : y9 = 61
  · subst h245
    refine lv_tableIn (tgt := 276) (off := 275) hx hb dX8_power_1 (by decide) (by decide) (by decide) (by decide) ?_
    refine lv_iconst (v := 1) hx hb dX8_power_276 (by decide) ?_
    have hz246 : 1 ≤ 10 := (by omega)
    have hz247 : PwQ x 1 := (Or.inr (by rw [← hy9]; decide))
    have hz248 : PwR x 1 := (Or.inr (by rw [← hy9]; unfold PwS; decide))
    have hO : OKW G h0 a F R Z B J T Pi w := hO.to rfl
    exact W.iret (v := 1) hx hb hr (fun t99 ht99 hW99 => ⟨⟨_, (w, 1), rfl, ⟨rfl, hz246, hz247, hz248, hO⟩, by rw [ht99]; exact hP, hD⟩, hS.F ht99⟩) hS.2.2 dX8_power_277
  by_cases h249 : y9 = 62
  · subst h249
    refine lv_tableIn (tgt := 292) (off := 291) hx hb dX8_power_1 (by decide) (by decide) (by decide) (by decide) ?_
    refine lv_bipush (v := 8) hx hb dX8_power_292 (by decide) ?_
    have hz250 : 8 ≤ 10 := (by omega)
    have hz251 : PwQ x 8 := (Or.inr (by rw [← hy9]; decide))
    have hz252 : PwR x 8 := (Or.inr (by rw [← hy9]; unfold PwS; decide))
    have hO : OKW G h0 a F R Z B J T Pi w := hO.to rfl
    exact W.iret (v := 8) hx hb hr (fun t99 ht99 hW99 => ⟨⟨_, (w, 8), rfl, ⟨rfl, hz250, hz251, hz252, hO⟩, by rw [ht99]; exact hP, hD⟩, hS.F ht99⟩) hS.2.2 dX8_power_294
  by_cases h253 : y9 = 63
  · subst h253
    refine lv_tableIn (tgt := 292) (off := 291) hx hb dX8_power_1 (by decide) (by decide) (by decide) (by decide) ?_
    refine lv_bipush (v := 8) hx hb dX8_power_292 (by decide) ?_
    have hz254 : 8 ≤ 10 := (by omega)
    have hz255 : PwQ x 8 := (Or.inr (by rw [← hy9]; decide))
    have hz256 : PwR x 8 := (Or.inr (by rw [← hy9]; unfold PwS; decide))
    have hO : OKW G h0 a F R Z B J T Pi w := hO.to rfl
    exact W.iret (v := 8) hx hb hr (fun t99 ht99 hW99 => ⟨⟨_, (w, 8), rfl, ⟨rfl, hz254, hz255, hz256, hO⟩, by rw [ht99]; exact hP, hD⟩, hS.F ht99⟩) hS.2.2 dX8_power_294
  by_cases h257 : y9 = 64
  · subst h257
    refine lv_tableIn (tgt := 292) (off := 291) hx hb dX8_power_1 (by decide) (by decide) (by decide) (by decide) ?_
    refine lv_bipush (v := 8) hx hb dX8_power_292 (by decide) ?_
    have hz258 : 8 ≤ 10 := (by omega)
    have hz259 : PwQ x 8 := (Or.inr (by rw [← hy9]; decide))
    have hz260 : PwR x 8 := (Or.inr (by rw [← hy9]; unfold PwS; decide))
    have hO : OKW G h0 a F R Z B J T Pi w := hO.to rfl
    exact W.iret (v := 8) hx hb hr (fun t99 ht99 hW99 => ⟨⟨_, (w, 8), rfl, ⟨rfl, hz258, hz259, hz260, hO⟩, by rw [ht99]; exact hP, hD⟩, hS.F ht99⟩) hS.2.2 dX8_power_294
  refine lv_tableOut (tgt := 301) hx hb dX8_power_1 (sw_out64 h1 h5 h9 h13 h17 h21 h25 h29 h33 h37 h41 h45 h49 h53 h57 h61 h65 h69 h73 h77 h81 h85 h89 h93 h97 h101 h105 h109 h113 h117 h121 h125 h129 h133 h137 h141 h145 h149 h153 h157 h161 h165 h169 h173 h177 h181 h185 h189 h193 h197 h201 h205 h209 h213 h217 h221 h225 h229 h233 h237 h241 h245 h249 h253 h257) (by decide) ?_
  refine lv_iconst (v := 0) hx hb dX8_power_301 (by decide) ?_
  have hz261 : 0 ≤ 10 := (by omega)
  have hz262 : PwQ x 0 := (Or.inl rfl)
  have hz263 : PwR x 0 := (Or.inl rfl)
  have hO : OKW G h0 a F R Z B J T Pi w := hO.to rfl
  exact W.iret (v := 0) hx hb hr (fun t99 ht99 hW99 => ⟨⟨_, (w, 0), rfl, ⟨rfl, hz261, hz262, hz263, hO⟩, by rw [ht99]; exact hP, hD⟩, hS.F ht99⟩) hS.2.2 dX8_power_302
set_option maxHeartbeats 2000000 in
set_option maxRecDepth 100000 in
theorem P_signNode (l : Launch) (G : pT) (h0 : Nat) (a : Nat → Nat) (F : Nat → Int32) (R : Nat → Value) (Z : Int64) (B : Nat → Nat → Int32) (J : Nat → Nat → Int64) (T : Nat → Nat) (Pi : Nat → va_E → Prop) (w : va_W) (x : Int32) (hO : OKW G h0 a F R Z B J T Pi w) : PM l G pX0 yX8_signNode cX8_signNode 1 (some .int) ({ frames := 2, cells := 0, slots := 0, locals := 60 }) [.int x] w (fun (v : Option Value) (u : va_W × (Int32)) => v = some (.int u.2) ∧ (SgK u.2) ∧ (SnR x u.2) ∧ (OKW G h0 a F R Z B J T Pi u.1)) (fun u => u.1) := by
  intro sz
  refine Met.ofW (cc := cX8_signNode) (maxL := 1) (ret := (some .int)) (by decide) rfl ?_
  intro p e s m args below meth c s₁ B9 hml hv
  obtain ⟨rfl, hsz, hP, hD0, hE, hX⟩ := hv
  have hx := B9.exec
  have hb := B9.bytes
  have hr := B9.returns
  have hts := atoms_spec (ws := Cond.code yX8_signNode cX8_signNode 1 (some .int) :: pw) B9.pre
  have hq : ∀ w ∈ pw, w.before _ s = true := fun w h => hts w (List.mem_cons_of_mem _ h)
  have hown : s.vm.findClass RX8 = some m.cls := findClass_of_methodNamed B9.named
  have hlocks := B9.notSynchronized
  subst hsz
  have hD := hD0.self (sz := s.heap.size)
  have hA : ∀ q : Nat, s.heap.size ≤ q → va_A w s.heap.size q := fun q h => Or.inr h
  generalize va_A w s.heap.size = A at hD hE hA ⊢
  have hS : va_S A s.heap s.heap [] := va_S.rf
  have hl := lv_entry ([.int x]) (n := 1) (Nat.le_of_ble_eq_true rfl)
  rw [lg_entry_eq]
  generalize (lg_sl ([.int x]) ++ List.replicate (1 - (lg_sl ([.int x])).length) Slot.unset).toArray = ls at hl ⊢
  have hl : lv_has ls 1 [(0, .int x)] := hl
  refine lv_iload_n hx hb dX8_signNode_0 rfl (lv_at hl 0 rfl) ?_
  refine lv_bipush (v := 15) hx hb dX8_signNode_1 (by decide) ?_
  refine lv_icmp_eq (tgt := 10) hx hb dX8_signNode_3 (by decide) (fun c1 => ?_) (fun c1 => ?_)
  · refine lv_bipush (v := 19) hx hb dX8_signNode_10 (by decide) ?_
    have hz2 : SgK (19 : Int32) := (by unfold SgK; decide)
    have hz3 : SnR x (19 : Int32) := (fun z => absurd z (by decide))
    have hO : OKW G h0 a F R Z B J T Pi w := hO.to rfl
    exact W.iret (v := 19) hx hb hr (fun t99 ht99 hW99 => ⟨⟨_, (w, (19 : Int32)), rfl, ⟨rfl, hz2, hz3, hO⟩, by rw [ht99]; exact hP, hD⟩, hS.F ht99⟩) hS.2.2 dX8_signNode_12
  · refine lv_iload_n hx hb dX8_signNode_6 rfl (lv_at hl 0 rfl) ?_
    refine lv_if_ne (tgt := 13) hx hb dX8_signNode_7 (by decide) (fun c4 => ?_) (fun c4 => ?_)
    · refine lv_iload_n hx hb dX8_signNode_13 rfl (lv_at hl 0 rfl) ?_
      refine lv_bipush (v := 60) hx hb dX8_signNode_14 (by decide) ?_
      refine lv_icmp_eq (tgt := 25) hx hb dX8_signNode_16 (by decide) (fun c5 => ?_) (fun c5 => ?_)
      · refine lv_bipush (v := 18) hx hb dX8_signNode_25 (by decide) ?_
        refine lv_goto (tgt := 32) hx hb dX8_signNode_27 (by decide) ?_
        have hz6 : SgK (18 : Int32) := (by unfold SgK; decide)
        have hz7 : SnR x (18 : Int32) := (fun z => absurd z (by decide))
        have hO : OKW G h0 a F R Z B J T Pi w := hO.to rfl
        exact W.iret (v := 18) hx hb hr (fun t99 ht99 hW99 => ⟨⟨_, (w, (18 : Int32)), rfl, ⟨rfl, hz6, hz7, hO⟩, by rw [ht99]; exact hP, hD⟩, hS.F ht99⟩) hS.2.2 dX8_signNode_32
      · refine lv_iload_n hx hb dX8_signNode_19 rfl (lv_at hl 0 rfl) ?_
        refine lv_bipush (v := 61) hx hb dX8_signNode_20 (by decide) ?_
        refine lv_icmp_ne (tgt := 30) hx hb dX8_signNode_22 (by decide) (fun c8 => ?_) (fun c8 => ?_)
        · refine lv_bipush (v := 17) hx hb dX8_signNode_30 (by decide) ?_
          have hz9 : SgK (17 : Int32) := (by unfold SgK; decide)
          have hz10 : SnR x (17 : Int32) := (fun _ => ⟨c1, c4, c5, c8⟩)
          have hO : OKW G h0 a F R Z B J T Pi w := hO.to rfl
          exact W.iret (v := 17) hx hb hr (fun t99 ht99 hW99 => ⟨⟨_, (w, (17 : Int32)), rfl, ⟨rfl, hz9, hz10, hO⟩, by rw [ht99]; exact hP, hD⟩, hS.F ht99⟩) hS.2.2 dX8_signNode_32
        · refine lv_bipush (v := 18) hx hb dX8_signNode_25 (by decide) ?_
          refine lv_goto (tgt := 32) hx hb dX8_signNode_27 (by decide) ?_
          have hz11 : SgK (18 : Int32) := (by unfold SgK; decide)
          have hz12 : SnR x (18 : Int32) := (fun z => absurd z (by decide))
          have hO : OKW G h0 a F R Z B J T Pi w := hO.to rfl
          exact W.iret (v := 18) hx hb hr (fun t99 ht99 hW99 => ⟨⟨_, (w, (18 : Int32)), rfl, ⟨rfl, hz11, hz12, hO⟩, by rw [ht99]; exact hP, hD⟩, hS.F ht99⟩) hS.2.2 dX8_signNode_32
    · refine lv_bipush (v := 19) hx hb dX8_signNode_10 (by decide) ?_
      have hz13 : SgK (19 : Int32) := (by unfold SgK; decide)
      have hz14 : SnR x (19 : Int32) := (fun z => absurd z (by decide))
      have hO : OKW G h0 a F R Z B J T Pi w := hO.to rfl
      exact W.iret (v := 19) hx hb hr (fun t99 ht99 hW99 => ⟨⟨_, (w, (19 : Int32)), rfl, ⟨rfl, hz13, hz14, hO⟩, by rw [ht99]; exact hP, hD⟩, hS.F ht99⟩) hS.2.2 dX8_signNode_12
