def PwQ (x : Int32) (r : Nat) : Prop := r = 0 ∨ ¬ x = 67
def PwT (r at9 sz : Nat) : Prop := r = 0 ∨ at9 < sz
def SgK (r : Int32) : Prop := r = 17 ∨ r = 18 ∨ r = 19
set_option maxHeartbeats 8000000 in
set_option maxRecDepth 100000 in
theorem P_power (l : Launch) (G : pT) (h0 : Nat) (a : Nat → Nat) (F : Nat → Int32) (R : Nat → Value) (Z : Int64) (B : Nat → Nat → Int32) (J : Nat → Nat → Int64) (T : Nat → Nat) (Pi : Nat → va_E → Prop) (w : va_W) (x : Int32) (hO : OKW G h0 a F R Z B J T Pi w) : PM l G pX0 yX8_power cX8_power 1 (some .int) ({ frames := 2, cells := 0, slots := 0, locals := 60 }) [.int x] w (fun (v : Option Value) (u : va_W × (Nat)) => v = some (.int (nI u.2)) ∧ (u.2 ≤ 10) ∧ (PwQ x u.2) ∧ (OKW G h0 a F R Z B J T Pi u.1)) (fun u => u.1) := by
  intro sz
  refine Met.ofW (cc := cX8_power) (maxL := 1) (ret := (some .int)) (by decide) rfl ?_
  intro p e s m args below meth c s₁ B9 hml hv
  obtain ⟨rfl, hsz, hP, hD0, hE, hX⟩ := hv
  have hx := B9.exec
  have hb := B9.bytes
  have hr := B9.returns
  have hts := atoms_spec (ws := Cond.code yX8_power cX8_power 1 (some .int) :: pw) B9.pre
  have hq : ∀ w ∈ pw, w.before _ s = true := fun w h => hts w (List.mem_cons_of_mem _ h)
  have hown : s.vm.findClass RX8 = some m.cls := findClass_of_methodNamed B9.named
  have hlocks := B9.notSynchronized
  subst hsz
  have hD := hD0.self (sz := s.heap.size)
  have hA : ∀ q : Nat, s.heap.size ≤ q → va_A w s.heap.size q := fun q h => Or.inr h
  generalize va_A w s.heap.size = A at hD hE hA ⊢
  have hS : va_S A s.heap s.heap [] := va_S.rf
  have hl := lv_entry ([.int x]) (n := 1) (Nat.le_of_ble_eq_true rfl)
  rw [lg_entry_eq]
  generalize (lg_sl ([.int x]) ++ List.replicate (1 - (lg_sl ([.int x])).length) Slot.unset).toArray = ls at hl ⊢
  have hl : lv_has ls 1 [(0, .int x)] := hl
  obtain ⟨y9, hy9⟩ : ∃ z : Int32, z = x := ⟨_, rfl⟩
  rw [← hy9] at hl
  refine lv_iload_n hx hb dX8_power_0 rfl (lv_at hl 0 rfl) ?_
  by_cases h1 : y9 = 0
  · subst h1
    refine lv_tableIn (tgt := 289) (off := 288) hx hb dX8_power_1 (by decide) (by decide) (by decide) (by decide) ?_
    refine lv_bipush (v := 7) hx hb dX8_power_289 (by decide) ?_
    have hz2 : 7 ≤ 10 := (by omega)
    have hz3 : PwQ x 7 := (Or.inr (by rw [← hy9]; decide))
    have hO : OKW G h0 a F R Z B J T Pi w := hO.to rfl
    exact W.iret (v := 7) hx hb hr (fun t99 ht99 hW99 => ⟨⟨_, (w, 7), rfl, ⟨rfl, hz2, hz3, hO⟩, by rw [ht99]; exact hP, hD⟩, hS.F ht99⟩) hS.2.2 dX8_power_291
  by_cases h4 : y9 = 1
  · subst h4
    refine lv_tableIn (tgt := 301) (off := 300) hx hb dX8_power_1 (by decide) (by decide) (by decide) (by decide) ?_
    refine lv_iconst (v := 0) hx hb dX8_power_301 (by decide) ?_
    have hz5 : 0 ≤ 10 := (by omega)
    have hz6 : PwQ x 0 := (Or.inl rfl)
    have hO : OKW G h0 a F R Z B J T Pi w := hO.to rfl
    exact W.iret (v := 0) hx hb hr (fun t99 ht99 hW99 => ⟨⟨_, (w, 0), rfl, ⟨rfl, hz5, hz6, hO⟩, by rw [ht99]; exact hP, hD⟩, hS.F ht99⟩) hS.2.2 dX8_power_302
  by_cases h7 : y9 = 2
  · subst h7
    refine lv_tableIn (tgt := 301) (off := 300) hx hb dX8_power_1 (by decide) (by decide) (by decide) (by decide) ?_
    refine lv_iconst (v := 0) hx hb dX8_power_301 (by decide) ?_
    have hz8 : 0 ≤ 10 := (by omega)
    have hz9 : PwQ x 0 := (Or.inl rfl)
    have hO : OKW G h0 a F R Z B J T Pi w := hO.to rfl
    exact W.iret (v := 0) hx hb hr (fun t99 ht99 hW99 => ⟨⟨_, (w, 0), rfl, ⟨rfl, hz8, hz9, hO⟩, by rw [ht99]; exact hP, hD⟩, hS.F ht99⟩) hS.2.2 dX8_power_302
  by_cases h10 : y9 = 3
  · subst h10
    refine lv_tableIn (tgt := 301) (off := 300) hx hb dX8_power_1 (by decide) (by decide) (by decide) (by decide) ?_
    refine lv_iconst (v := 0) hx hb dX8_power_301 (by decide) ?_
    have hz11 : 0 ≤ 10 := (by omega)
    have hz12 : PwQ x 0 := (Or.inl rfl)
    have hO : OKW G h0 a F R Z B J T Pi w := hO.to rfl
    exact W.iret (v := 0) hx hb hr (fun t99 ht99 hW99 => ⟨⟨_, (w, 0), rfl, ⟨rfl, hz11, hz12, hO⟩, by rw [ht99]; exact hP, hD⟩, hS.F ht99⟩) hS.2.2 dX8_power_302
  by_cases h13 : y9 = 4
  · subst h13
    refine lv_tableIn (tgt := 301) (off := 300) hx hb dX8_power_1 (by decide) (by decide) (by decide) (by decide) ?_
    refine lv_iconst (v := 0) hx hb dX8_power_301 (by decide) ?_
    have hz14 : 0 ≤ 10 := (by omega)
    have hz15 : PwQ x 0 := (Or.inl rfl)
    have hO : OKW G h0 a F R Z B J T Pi w := hO.to rfl
    exact W.iret (v := 0) hx hb hr (fun t99 ht99 hW99 => ⟨⟨_, (w, 0), rfl, ⟨rfl, hz14, hz15, hO⟩, by rw [ht99]; exact hP, hD⟩, hS.F ht99⟩) hS.2.2 dX8_power_302
  by_cases h16 : y9 = 5
  · subst h16
    refine lv_tableIn (tgt := 301) (off := 300) hx hb dX8_power_1 (by decide) (by decide) (by decide) (by decide) ?_
    refine lv_iconst (v := 0) hx hb dX8_power_301 (by decide) ?_
    have hz17 : 0 ≤ 10 := (by omega)
    have hz18 : PwQ x 0 := (Or.inl rfl)
    have hO : OKW G h0 a F R Z B J T Pi w := hO.to rfl
    exact W.iret (v := 0) hx hb hr (fun t99 ht99 hW99 => ⟨⟨_, (w, 0), rfl, ⟨rfl, hz17, hz18, hO⟩, by rw [ht99]; exact hP, hD⟩, hS.F ht99⟩) hS.2.2 dX8_power_302
  by_cases h19 : y9 = 6
  · subst h19
    refine lv_tableIn (tgt := 301) (off := 300) hx hb dX8_power_1 (by decide) (by decide) (by decide) (by decide) ?_
    refine lv_iconst (v := 0) hx hb dX8_power_301 (by decide) ?_
    have hz20 : 0 ≤ 10 := (by omega)
    have hz21 : PwQ x 0 := (Or.inl rfl)
    have hO : OKW G h0 a F R Z B J T Pi w := hO.to rfl
    exact W.iret (v := 0) hx hb hr (fun t99 ht99 hW99 => ⟨⟨_, (w, 0), rfl, ⟨rfl, hz20, hz21, hO⟩, by rw [ht99]; exact hP, hD⟩, hS.F ht99⟩) hS.2.2 dX8_power_302
  by_cases h22 : y9 = 7
  · subst h22
    refine lv_tableIn (tgt := 301) (off := 300) hx hb dX8_power_1 (by decide) (by decide) (by decide) (by decide) ?_
    refine lv_iconst (v := 0) hx hb dX8_power_301 (by decide) ?_
    have hz23 : 0 ≤ 10 := (by omega)
    have hz24 : PwQ x 0 := (Or.inl rfl)
    have hO : OKW G h0 a F R Z B J T Pi w := hO.to rfl
    exact W.iret (v := 0) hx hb hr (fun t99 ht99 hW99 => ⟨⟨_, (w, 0), rfl, ⟨rfl, hz23, hz24, hO⟩, by rw [ht99]; exact hP, hD⟩, hS.F ht99⟩) hS.2.2 dX8_power_302
  by_cases h25 : y9 = 8
  · subst h25
    refine lv_tableIn (tgt := 301) (off := 300) hx hb dX8_power_1 (by decide) (by decide) (by decide) (by decide) ?_
    refine lv_iconst (v := 0) hx hb dX8_power_301 (by decide) ?_
    have hz26 : 0 ≤ 10 := (by omega)
    have hz27 : PwQ x 0 := (Or.inl rfl)
    have hO : OKW G h0 a F R Z B J T Pi w := hO.to rfl
    exact W.iret (v := 0) hx hb hr (fun t99 ht99 hW99 => ⟨⟨_, (w, 0), rfl, ⟨rfl, hz26, hz27, hO⟩, by rw [ht99]; exact hP, hD⟩, hS.F ht99⟩) hS.2.2 dX8_power_302
  by_cases h28 : y9 = 9
  · subst h28
    refine lv_tableIn (tgt := 301) (off := 300) hx hb dX8_power_1 (by decide) (by decide) (by decide) (by decide) ?_
    refine lv_iconst (v := 0) hx hb dX8_power_301 (by decide) ?_
    have hz29 : 0 ≤ 10 := (by omega)
    have hz30 : PwQ x 0 := (Or.inl rfl)
    have hO : OKW G h0 a F R Z B J T Pi w := hO.to rfl
    exact W.iret (v := 0) hx hb hr (fun t99 ht99 hW99 => ⟨⟨_, (w, 0), rfl, ⟨rfl, hz29, hz30, hO⟩, by rw [ht99]; exact hP, hD⟩, hS.F ht99⟩) hS.2.2 dX8_power_302
  by_cases h31 : y9 = 10
  · subst h31
    refine lv_tableIn (tgt := 301) (off := 300) hx hb dX8_power_1 (by decide) (by decide) (by decide) (by decide) ?_
    refine lv_iconst (v := 0) hx hb dX8_power_301 (by decide) ?_
    have hz32 : 0 ≤ 10 := (by omega)
    have hz33 : PwQ x 0 := (Or.inl rfl)
    have hO : OKW G h0 a F R Z B J T Pi w := hO.to rfl
    exact W.iret (v := 0) hx hb hr (fun t99 ht99 hW99 => ⟨⟨_, (w, 0), rfl, ⟨rfl, hz32, hz33, hO⟩, by rw [ht99]; exact hP, hD⟩, hS.F ht99⟩) hS.2.2 dX8_power_302
  by_cases h34 : y9 = 11
  · subst h34
    refine lv_tableIn (tgt := 301) (off := 300) hx hb dX8_power_1 (by decide) (by decide) (by decide) (by decide) ?_
    refine lv_iconst (v := 0) hx hb dX8_power_301 (by decide) ?_
    have hz35 : 0 ≤ 10 := (by omega)
    have hz36 : PwQ x 0 := (Or.inl rfl)
    have hO : OKW G h0 a F R Z B J T Pi w := hO.to rfl
    exact W.iret (v := 0) hx hb hr (fun t99 ht99 hW99 => ⟨⟨_, (w, 0), rfl, ⟨rfl, hz35, hz36, hO⟩, by rw [ht99]; exact hP, hD⟩, hS.F ht99⟩) hS.2.2 dX8_power_302
  by_cases h37 : y9 = 12
  · subst h37
    refine lv_tableIn (tgt := 301) (off := 300) hx hb dX8_power_1 (by decide) (by decide) (by decide) (by decide) ?_
    refine lv_iconst (v := 0) hx hb dX8_power_301 (by decide) ?_
    have hz38 : 0 ≤ 10 := (by omega)
    have hz39 : PwQ x 0 := (Or.inl rfl)
    have hO : OKW G h0 a F R Z B J T Pi w := hO.to rfl
    exact W.iret (v := 0) hx hb hr (fun t99 ht99 hW99 => ⟨⟨_, (w, 0), rfl, ⟨rfl, hz38, hz39, hO⟩, by rw [ht99]; exact hP, hD⟩, hS.F ht99⟩) hS.2.2 dX8_power_302
  by_cases h40 : y9 = 13
  · subst h40
    refine lv_tableIn (tgt := 301) (off := 300) hx hb dX8_power_1 (by decide) (by decide) (by decide) (by decide) ?_
    refine lv_iconst (v := 0) hx hb dX8_power_301 (by decide) ?_
    have hz41 : 0 ≤ 10 := (by omega)
    have hz42 : PwQ x 0 := (Or.inl rfl)
    have hO : OKW G h0 a F R Z B J T Pi w := hO.to rfl
    exact W.iret (v := 0) hx hb hr (fun t99 ht99 hW99 => ⟨⟨_, (w, 0), rfl, ⟨rfl, hz41, hz42, hO⟩, by rw [ht99]; exact hP, hD⟩, hS.F ht99⟩) hS.2.2 dX8_power_302
  by_cases h43 : y9 = 14
  · subst h43
    refine lv_tableIn (tgt := 301) (off := 300) hx hb dX8_power_1 (by decide) (by decide) (by decide) (by decide) ?_
    refine lv_iconst (v := 0) hx hb dX8_power_301 (by decide) ?_
    have hz44 : 0 ≤ 10 := (by omega)
    have hz45 : PwQ x 0 := (Or.inl rfl)
    have hO : OKW G h0 a F R Z B J T Pi w := hO.to rfl
    exact W.iret (v := 0) hx hb hr (fun t99 ht99 hW99 => ⟨⟨_, (w, 0), rfl, ⟨rfl, hz44, hz45, hO⟩, by rw [ht99]; exact hP, hD⟩, hS.F ht99⟩) hS.2.2 dX8_power_302
  by_cases h46 : y9 = 15
  · subst h46
    refine lv_tableIn (tgt := 289) (off := 288) hx hb dX8_power_1 (by decide) (by decide) (by decide) (by decide) ?_
    refine lv_bipush (v := 7) hx hb dX8_power_289 (by decide) ?_
    have hz47 : 7 ≤ 10 := (by omega)
    have hz48 : PwQ x 7 := (Or.inr (by rw [← hy9]; decide))
    have hO : OKW G h0 a F R Z B J T Pi w := hO.to rfl
    exact W.iret (v := 7) hx hb hr (fun t99 ht99 hW99 => ⟨⟨_, (w, 7), rfl, ⟨rfl, hz47, hz48, hO⟩, by rw [ht99]; exact hP, hD⟩, hS.F ht99⟩) hS.2.2 dX8_power_291
  by_cases h49 : y9 = 16
  · subst h49
    refine lv_tableIn (tgt := 301) (off := 300) hx hb dX8_power_1 (by decide) (by decide) (by decide) (by decide) ?_
    refine lv_iconst (v := 0) hx hb dX8_power_301 (by decide) ?_
    have hz50 : 0 ≤ 10 := (by omega)
    have hz51 : PwQ x 0 := (Or.inl rfl)
    have hO : OKW G h0 a F R Z B J T Pi w := hO.to rfl
    exact W.iret (v := 0) hx hb hr (fun t99 ht99 hW99 => ⟨⟨_, (w, 0), rfl, ⟨rfl, hz50, hz51, hO⟩, by rw [ht99]; exact hP, hD⟩, hS.F ht99⟩) hS.2.2 dX8_power_302
  by_cases h52 : y9 = 17
  · subst h52
    refine lv_tableIn (tgt := 301) (off := 300) hx hb dX8_power_1 (by decide) (by decide) (by decide) (by decide) ?_
    refine lv_iconst (v := 0) hx hb dX8_power_301 (by decide) ?_
    have hz53 : 0 ≤ 10 := (by omega)
    have hz54 : PwQ x 0 := (Or.inl rfl)
    have hO : OKW G h0 a F R Z B J T Pi w := hO.to rfl
    exact W.iret (v := 0) hx hb hr (fun t99 ht99 hW99 => ⟨⟨_, (w, 0), rfl, ⟨rfl, hz53, hz54, hO⟩, by rw [ht99]; exact hP, hD⟩, hS.F ht99⟩) hS.2.2 dX8_power_302
  by_cases h55 : y9 = 18
  · subst h55
    refine lv_tableIn (tgt := 301) (off := 300) hx hb dX8_power_1 (by decide) (by decide) (by decide) (by decide) ?_
    refine lv_iconst (v := 0) hx hb dX8_power_301 (by decide) ?_
    have hz56 : 0 ≤ 10 := (by omega)
    have hz57 : PwQ x 0 := (Or.inl rfl)
    have hO : OKW G h0 a F R Z B J T Pi w := hO.to rfl
    exact W.iret (v := 0) hx hb hr (fun t99 ht99 hW99 => ⟨⟨_, (w, 0), rfl, ⟨rfl, hz56, hz57, hO⟩, by rw [ht99]; exact hP, hD⟩, hS.F ht99⟩) hS.2.2 dX8_power_302
  by_cases h58 : y9 = 19
  · subst h58
    refine lv_tableIn (tgt := 301) (off := 300) hx hb dX8_power_1 (by decide) (by decide) (by decide) (by decide) ?_
    refine lv_iconst (v := 0) hx hb dX8_power_301 (by decide) ?_
    have hz59 : 0 ≤ 10 := (by omega)
    have hz60 : PwQ x 0 := (Or.inl rfl)
    have hO : OKW G h0 a F R Z B J T Pi w := hO.to rfl
    exact W.iret (v := 0) hx hb hr (fun t99 ht99 hW99 => ⟨⟨_, (w, 0), rfl, ⟨rfl, hz59, hz60, hO⟩, by rw [ht99]; exact hP, hD⟩, hS.F ht99⟩) hS.2.2 dX8_power_302
  by_cases h61 : y9 = 20
  · subst h61
    refine lv_tableIn (tgt := 301) (off := 300) hx hb dX8_power_1 (by decide) (by decide) (by decide) (by decide) ?_
    refine lv_iconst (v := 0) hx hb dX8_power_301 (by decide) ?_
    have hz62 : 0 ≤ 10 := (by omega)
    have hz63 : PwQ x 0 := (Or.inl rfl)
    have hO : OKW G h0 a F R Z B J T Pi w := hO.to rfl
    exact W.iret (v := 0) hx hb hr (fun t99 ht99 hW99 => ⟨⟨_, (w, 0), rfl, ⟨rfl, hz62, hz63, hO⟩, by rw [ht99]; exact hP, hD⟩, hS.F ht99⟩) hS.2.2 dX8_power_302
  by_cases h64 : y9 = 21
  · subst h64
    refine lv_tableIn (tgt := 301) (off := 300) hx hb dX8_power_1 (by decide) (by decide) (by decide) (by decide) ?_
    refine lv_iconst (v := 0) hx hb dX8_power_301 (by decide) ?_
    have hz65 : 0 ≤ 10 := (by omega)
    have hz66 : PwQ x 0 := (Or.inl rfl)
    have hO : OKW G h0 a F R Z B J T Pi w := hO.to rfl
    exact W.iret (v := 0) hx hb hr (fun t99 ht99 hW99 => ⟨⟨_, (w, 0), rfl, ⟨rfl, hz65, hz66, hO⟩, by rw [ht99]; exact hP, hD⟩, hS.F ht99⟩) hS.2.2 dX8_power_302
  by_cases h67 : y9 = 22
  · subst h67
    refine lv_tableIn (tgt := 301) (off := 300) hx hb dX8_power_1 (by decide) (by decide) (by decide) (by decide) ?_
    refine lv_iconst (v := 0) hx hb dX8_power_301 (by decide) ?_
    have hz68 : 0 ≤ 10 := (by omega)
    have hz69 : PwQ x 0 := (Or.inl rfl)
    have hO : OKW G h0 a F R Z B J T Pi w := hO.to rfl
    exact W.iret (v := 0) hx hb hr (fun t99 ht99 hW99 => ⟨⟨_, (w, 0), rfl, ⟨rfl, hz68, hz69, hO⟩, by rw [ht99]; exact hP, hD⟩, hS.F ht99⟩) hS.2.2 dX8_power_302
  by_cases h70 : y9 = 23
  · subst h70
    refine lv_tableIn (tgt := 301) (off := 300) hx hb dX8_power_1 (by decide) (by decide) (by decide) (by decide) ?_
    refine lv_iconst (v := 0) hx hb dX8_power_301 (by decide) ?_
    have hz71 : 0 ≤ 10 := (by omega)
    have hz72 : PwQ x 0 := (Or.inl rfl)
    have hO : OKW G h0 a F R Z B J T Pi w := hO.to rfl
    exact W.iret (v := 0) hx hb hr (fun t99 ht99 hW99 => ⟨⟨_, (w, 0), rfl, ⟨rfl, hz71, hz72, hO⟩, by rw [ht99]; exact hP, hD⟩, hS.F ht99⟩) hS.2.2 dX8_power_302
  by_cases h73 : y9 = 24
  · subst h73
    refine lv_tableIn (tgt := 301) (off := 300) hx hb dX8_power_1 (by decide) (by decide) (by decide) (by decide) ?_
    refine lv_iconst (v := 0) hx hb dX8_power_301 (by decide) ?_
    have hz74 : 0 ≤ 10 := (by omega)
    have hz75 : PwQ x 0 := (Or.inl rfl)
    have hO : OKW G h0 a F R Z B J T Pi w := hO.to rfl
    exact W.iret (v := 0) hx hb hr (fun t99 ht99 hW99 => ⟨⟨_, (w, 0), rfl, ⟨rfl, hz74, hz75, hO⟩, by rw [ht99]; exact hP, hD⟩, hS.F ht99⟩) hS.2.2 dX8_power_302
  by_cases h76 : y9 = 25
  · subst h76
    refine lv_tableIn (tgt := 301) (off := 300) hx hb dX8_power_1 (by decide) (by decide) (by decide) (by decide) ?_
    refine lv_iconst (v := 0) hx hb dX8_power_301 (by decide) ?_
    have hz77 : 0 ≤ 10 := (by omega)
    have hz78 : PwQ x 0 := (Or.inl rfl)
    have hO : OKW G h0 a F R Z B J T Pi w := hO.to rfl
    exact W.iret (v := 0) hx hb hr (fun t99 ht99 hW99 => ⟨⟨_, (w, 0), rfl, ⟨rfl, hz77, hz78, hO⟩, by rw [ht99]; exact hP, hD⟩, hS.F ht99⟩) hS.2.2 dX8_power_302
  by_cases h79 : y9 = 26
  · subst h79
    refine lv_tableIn (tgt := 301) (off := 300) hx hb dX8_power_1 (by decide) (by decide) (by decide) (by decide) ?_
    refine lv_iconst (v := 0) hx hb dX8_power_301 (by decide) ?_
    have hz80 : 0 ≤ 10 := (by omega)
    have hz81 : PwQ x 0 := (Or.inl rfl)
    have hO : OKW G h0 a F R Z B J T Pi w := hO.to rfl
    exact W.iret (v := 0) hx hb hr (fun t99 ht99 hW99 => ⟨⟨_, (w, 0), rfl, ⟨rfl, hz80, hz81, hO⟩, by rw [ht99]; exact hP, hD⟩, hS.F ht99⟩) hS.2.2 dX8_power_302
  by_cases h82 : y9 = 27
  · subst h82
    refine lv_tableIn (tgt := 301) (off := 300) hx hb dX8_power_1 (by decide) (by decide) (by decide) (by decide) ?_
    refine lv_iconst (v := 0) hx hb dX8_power_301 (by decide) ?_
    have hz83 : 0 ≤ 10 := (by omega)
    have hz84 : PwQ x 0 := (Or.inl rfl)
    have hO : OKW G h0 a F R Z B J T Pi w := hO.to rfl
    exact W.iret (v := 0) hx hb hr (fun t99 ht99 hW99 => ⟨⟨_, (w, 0), rfl, ⟨rfl, hz83, hz84, hO⟩, by rw [ht99]; exact hP, hD⟩, hS.F ht99⟩) hS.2.2 dX8_power_302
  by_cases h85 : y9 = 28
  · subst h85
    refine lv_tableIn (tgt := 301) (off := 300) hx hb dX8_power_1 (by decide) (by decide) (by decide) (by decide) ?_
    refine lv_iconst (v := 0) hx hb dX8_power_301 (by decide) ?_
    have hz86 : 0 ≤ 10 := (by omega)
    have hz87 : PwQ x 0 := (Or.inl rfl)
    have hO : OKW G h0 a F R Z B J T Pi w := hO.to rfl
    exact W.iret (v := 0) hx hb hr (fun t99 ht99 hW99 => ⟨⟨_, (w, 0), rfl, ⟨rfl, hz86, hz87, hO⟩, by rw [ht99]; exact hP, hD⟩, hS.F ht99⟩) hS.2.2 dX8_power_302
  by_cases h88 : y9 = 29
  · subst h88
    refine lv_tableIn (tgt := 301) (off := 300) hx hb dX8_power_1 (by decide) (by decide) (by decide) (by decide) ?_
    refine lv_iconst (v := 0) hx hb dX8_power_301 (by decide) ?_
    have hz89 : 0 ≤ 10 := (by omega)
    have hz90 : PwQ x 0 := (Or.inl rfl)
    have hO : OKW G h0 a F R Z B J T Pi w := hO.to rfl
    exact W.iret (v := 0) hx hb hr (fun t99 ht99 hW99 => ⟨⟨_, (w, 0), rfl, ⟨rfl, hz89, hz90, hO⟩, by rw [ht99]; exact hP, hD⟩, hS.F ht99⟩) hS.2.2 dX8_power_302
  by_cases h91 : y9 = 30
  · subst h91
    refine lv_tableIn (tgt := 301) (off := 300) hx hb dX8_power_1 (by decide) (by decide) (by decide) (by decide) ?_
    refine lv_iconst (v := 0) hx hb dX8_power_301 (by decide) ?_
    have hz92 : 0 ≤ 10 := (by omega)
    have hz93 : PwQ x 0 := (Or.inl rfl)
    have hO : OKW G h0 a F R Z B J T Pi w := hO.to rfl
    exact W.iret (v := 0) hx hb hr (fun t99 ht99 hW99 => ⟨⟨_, (w, 0), rfl, ⟨rfl, hz92, hz93, hO⟩, by rw [ht99]; exact hP, hD⟩, hS.F ht99⟩) hS.2.2 dX8_power_302
  by_cases h94 : y9 = 31
  · subst h94
    refine lv_tableIn (tgt := 301) (off := 300) hx hb dX8_power_1 (by decide) (by decide) (by decide) (by decide) ?_
    refine lv_iconst (v := 0) hx hb dX8_power_301 (by decide) ?_
    have hz95 : 0 ≤ 10 := (by omega)
    have hz96 : PwQ x 0 := (Or.inl rfl)
    have hO : OKW G h0 a F R Z B J T Pi w := hO.to rfl
    exact W.iret (v := 0) hx hb hr (fun t99 ht99 hW99 => ⟨⟨_, (w, 0), rfl, ⟨rfl, hz95, hz96, hO⟩, by rw [ht99]; exact hP, hD⟩, hS.F ht99⟩) hS.2.2 dX8_power_302
  by_cases h97 : y9 = 32
  · subst h97
    refine lv_tableIn (tgt := 301) (off := 300) hx hb dX8_power_1 (by decide) (by decide) (by decide) (by decide) ?_
    refine lv_iconst (v := 0) hx hb dX8_power_301 (by decide) ?_
    have hz98 : 0 ≤ 10 := (by omega)
    have hz99 : PwQ x 0 := (Or.inl rfl)
    have hO : OKW G h0 a F R Z B J T Pi w := hO.to rfl
    exact W.iret (v := 0) hx hb hr (fun t99 ht99 hW99 => ⟨⟨_, (w, 0), rfl, ⟨rfl, hz98, hz99, hO⟩, by rw [ht99]; exact hP, hD⟩, hS.F ht99⟩) hS.2.2 dX8_power_302
  by_cases h100 : y9 = 33
  · subst h100
    refine lv_tableIn (tgt := 301) (off := 300) hx hb dX8_power_1 (by decide) (by decide) (by decide) (by decide) ?_
    refine lv_iconst (v := 0) hx hb dX8_power_301 (by decide) ?_
    have hz101 : 0 ≤ 10 := (by omega)
    have hz102 : PwQ x 0 := (Or.inl rfl)
    have hO : OKW G h0 a F R Z B J T Pi w := hO.to rfl
    exact W.iret (v := 0) hx hb hr (fun t99 ht99 hW99 => ⟨⟨_, (w, 0), rfl, ⟨rfl, hz101, hz102, hO⟩, by rw [ht99]; exact hP, hD⟩, hS.F ht99⟩) hS.2.2 dX8_power_302
  by_cases h103 : y9 = 34
  · subst h103
    refine lv_tableIn (tgt := 301) (off := 300) hx hb dX8_power_1 (by decide) (by decide) (by decide) (by decide) ?_
    refine lv_iconst (v := 0) hx hb dX8_power_301 (by decide) ?_
    have hz104 : 0 ≤ 10 := (by omega)
    have hz105 : PwQ x 0 := (Or.inl rfl)
    have hO : OKW G h0 a F R Z B J T Pi w := hO.to rfl
    exact W.iret (v := 0) hx hb hr (fun t99 ht99 hW99 => ⟨⟨_, (w, 0), rfl, ⟨rfl, hz104, hz105, hO⟩, by rw [ht99]; exact hP, hD⟩, hS.F ht99⟩) hS.2.2 dX8_power_302
  by_cases h106 : y9 = 35
  · subst h106
    refine lv_tableIn (tgt := 301) (off := 300) hx hb dX8_power_1 (by decide) (by decide) (by decide) (by decide) ?_
    refine lv_iconst (v := 0) hx hb dX8_power_301 (by decide) ?_
    have hz107 : 0 ≤ 10 := (by omega)
    have hz108 : PwQ x 0 := (Or.inl rfl)
    have hO : OKW G h0 a F R Z B J T Pi w := hO.to rfl
    exact W.iret (v := 0) hx hb hr (fun t99 ht99 hW99 => ⟨⟨_, (w, 0), rfl, ⟨rfl, hz107, hz108, hO⟩, by rw [ht99]; exact hP, hD⟩, hS.F ht99⟩) hS.2.2 dX8_power_302
  by_cases h109 : y9 = 36
  · subst h109
    refine lv_tableIn (tgt := 301) (off := 300) hx hb dX8_power_1 (by decide) (by decide) (by decide) (by decide) ?_
    refine lv_iconst (v := 0) hx hb dX8_power_301 (by decide) ?_
    have hz110 : 0 ≤ 10 := (by omega)
    have hz111 : PwQ x 0 := (Or.inl rfl)
    have hO : OKW G h0 a F R Z B J T Pi w := hO.to rfl
    exact W.iret (v := 0) hx hb hr (fun t99 ht99 hW99 => ⟨⟨_, (w, 0), rfl, ⟨rfl, hz110, hz111, hO⟩, by rw [ht99]; exact hP, hD⟩, hS.F ht99⟩) hS.2.2 dX8_power_302
  by_cases h112 : y9 = 37
  · subst h112
    refine lv_tableIn (tgt := 301) (off := 300) hx hb dX8_power_1 (by decide) (by decide) (by decide) (by decide) ?_
    refine lv_iconst (v := 0) hx hb dX8_power_301 (by decide) ?_
    have hz113 : 0 ≤ 10 := (by omega)
    have hz114 : PwQ x 0 := (Or.inl rfl)
    have hO : OKW G h0 a F R Z B J T Pi w := hO.to rfl
    exact W.iret (v := 0) hx hb hr (fun t99 ht99 hW99 => ⟨⟨_, (w, 0), rfl, ⟨rfl, hz113, hz114, hO⟩, by rw [ht99]; exact hP, hD⟩, hS.F ht99⟩) hS.2.2 dX8_power_302
  by_cases h115 : y9 = 38
  · subst h115
    refine lv_tableIn (tgt := 301) (off := 300) hx hb dX8_power_1 (by decide) (by decide) (by decide) (by decide) ?_
    refine lv_iconst (v := 0) hx hb dX8_power_301 (by decide) ?_
    have hz116 : 0 ≤ 10 := (by omega)
    have hz117 : PwQ x 0 := (Or.inl rfl)
    have hO : OKW G h0 a F R Z B J T Pi w := hO.to rfl
    exact W.iret (v := 0) hx hb hr (fun t99 ht99 hW99 => ⟨⟨_, (w, 0), rfl, ⟨rfl, hz116, hz117, hO⟩, by rw [ht99]; exact hP, hD⟩, hS.F ht99⟩) hS.2.2 dX8_power_302
  by_cases h118 : y9 = 39
  · subst h118
    refine lv_tableIn (tgt := 301) (off := 300) hx hb dX8_power_1 (by decide) (by decide) (by decide) (by decide) ?_
    refine lv_iconst (v := 0) hx hb dX8_power_301 (by decide) ?_
    have hz119 : 0 ≤ 10 := (by omega)
    have hz120 : PwQ x 0 := (Or.inl rfl)
    have hO : OKW G h0 a F R Z B J T Pi w := hO.to rfl
    exact W.iret (v := 0) hx hb hr (fun t99 ht99 hW99 => ⟨⟨_, (w, 0), rfl, ⟨rfl, hz119, hz120, hO⟩, by rw [ht99]; exact hP, hD⟩, hS.F ht99⟩) hS.2.2 dX8_power_302
  by_cases h121 : y9 = 40
  · subst h121
    refine lv_tableIn (tgt := 301) (off := 300) hx hb dX8_power_1 (by decide) (by decide) (by decide) (by decide) ?_
    refine lv_iconst (v := 0) hx hb dX8_power_301 (by decide) ?_
    have hz122 : 0 ≤ 10 := (by omega)
    have hz123 : PwQ x 0 := (Or.inl rfl)
    have hO : OKW G h0 a F R Z B J T Pi w := hO.to rfl
    exact W.iret (v := 0) hx hb hr (fun t99 ht99 hW99 => ⟨⟨_, (w, 0), rfl, ⟨rfl, hz122, hz123, hO⟩, by rw [ht99]; exact hP, hD⟩, hS.F ht99⟩) hS.2.2 dX8_power_302
  by_cases h124 : y9 = 41
  · subst h124
    refine lv_tableIn (tgt := 301) (off := 300) hx hb dX8_power_1 (by decide) (by decide) (by decide) (by decide) ?_
    refine lv_iconst (v := 0) hx hb dX8_power_301 (by decide) ?_
    have hz125 : 0 ≤ 10 := (by omega)
    have hz126 : PwQ x 0 := (Or.inl rfl)
    have hO : OKW G h0 a F R Z B J T Pi w := hO.to rfl
    exact W.iret (v := 0) hx hb hr (fun t99 ht99 hW99 => ⟨⟨_, (w, 0), rfl, ⟨rfl, hz125, hz126, hO⟩, by rw [ht99]; exact hP, hD⟩, hS.F ht99⟩) hS.2.2 dX8_power_302
  by_cases h127 : y9 = 42
  · subst h127
    refine lv_tableIn (tgt := 301) (off := 300) hx hb dX8_power_1 (by decide) (by decide) (by decide) (by decide) ?_
    refine lv_iconst (v := 0) hx hb dX8_power_301 (by decide) ?_
    have hz128 : 0 ≤ 10 := (by omega)
    have hz129 : PwQ x 0 := (Or.inl rfl)
    have hO : OKW G h0 a F R Z B J T Pi w := hO.to rfl
    exact W.iret (v := 0) hx hb hr (fun t99 ht99 hW99 => ⟨⟨_, (w, 0), rfl, ⟨rfl, hz128, hz129, hO⟩, by rw [ht99]; exact hP, hD⟩, hS.F ht99⟩) hS.2.2 dX8_power_302
  by_cases h130 : y9 = 43
  · subst h130
    refine lv_tableIn (tgt := 301) (off := 300) hx hb dX8_power_1 (by decide) (by decide) (by decide) (by decide) ?_
    refine lv_iconst (v := 0) hx hb dX8_power_301 (by decide) ?_
    have hz131 : 0 ≤ 10 := (by omega)
    have hz132 : PwQ x 0 := (Or.inl rfl)
    have hO : OKW G h0 a F R Z B J T Pi w := hO.to rfl
    exact W.iret (v := 0) hx hb hr (fun t99 ht99 hW99 => ⟨⟨_, (w, 0), rfl, ⟨rfl, hz131, hz132, hO⟩, by rw [ht99]; exact hP, hD⟩, hS.F ht99⟩) hS.2.2 dX8_power_302
  by_cases h133 : y9 = 44
  · subst h133
    refine lv_tableIn (tgt := 295) (off := 294) hx hb dX8_power_1 (by decide) (by decide) (by decide) (by decide) ?_
    refine lv_bipush (v := 9) hx hb dX8_power_295 (by decide) ?_
    have hz134 : 9 ≤ 10 := (by omega)
    have hz135 : PwQ x 9 := (Or.inr (by rw [← hy9]; decide))
    have hO : OKW G h0 a F R Z B J T Pi w := hO.to rfl
    exact W.iret (v := 9) hx hb hr (fun t99 ht99 hW99 => ⟨⟨_, (w, 9), rfl, ⟨rfl, hz134, hz135, hO⟩, by rw [ht99]; exact hP, hD⟩, hS.F ht99⟩) hS.2.2 dX8_power_297
  by_cases h136 : y9 = 45
  · subst h136
    refine lv_tableIn (tgt := 295) (off := 294) hx hb dX8_power_1 (by decide) (by decide) (by decide) (by decide) ?_
    refine lv_bipush (v := 9) hx hb dX8_power_295 (by decide) ?_
    have hz137 : 9 ≤ 10 := (by omega)
    have hz138 : PwQ x 9 := (Or.inr (by rw [← hy9]; decide))
    have hO : OKW G h0 a F R Z B J T Pi w := hO.to rfl
    exact W.iret (v := 9) hx hb hr (fun t99 ht99 hW99 => ⟨⟨_, (w, 9), rfl, ⟨rfl, hz137, hz138, hO⟩, by rw [ht99]; exact hP, hD⟩, hS.F ht99⟩) hS.2.2 dX8_power_297
  by_cases h139 : y9 = 46
  · subst h139
    refine lv_tableIn (tgt := 298) (off := 297) hx hb dX8_power_1 (by decide) (by decide) (by decide) (by decide) ?_
    refine lv_bipush (v := 10) hx hb dX8_power_298 (by decide) ?_
    have hz140 : 10 ≤ 10 := (by omega)
    have hz141 : PwQ x 10 := (Or.inr (by rw [← hy9]; decide))
    have hO : OKW G h0 a F R Z B J T Pi w := hO.to rfl
    exact W.iret (v := 10) hx hb hr (fun t99 ht99 hW99 => ⟨⟨_, (w, 10), rfl, ⟨rfl, hz140, hz141, hO⟩, by rw [ht99]; exact hP, hD⟩, hS.F ht99⟩) hS.2.2 dX8_power_300
  by_cases h142 : y9 = 47
  · subst h142
    refine lv_tableIn (tgt := 298) (off := 297) hx hb dX8_power_1 (by decide) (by decide) (by decide) (by decide) ?_
    refine lv_bipush (v := 10) hx hb dX8_power_298 (by decide) ?_
    have hz143 : 10 ≤ 10 := (by omega)
    have hz144 : PwQ x 10 := (Or.inr (by rw [← hy9]; decide))
    have hO : OKW G h0 a F R Z B J T Pi w := hO.to rfl
    exact W.iret (v := 10) hx hb hr (fun t99 ht99 hW99 => ⟨⟨_, (w, 10), rfl, ⟨rfl, hz143, hz144, hO⟩, by rw [ht99]; exact hP, hD⟩, hS.F ht99⟩) hS.2.2 dX8_power_300
  by_cases h145 : y9 = 48
  · subst h145
    refine lv_tableIn (tgt := 298) (off := 297) hx hb dX8_power_1 (by decide) (by decide) (by decide) (by decide) ?_
    refine lv_bipush (v := 10) hx hb dX8_power_298 (by decide) ?_
    have hz146 : 10 ≤ 10 := (by omega)
    have hz147 : PwQ x 10 := (Or.inr (by rw [← hy9]; decide))
    have hO : OKW G h0 a F R Z B J T Pi w := hO.to rfl
    exact W.iret (v := 10) hx hb hr (fun t99 ht99 hW99 => ⟨⟨_, (w, 10), rfl, ⟨rfl, hz146, hz147, hO⟩, by rw [ht99]; exact hP, hD⟩, hS.F ht99⟩) hS.2.2 dX8_power_300
  by_cases h148 : y9 = 49
  · subst h148
    refine lv_tableIn (tgt := 284) (off := 283) hx hb dX8_power_1 (by decide) (by decide) (by decide) (by decide) ?_
    refine lv_iconst (v := 5) hx hb dX8_power_284 (by decide) ?_
    have hz149 : 5 ≤ 10 := (by omega)
    have hz150 : PwQ x 5 := (Or.inr (by rw [← hy9]; decide))
    have hO : OKW G h0 a F R Z B J T Pi w := hO.to rfl
    exact W.iret (v := 5) hx hb hr (fun t99 ht99 hW99 => ⟨⟨_, (w, 5), rfl, ⟨rfl, hz149, hz150, hO⟩, by rw [ht99]; exact hP, hD⟩, hS.F ht99⟩) hS.2.2 dX8_power_285
  by_cases h151 : y9 = 50
  · subst h151
    refine lv_tableIn (tgt := 280) (off := 279) hx hb dX8_power_1 (by decide) (by decide) (by decide) (by decide) ?_
    refine lv_iconst (v := 3) hx hb dX8_power_280 (by decide) ?_
    have hz152 : 3 ≤ 10 := (by omega)
    have hz153 : PwQ x 3 := (Or.inr (by rw [← hy9]; decide))
    have hO : OKW G h0 a F R Z B J T Pi w := hO.to rfl
    exact W.iret (v := 3) hx hb hr (fun t99 ht99 hW99 => ⟨⟨_, (w, 3), rfl, ⟨rfl, hz152, hz153, hO⟩, by rw [ht99]; exact hP, hD⟩, hS.F ht99⟩) hS.2.2 dX8_power_281
  by_cases h154 : y9 = 51
  · subst h154
    refine lv_tableIn (tgt := 282) (off := 281) hx hb dX8_power_1 (by decide) (by decide) (by decide) (by decide) ?_
    refine lv_iconst (v := 4) hx hb dX8_power_282 (by decide) ?_
    have hz155 : 4 ≤ 10 := (by omega)
    have hz156 : PwQ x 4 := (Or.inr (by rw [← hy9]; decide))
    have hO : OKW G h0 a F R Z B J T Pi w := hO.to rfl
    exact W.iret (v := 4) hx hb hr (fun t99 ht99 hW99 => ⟨⟨_, (w, 4), rfl, ⟨rfl, hz155, hz156, hO⟩, by rw [ht99]; exact hP, hD⟩, hS.F ht99⟩) hS.2.2 dX8_power_283
  by_cases h157 : y9 = 52
  · subst h157
    refine lv_tableIn (tgt := 301) (off := 300) hx hb dX8_power_1 (by decide) (by decide) (by decide) (by decide) ?_
    refine lv_iconst (v := 0) hx hb dX8_power_301 (by decide) ?_
    have hz158 : 0 ≤ 10 := (by omega)
    have hz159 : PwQ x 0 := (Or.inl rfl)
    have hO : OKW G h0 a F R Z B J T Pi w := hO.to rfl
    exact W.iret (v := 0) hx hb hr (fun t99 ht99 hW99 => ⟨⟨_, (w, 0), rfl, ⟨rfl, hz158, hz159, hO⟩, by rw [ht99]; exact hP, hD⟩, hS.F ht99⟩) hS.2.2 dX8_power_302
  by_cases h160 : y9 = 53
  · subst h160
    refine lv_tableIn (tgt := 301) (off := 300) hx hb dX8_power_1 (by decide) (by decide) (by decide) (by decide) ?_
    refine lv_iconst (v := 0) hx hb dX8_power_301 (by decide) ?_
    have hz161 : 0 ≤ 10 := (by omega)
    have hz162 : PwQ x 0 := (Or.inl rfl)
    have hO : OKW G h0 a F R Z B J T Pi w := hO.to rfl
    exact W.iret (v := 0) hx hb hr (fun t99 ht99 hW99 => ⟨⟨_, (w, 0), rfl, ⟨rfl, hz161, hz162, hO⟩, by rw [ht99]; exact hP, hD⟩, hS.F ht99⟩) hS.2.2 dX8_power_302
  by_cases h163 : y9 = 54
  · subst h163
    refine lv_tableIn (tgt := 289) (off := 288) hx hb dX8_power_1 (by decide) (by decide) (by decide) (by decide) ?_
    refine lv_bipush (v := 7) hx hb dX8_power_289 (by decide) ?_
    have hz164 : 7 ≤ 10 := (by omega)
    have hz165 : PwQ x 7 := (Or.inr (by rw [← hy9]; decide))
    have hO : OKW G h0 a F R Z B J T Pi w := hO.to rfl
    exact W.iret (v := 7) hx hb hr (fun t99 ht99 hW99 => ⟨⟨_, (w, 7), rfl, ⟨rfl, hz164, hz165, hO⟩, by rw [ht99]; exact hP, hD⟩, hS.F ht99⟩) hS.2.2 dX8_power_291
  by_cases h166 : y9 = 55
  · subst h166
    refine lv_tableIn (tgt := 289) (off := 288) hx hb dX8_power_1 (by decide) (by decide) (by decide) (by decide) ?_
    refine lv_bipush (v := 7) hx hb dX8_power_289 (by decide) ?_
    have hz167 : 7 ≤ 10 := (by omega)
    have hz168 : PwQ x 7 := (Or.inr (by rw [← hy9]; decide))
    have hO : OKW G h0 a F R Z B J T Pi w := hO.to rfl
    exact W.iret (v := 7) hx hb hr (fun t99 ht99 hW99 => ⟨⟨_, (w, 7), rfl, ⟨rfl, hz167, hz168, hO⟩, by rw [ht99]; exact hP, hD⟩, hS.F ht99⟩) hS.2.2 dX8_power_291
  by_cases h169 : y9 = 56
  · subst h169
    refine lv_tableIn (tgt := 289) (off := 288) hx hb dX8_power_1 (by decide) (by decide) (by decide) (by decide) ?_
    refine lv_bipush (v := 7) hx hb dX8_power_289 (by decide) ?_
    have hz170 : 7 ≤ 10 := (by omega)
    have hz171 : PwQ x 7 := (Or.inr (by rw [← hy9]; decide))
    have hO : OKW G h0 a F R Z B J T Pi w := hO.to rfl
    exact W.iret (v := 7) hx hb hr (fun t99 ht99 hW99 => ⟨⟨_, (w, 7), rfl, ⟨rfl, hz170, hz171, hO⟩, by rw [ht99]; exact hP, hD⟩, hS.F ht99⟩) hS.2.2 dX8_power_291
  by_cases h172 : y9 = 57
  · subst h172
    refine lv_tableIn (tgt := 289) (off := 288) hx hb dX8_power_1 (by decide) (by decide) (by decide) (by decide) ?_
    refine lv_bipush (v := 7) hx hb dX8_power_289 (by decide) ?_
    have hz173 : 7 ≤ 10 := (by omega)
    have hz174 : PwQ x 7 := (Or.inr (by rw [← hy9]; decide))
    have hO : OKW G h0 a F R Z B J T Pi w := hO.to rfl
    exact W.iret (v := 7) hx hb hr (fun t99 ht99 hW99 => ⟨⟨_, (w, 7), rfl, ⟨rfl, hz173, hz174, hO⟩, by rw [ht99]; exact hP, hD⟩, hS.F ht99⟩) hS.2.2 dX8_power_291
  by_cases h175 : y9 = 58
  · subst h175
    refine lv_tableIn (tgt := 286) (off := 285) hx hb dX8_power_1 (by decide) (by decide) (by decide) (by decide) ?_
    refine lv_bipush (v := 6) hx hb dX8_power_286 (by decide) ?_
    have hz176 : 6 ≤ 10 := (by omega)
    have hz177 : PwQ x 6 := (Or.inr (by rw [← hy9]; decide))
    have hO : OKW G h0 a F R Z B J T Pi w := hO.to rfl
    exact W.iret (v := 6) hx hb hr (fun t99 ht99 hW99 => ⟨⟨_, (w, 6), rfl, ⟨rfl, hz176, hz177, hO⟩, by rw [ht99]; exact hP, hD⟩, hS.F ht99⟩) hS.2.2 dX8_power_288
  by_cases h178 : y9 = 59
  · subst h178
    refine lv_tableIn (tgt := 286) (off := 285) hx hb dX8_power_1 (by decide) (by decide) (by decide) (by decide) ?_
    refine lv_bipush (v := 6) hx hb dX8_power_286 (by decide) ?_
    have hz179 : 6 ≤ 10 := (by omega)
    have hz180 : PwQ x 6 := (Or.inr (by rw [← hy9]; decide))
    have hO : OKW G h0 a F R Z B J T Pi w := hO.to rfl
    exact W.iret (v := 6) hx hb hr (fun t99 ht99 hW99 => ⟨⟨_, (w, 6), rfl, ⟨rfl, hz179, hz180, hO⟩, by rw [ht99]; exact hP, hD⟩, hS.F ht99⟩) hS.2.2 dX8_power_288
  by_cases h181 : y9 = 60
  · subst h181
    refine lv_tableIn (tgt := 278) (off := 277) hx hb dX8_power_1 (by decide) (by decide) (by decide) (by decide) ?_
    refine lv_iconst (v := 2) hx hb dX8_power_278 (by decide) ?_
    have hz182 : 2 ≤ 10 := (by omega)
    have hz183 : PwQ x 2 := (Or.inr (by rw [← hy9]; decide))
    have hO : OKW G h0 a F R Z B J T Pi w := hO.to rfl
    exact W.iret (v := 2) hx hb hr (fun t99 ht99 hW99 => ⟨⟨_, (w, 2), rfl, ⟨rfl, hz182, hz183, hO⟩, by rw [ht99]; exact hP, hD⟩, hS.F ht99⟩) hS.2.2 dX8_power_279
  by_cases h184 : y9 = 61
  · subst h184
    refine lv_tableIn (tgt := 276) (off := 275) hx hb dX8_power_1 (by decide) (by decide) (by decide) (by decide) ?_
    refine lv_iconst (v := 1) hx hb dX8_power_276 (by decide) ?_
    have hz185 : 1 ≤ 10 := (by omega)
    have hz186 : PwQ x 1 := (Or.inr (by rw [← hy9]; decide))
    have hO : OKW G h0 a F R Z B J T Pi w := hO.to rfl
    exact W.iret (v := 1) hx hb hr (fun t99 ht99 hW99 => ⟨⟨_, (w, 1), rfl, ⟨rfl, hz185, hz186, hO⟩, by rw [ht99]; exact hP, hD⟩, hS.F ht99⟩) hS.2.2 dX8_power_277
  by_cases h187 : y9 = 62
  · subst h187
    refine lv_tableIn (tgt := 292) (off := 291) hx hb dX8_power_1 (by decide) (by decide) (by decide) (by decide) ?_
    refine lv_bipush (v := 8) hx hb dX8_power_292 (by decide) ?_
    have hz188 : 8 ≤ 10 := (by omega)
    have hz189 : PwQ x 8 := (Or.inr (by rw [← hy9]; decide))
    have hO : OKW G h0 a F R Z B J T Pi w := hO.to rfl
    exact W.iret (v := 8) hx hb hr (fun t99 ht99 hW99 => ⟨⟨_, (w, 8), rfl, ⟨rfl, hz188, hz189, hO⟩, by rw [ht99]; exact hP, hD⟩, hS.F ht99⟩) hS.2.2 dX8_power_294
  by_cases h190 : y9 = 63
  · subst h190
    refine lv_tableIn (tgt := 292) (off := 291) hx hb dX8_power_1 (by decide) (by decide) (by decide) (by decide) ?_
    refine lv_bipush (v := 8) hx hb dX8_power_292 (by decide) ?_
    have hz191 : 8 ≤ 10 := (by omega)
    have hz192 : PwQ x 8 := (Or.inr (by rw [← hy9]; decide))
    have hO : OKW G h0 a F R Z B J T Pi w := hO.to rfl
    exact W.iret (v := 8) hx hb hr (fun t99 ht99 hW99 => ⟨⟨_, (w, 8), rfl, ⟨rfl, hz191, hz192, hO⟩, by rw [ht99]; exact hP, hD⟩, hS.F ht99⟩) hS.2.2 dX8_power_294
  by_cases h193 : y9 = 64
  · subst h193
    refine lv_tableIn (tgt := 292) (off := 291) hx hb dX8_power_1 (by decide) (by decide) (by decide) (by decide) ?_
    refine lv_bipush (v := 8) hx hb dX8_power_292 (by decide) ?_
    have hz194 : 8 ≤ 10 := (by omega)
    have hz195 : PwQ x 8 := (Or.inr (by rw [← hy9]; decide))
    have hO : OKW G h0 a F R Z B J T Pi w := hO.to rfl
    exact W.iret (v := 8) hx hb hr (fun t99 ht99 hW99 => ⟨⟨_, (w, 8), rfl, ⟨rfl, hz194, hz195, hO⟩, by rw [ht99]; exact hP, hD⟩, hS.F ht99⟩) hS.2.2 dX8_power_294
  refine lv_tableOut (tgt := 301) hx hb dX8_power_1 (sw_out64 h1 h4 h7 h10 h13 h16 h19 h22 h25 h28 h31 h34 h37 h40 h43 h46 h49 h52 h55 h58 h61 h64 h67 h70 h73 h76 h79 h82 h85 h88 h91 h94 h97 h100 h103 h106 h109 h112 h115 h118 h121 h124 h127 h130 h133 h136 h139 h142 h145 h148 h151 h154 h157 h160 h163 h166 h169 h172 h175 h178 h181 h184 h187 h190 h193) (by decide) ?_
  refine lv_iconst (v := 0) hx hb dX8_power_301 (by decide) ?_
  have hz196 : 0 ≤ 10 := (by omega)
  have hz197 : PwQ x 0 := (Or.inl rfl)
  have hO : OKW G h0 a F R Z B J T Pi w := hO.to rfl
  exact W.iret (v := 0) hx hb hr (fun t99 ht99 hW99 => ⟨⟨_, (w, 0), rfl, ⟨rfl, hz196, hz197, hO⟩, by rw [ht99]; exact hP, hD⟩, hS.F ht99⟩) hS.2.2 dX8_power_302
set_option maxHeartbeats 2000000 in
set_option maxRecDepth 100000 in
theorem P_signNode (l : Launch) (G : pT) (h0 : Nat) (a : Nat → Nat) (F : Nat → Int32) (R : Nat → Value) (Z : Int64) (B : Nat → Nat → Int32) (J : Nat → Nat → Int64) (T : Nat → Nat) (Pi : Nat → va_E → Prop) (w : va_W) (x : Int32) (hO : OKW G h0 a F R Z B J T Pi w) : PM l G pX0 yX8_signNode cX8_signNode 1 (some .int) ({ frames := 2, cells := 0, slots := 0, locals := 60 }) [.int x] w (fun (v : Option Value) (u : va_W × (Int32)) => v = some (.int u.2) ∧ (SgK u.2) ∧ (OKW G h0 a F R Z B J T Pi u.1)) (fun u => u.1) := by
  intro sz
  refine Met.ofW (cc := cX8_signNode) (maxL := 1) (ret := (some .int)) (by decide) rfl ?_
  intro p e s m args below meth c s₁ B9 hml hv
  obtain ⟨rfl, hsz, hP, hD0, hE, hX⟩ := hv
  have hx := B9.exec
  have hb := B9.bytes
  have hr := B9.returns
  have hts := atoms_spec (ws := Cond.code yX8_signNode cX8_signNode 1 (some .int) :: pw) B9.pre
  have hq : ∀ w ∈ pw, w.before _ s = true := fun w h => hts w (List.mem_cons_of_mem _ h)
  have hown : s.vm.findClass RX8 = some m.cls := findClass_of_methodNamed B9.named
  have hlocks := B9.notSynchronized
  subst hsz
  have hD := hD0.self (sz := s.heap.size)
  have hA : ∀ q : Nat, s.heap.size ≤ q → va_A w s.heap.size q := fun q h => Or.inr h
  generalize va_A w s.heap.size = A at hD hE hA ⊢
  have hS : va_S A s.heap s.heap [] := va_S.rf
  have hl := lv_entry ([.int x]) (n := 1) (Nat.le_of_ble_eq_true rfl)
  rw [lg_entry_eq]
  generalize (lg_sl ([.int x]) ++ List.replicate (1 - (lg_sl ([.int x])).length) Slot.unset).toArray = ls at hl ⊢
  have hl : lv_has ls 1 [(0, .int x)] := hl
  refine lv_iload_n hx hb dX8_signNode_0 rfl (lv_at hl 0 rfl) ?_
  refine lv_bipush (v := 15) hx hb dX8_signNode_1 (by decide) ?_
  refine lv_icmp_eq (tgt := 10) hx hb dX8_signNode_3 (by decide) (fun c1 => ?_) (fun c1 => ?_)
  · refine lv_bipush (v := 19) hx hb dX8_signNode_10 (by decide) ?_
    have hz2 : SgK (19 : Int32) := (by unfold SgK; decide)
    have hO : OKW G h0 a F R Z B J T Pi w := hO.to rfl
    exact W.iret (v := 19) hx hb hr (fun t99 ht99 hW99 => ⟨⟨_, (w, (19 : Int32)), rfl, ⟨rfl, hz2, hO⟩, by rw [ht99]; exact hP, hD⟩, hS.F ht99⟩) hS.2.2 dX8_signNode_12
  · refine lv_iload_n hx hb dX8_signNode_6 rfl (lv_at hl 0 rfl) ?_
    refine lv_if_ne (tgt := 13) hx hb dX8_signNode_7 (by decide) (fun c3 => ?_) (fun c3 => ?_)
    · refine lv_iload_n hx hb dX8_signNode_13 rfl (lv_at hl 0 rfl) ?_
      refine lv_bipush (v := 60) hx hb dX8_signNode_14 (by decide) ?_
      refine lv_icmp_eq (tgt := 25) hx hb dX8_signNode_16 (by decide) (fun c4 => ?_) (fun c4 => ?_)
      · refine lv_bipush (v := 18) hx hb dX8_signNode_25 (by decide) ?_
        refine lv_goto (tgt := 32) hx hb dX8_signNode_27 (by decide) ?_
        have hz5 : SgK (18 : Int32) := (by unfold SgK; decide)
        have hO : OKW G h0 a F R Z B J T Pi w := hO.to rfl
        exact W.iret (v := 18) hx hb hr (fun t99 ht99 hW99 => ⟨⟨_, (w, (18 : Int32)), rfl, ⟨rfl, hz5, hO⟩, by rw [ht99]; exact hP, hD⟩, hS.F ht99⟩) hS.2.2 dX8_signNode_32
      · refine lv_iload_n hx hb dX8_signNode_19 rfl (lv_at hl 0 rfl) ?_
        refine lv_bipush (v := 61) hx hb dX8_signNode_20 (by decide) ?_
        refine lv_icmp_ne (tgt := 30) hx hb dX8_signNode_22 (by decide) (fun c6 => ?_) (fun c6 => ?_)
        · refine lv_bipush (v := 17) hx hb dX8_signNode_30 (by decide) ?_
          have hz7 : SgK (17 : Int32) := (by unfold SgK; decide)
          have hO : OKW G h0 a F R Z B J T Pi w := hO.to rfl
          exact W.iret (v := 17) hx hb hr (fun t99 ht99 hW99 => ⟨⟨_, (w, (17 : Int32)), rfl, ⟨rfl, hz7, hO⟩, by rw [ht99]; exact hP, hD⟩, hS.F ht99⟩) hS.2.2 dX8_signNode_32
        · refine lv_bipush (v := 18) hx hb dX8_signNode_25 (by decide) ?_
          refine lv_goto (tgt := 32) hx hb dX8_signNode_27 (by decide) ?_
          have hz8 : SgK (18 : Int32) := (by unfold SgK; decide)
          have hO : OKW G h0 a F R Z B J T Pi w := hO.to rfl
          exact W.iret (v := 18) hx hb hr (fun t99 ht99 hW99 => ⟨⟨_, (w, (18 : Int32)), rfl, ⟨rfl, hz8, hO⟩, by rw [ht99]; exact hP, hD⟩, hS.F ht99⟩) hS.2.2 dX8_signNode_32
    · refine lv_bipush (v := 19) hx hb dX8_signNode_10 (by decide) ?_
      have hz9 : SgK (19 : Int32) := (by unfold SgK; decide)
      have hO : OKW G h0 a F R Z B J T Pi w := hO.to rfl
      exact W.iret (v := 19) hx hb hr (fun t99 ht99 hW99 => ⟨⟨_, (w, (19 : Int32)), rfl, ⟨rfl, hz9, hO⟩, by rw [ht99]; exact hP, hD⟩, hS.F ht99⟩) hS.2.2 dX8_signNode_12
