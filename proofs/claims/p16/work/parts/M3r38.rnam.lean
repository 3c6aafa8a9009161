/-! the rounds of names -/
/-- the first place from k on, of n, where f is x -/
def dOf (f : Nat → Int32) (x : Int32) : Nat → Nat → Int32
  | 0, _ => -1
  | n + 1, k => if f k = x then nI k else dOf f x n (k + 1)
theorem dOf_ne {f : Nat → Int32} {x : Int32} {n k : Nat} (h : ¬ f k = x) : dOf f x (n + 1) k = dOf f x n (k + 1) := by
  show (if f k = x then _ else _) = _
  rw [if_neg h]
theorem dOf_eq {f : Nat → Int32} {x : Int32} {n k : Nat} (h : f k = x) : dOf f x (n + 1) k = nI k := by
  show (if f k = x then _ else _) = _
  rw [if_pos h]
theorem dOf_hit {f : Nat → Int32} {x : Int32} {dc k : Nat} (hk : k < dc) (h : f k = x) (e : dOf f x dc 0 = dOf f x (dc - k) k) : dOf f x dc 0 = nI k := by
  obtain ⟨n, hn⟩ : ∃ n, dc - k = n + 1 := ⟨dc - k - 1, by omega⟩
  rw [e, hn, dOf_eq h]
theorem dOf_go {f : Nat → Int32} {x : Int32} {dc k : Nat} (hk : k < dc) (h : ¬ f k = x) (e : dOf f x dc 0 = dOf f x (dc - k) k) : dOf f x dc 0 = dOf f x (dc - (k + 1)) (k + 1) := by
  obtain ⟨n, hn⟩ : ∃ n, dc - k = n + 1 := ⟨dc - k - 1, by omega⟩
  rw [e, hn, dOf_ne h, show dc - (k + 1) = n by omega]
theorem dOf_end {f : Nat → Int32} {x : Int32} {dc k : Nat} (hk : dc ≤ k) (e : dOf f x dc 0 = dOf f x (dc - k) k) : dOf f x dc 0 = -1 := by
  rw [e, show dc - k = 0 by omega]; rfl
theorem dOf_or {f : Nat → Int32} {x : Int32} : ∀ n k : Nat, dOf f x n k = -1 ∨ ∃ d : Nat, dOf f x n k = nI d ∧ k ≤ d ∧ d < k + n ∧ f d = x := by
  intro n
  induction n with
  | zero => intro k; exact Or.inl rfl
  | succ n ih =>
    intro k
    by_cases h : f k = x
    · exact Or.inr ⟨k, dOf_eq h, Nat.le_refl _, by omega, h⟩
    · rw [dOf_ne h]
      exact (ih (k + 1)).imp id (fun ⟨d, a, b, c, e⟩ => ⟨d, a, by omega, by omega, e⟩)
/-- a list, step by step -/
def itr (ln : Nat → Int32) (v : Int32) : Nat → Int32
  | 0 => v
  | k + 1 => if itr ln v k = -1 then -1 else ln (itr ln v k).toNatClampNeg
theorem itr_s {ln : Nat → Int32} {v : Int32} {k p : Nat} (h : itr ln v k = nI p) (hp : p < 2 ^ 31) : itr ln v (k + 1) = ln p := by
  show (if itr ln v k = -1 then -1 else ln (itr ln v k).toNatClampNeg) = _
  rw [h, if_neg (nI_m1 hp)]
  congr 1
  have := nI_toInt hp
  show (nI p).toInt.toNat = p
  rw [this]; rfl
theorem itr_m1 {ln : Nat → Int32} {v : Int32} {k : Nat} (h : itr ln v k = -1) : ∀ i : Nat, k ≤ i → itr ln v i = -1 := by
  intro i hi
  induction i with
  | zero => rw [show k = 0 by omega] at h; exact h
  | succ i ih =>
    by_cases e : k = i + 1
    · rw [← e]; exact h
    · show (if itr ln v i = -1 then -1 else _) = _
      rw [if_pos (ih (by omega))]
/-- the members of a list lie below lz, the k-th at k or later -/
theorem itr_or {lt ln : Nat → Int32} {v : Int32} {lz T : Nat} (hl : lsRow lt ln lz T) (hv : v = -1 ∨ ∃ q : Nat, v = nI q ∧ q < lz) (hz : lz ≤ 5000) : ∀ k : Nat, itr ln v k = -1 ∨ ∃ p : Nat, itr ln v k = nI p ∧ k ≤ p ∧ p < lz := by
  intro k
  induction k with
  | zero => exact hv.imp id (fun ⟨q, a, b⟩ => ⟨q, a, by omega, b⟩)
  | succ k ih =>
    rcases ih with e | ⟨p, e, h1, h2⟩
    · exact Or.inl (itr_m1 e _ (by omega))
    · rw [itr_s e (by omega)]
      exact (hl p h2).2.imp id (fun ⟨q, a, b, c⟩ => ⟨q, c, by omega, b⟩)
/-- one member of a list: known, and of the sort that is wanted -/
def gdM (f V lt dI : Nat → Int32) (dc lz T : Nat) (b w : Int32) : Prop := w = -1 ∨ ∃ p t d : Nat, w = nI p ∧ p < lz ∧ lt p = nI t ∧ t ≤ T ∧ dOf f (V t) dc 0 = nI d ∧ d < dc ∧ dI d = b
def Chn (f V lt ln dI : Nat → Int32) (dc lz T : Nat) (b v : Int32) (j : Nat) : Prop := ∀ i : Nat, i < j → gdM f V lt dI dc lz T b (itr ln v i)
def ChnA (f V lt ln dI : Nat → Int32) (dc lz T : Nat) (b v : Int32) : Prop := ∀ i : Nat, gdM f V lt dI dc lz T b (itr ln v i)
theorem Chn.zero {f V lt ln dI : Nat → Int32} {dc lz T : Nat} {b v : Int32} : Chn f V lt ln dI dc lz T b v 0 := fun i h => absurd h (by omega)
theorem Chn.succ {f V lt ln dI : Nat → Int32} {dc lz T j : Nat} {b v : Int32} (h : Chn f V lt ln dI dc lz T b v j) (g : gdM f V lt dI dc lz T b (itr ln v j)) : Chn f V lt ln dI dc lz T b v (j + 1) := fun i hi => by
  by_cases e : i = j
  · rw [e]; exact g
  · exact h i (by omega)
theorem Chn.all {f V lt ln dI : Nat → Int32} {dc lz T j : Nat} {b v : Int32} (h : Chn f V lt ln dI dc lz T b v j) (e : itr ln v j = -1) : ChnA f V lt ln dI dc lz T b v := fun i => by
  by_cases q : i < j
  · exact h i q
  · exact Or.inl (itr_m1 e i (by omega))
theorem bit_nar {x : Int32} (h : x = 0 ∨ x = 1) : narrow .boolean (.int x) = .int x := by
  rcases h with e | e <;> rw [e] <;> rfl
theorem dX12_note_0 : decode cX12_note 0 = .ok (.aload_n 0, 1) := by decide +kernel
theorem dX12_note_1 : decode cX12_note 1 = .ok (.getfield 19, 3) := by decide +kernel
theorem dX12_note_4 : decode cX12_note 4 = .ok (.iload_n 2, 1) := by decide +kernel
theorem dX12_note_5 : decode cX12_note 5 = .ok (.iaload, 1) := by decide +kernel
theorem dX12_note_6 : decode cX12_note 6 = .ok (.istore_n 3, 1) := by decide +kernel
theorem dX12_note_7 : decode cX12_note 7 = .ok (.aload_n 0, 1) := by decide +kernel
theorem dX12_note_8 : decode cX12_note 8 = .ok (.getfield 493, 3) := by decide +kernel
theorem dX12_note_11 : decode cX12_note 11 = .ok (.ifCond .eq 27, 3) := by decide +kernel
theorem dX12_note_38 : decode cX12_note 38 = .ok (.aload_n 0, 1) := by decide +kernel
theorem dX12_note_39 : decode cX12_note 39 = .ok (.iload_n 1, 1) := by decide +kernel
theorem dX12_note_40 : decode cX12_note 40 = .ok (.putfield 493, 3) := by decide +kernel
theorem dX12_note_43 : decode cX12_note 43 = .ok (.aload_n 0, 1) := by decide +kernel
theorem dX12_note_44 : decode cX12_note 44 = .ok (.iload_n 3, 1) := by decide +kernel
theorem dX12_note_45 : decode cX12_note 45 = .ok (.putfield 496, 3) := by decide +kernel
theorem dX12_note_48 : decode cX12_note 48 = .ok (.return_, 1) := by decide +kernel
theorem dX12_note_14 : decode cX12_note 14 = .ok (.iload_n 3, 1) := by decide +kernel
theorem dX12_note_15 : decode cX12_note 15 = .ok (.aload_n 0, 1) := by decide +kernel
theorem dX12_note_16 : decode cX12_note 16 = .ok (.getfield 496, 3) := by decide +kernel
theorem dX12_note_19 : decode cX12_note 19 = .ok (.if_icmp .lt 19, 3) := by decide +kernel
theorem dX12_note_22 : decode cX12_note 22 = .ok (.iload_n 3, 1) := by decide +kernel
theorem dX12_note_23 : decode cX12_note 23 = .ok (.aload_n 0, 1) := by decide +kernel
theorem dX12_note_24 : decode cX12_note 24 = .ok (.getfield 496, 3) := by decide +kernel
theorem dX12_note_27 : decode cX12_note 27 = .ok (.if_icmp .ne 21, 3) := by decide +kernel
theorem dX12_note_30 : decode cX12_note 30 = .ok (.iload_n 1, 1) := by decide +kernel
theorem dX12_note_31 : decode cX12_note 31 = .ok (.aload_n 0, 1) := by decide +kernel
theorem dX12_note_32 : decode cX12_note 32 = .ok (.getfield 493, 3) := by decide +kernel
theorem dX12_note_35 : decode cX12_note 35 = .ok (.if_icmp .ge 13, 3) := by decide +kernel
set_option maxHeartbeats 2000000 in
set_option maxRecDepth 100000 in
/-- note(what, token) -/
theorem R_note (l : Launch) (G : pT) (h0 : Nat) (a : Nat → Nat) (F : Nat → Int32) (B : Nat → Nat → Int32) (x : Nat) (i : Nat) (rw : Nat) (ra : Int32) (hx9 : 0 < x ∧ x ≤ 15) (hi : i ≤ 5000) (hrw : rw ≤ 15) : PM l G pX0 yX12_note cX12_note 4 none ({ frames := 2, cells := 0, slots := 0, locals := 60 }) [.ref h0, .int (nI x), .int (nI i)] (mW G h0 a (upd (upd F 69 ra) 70 (nI rw)) B) (fun (v : Option Value) (u : Nat × Int32) => v = none ∧ (0 < u.1) ∧ (u.1 ≤ 15)) (fun u => (mW G h0 a (upd (upd F 69 u.2) 70 (nI u.1)) B)) := by
  intro sz
  refine Met.ofW (cc := cX12_note) (maxL := 4) (ret := none) (by decide) rfl ?_
  intro p e s m args below meth c s₁ B9 hml hv
  obtain ⟨rfl, hsz, hP, hD0, hE, hX⟩ := hv
  have hx := B9.exec
  have hb := B9.bytes
  have hr := B9.returns
  have hts := atoms_spec (ws := Cond.code yX12_note cX12_note 4 none :: pw) B9.pre
  have hq : ∀ w ∈ pw, w.before _ s = true := fun w h => hts w (List.mem_cons_of_mem _ h)
  have hown : s.vm.findClass RX12 = some m.cls := findClass_of_methodNamed B9.named
  have hlocks := B9.notSynchronized
  subst hsz
  have hD := hD0.self (sz := s.heap.size)
  have hA : ∀ q : Nat, s.heap.size ≤ q → va_A (mW G h0 a (upd (upd F 69 ra) 70 (nI rw)) B) s.heap.size q := fun q h => Or.inr h
  have hP : va_P G.1 pCl (mW G h0 a (upd (upd F 69 ra) 70 (nI rw)) B) s.heap := hP
  generalize va_A (mW G h0 a (upd (upd F 69 ra) 70 (nI rw)) B) s.heap.size = A at hD hE hA ⊢
  have hS : va_S A s.heap s.heap [] := va_S.rf
  have hl := lv_entry ([.ref h0, .int (nI x), .int (nI i)]) (n := 4) (Nat.le_of_ble_eq_true rfl)
  rw [lg_entry_eq]
  generalize (lg_sl ([.ref h0, .int (nI x), .int (nI i)]) ++ List.replicate (4 - (lg_sl ([.ref h0, .int (nI x), .int (nI i)])).length) Slot.unset).toArray = ls at hl ⊢
  have hl : lv_has ls 4 [(0, .ref h0), (1, .int (nI x)), (2, .int (nI i))] := hl
  refine lv_aload_n hx hb dX12_note_0 rfl (lv_at hl 0 rfl) ?_
  refine r_get (v := .ref (a 3)) hx hb hown hq hE hP 6 19 tFX12_6 (by decide) pw_1433 rfl dX12_note_1 ?_
  refine lv_iload_n hx hb dX12_note_4 rfl (lv_at hl 2 rfl) ?_
  refine r_ldi (f := (B 3)) (j := i) hx hb hE hP 3 (ma_3 G a _) rfl (by omega) (by decide) dX12_note_5 ?_
  refine lv_topi (fun x1 e2 => ?_)
  refine lv_istore_n (lv' := [(3, .int x1), (0, .ref h0), (1, .int (nI x)), (2, .int (nI i))]) hx hb dX12_note_6 rfl hl (by decide) rfl (fun ls hl => ?_)
  refine lv_aload_n hx hb dX12_note_7 rfl (lv_at hl 1 rfl) ?_
  refine r_get (v := .int (nI rw)) hx hb hown hq hE hP 70 493 tFX12_70 (by decide) pw_1741 rfl dX12_note_8 ?_
  refine lv_if_eq (tgt := 38) hx hb dX12_note_11 (by decide) (fun c3 => ?_) (fun c3 => ?_)
  · have n4 : rw = 0 := (nI_eq (a := rw) (b := 0) (by omega) (by omega)).mp c3
    refine lv_aload_n hx hb dX12_note_38 rfl (lv_at hl 1 rfl) ?_
    refine lv_iload_n hx hb dX12_note_39 rfl (lv_at hl 2 rfl) ?_
    refine r_put (v := (nI x)) (ty := .int) hx hb hown hq hE hP hD hS 70 493 tFX12_70 (by decide) pw_1741 (by decide) rfl rfl (ms_70 a _ _) dX12_note_40 (fun H locs hP hD hS => ?_)
    refine lv_aload_n hx hb dX12_note_43 rfl (lv_at hl 1 rfl) ?_
    refine lv_iload_n hx hb dX12_note_44 rfl (lv_at hl 0 rfl) ?_
    refine r_put (v := x1) (ty := .int) hx hb hown hq hE hP hD hS 69 496 tFX12_69 (by decide) pw_1742 (by decide) rfl rfl (ms_69 a _ _) dX12_note_45 (fun H locs hP hD hS => ?_)
    have hz5 : 0 < x := (by omega)
    have hz6 : x ≤ 15 := (by omega)
    have hP : va_P G.1 pCl (mW G h0 a (upd (upd F 69 x1) 70 (nI x)) B) _ := mW_to (F := F) (l1 := [(69, ra), (70, (nI rw)), (70, (nI x)), (69, x1)]) (l2 := [(69, x1), (70, (nI x))]) (V := [x1, (nI x), (nI x), x1, x1, (nI x)]) rfl rfl rfl hP
    have hD : va_D A (mW G h0 a (upd (upd F 69 x1) 70 (nI x)) B) := mW_D hD
    exact W.vret hx hb hr (fun t9 ht9 hW9 => ⟨⟨_, (x, x1), rfl, ⟨rfl, hz5, hz6⟩, by rw [ht9]; exact hP, hD⟩, hS.F ht9⟩) hS.2.2 dX12_note_48
  · have n7 : ¬ (rw = 0) := fun h9 => c3 ((nI_eq (a := rw) (b := 0) (by omega) (by omega)).mpr h9)
    refine lv_iload_n hx hb dX12_note_14 rfl (lv_at hl 0 rfl) ?_
    refine lv_aload_n hx hb dX12_note_15 rfl (lv_at hl 1 rfl) ?_
    refine r_get (v := .int ra) hx hb hown hq hE hP 69 496 tFX12_69 (by decide) pw_1742 rfl dX12_note_16 ?_
    refine lv_icmp_lt (tgt := 38) hx hb dX12_note_19 (by decide) (fun c8 => ?_) (fun c8 => ?_)
    · refine lv_aload_n hx hb dX12_note_38 rfl (lv_at hl 1 rfl) ?_
      refine lv_iload_n hx hb dX12_note_39 rfl (lv_at hl 2 rfl) ?_
      refine r_put (v := (nI x)) (ty := .int) hx hb hown hq hE hP hD hS 70 493 tFX12_70 (by decide) pw_1741 (by decide) rfl rfl (ms_70 a _ _) dX12_note_40 (fun H locs hP hD hS => ?_)
      refine lv_aload_n hx hb dX12_note_43 rfl (lv_at hl 1 rfl) ?_
      refine lv_iload_n hx hb dX12_note_44 rfl (lv_at hl 0 rfl) ?_
      refine r_put (v := x1) (ty := .int) hx hb hown hq hE hP hD hS 69 496 tFX12_69 (by decide) pw_1742 (by decide) rfl rfl (ms_69 a _ _) dX12_note_45 (fun H locs hP hD hS => ?_)
      have hz9 : 0 < x := (by omega)
      have hz10 : x ≤ 15 := (by omega)
      have hP : va_P G.1 pCl (mW G h0 a (upd (upd F 69 x1) 70 (nI x)) B) _ := mW_to (F := F) (l1 := [(69, ra), (70, (nI rw)), (70, (nI x)), (69, x1)]) (l2 := [(69, x1), (70, (nI x))]) (V := [x1, (nI x), (nI x), x1, x1, (nI x)]) rfl rfl rfl hP
      have hD : va_D A (mW G h0 a (upd (upd F 69 x1) 70 (nI x)) B) := mW_D hD
      exact W.vret hx hb hr (fun t9 ht9 hW9 => ⟨⟨_, (x, x1), rfl, ⟨rfl, hz9, hz10⟩, by rw [ht9]; exact hP, hD⟩, hS.F ht9⟩) hS.2.2 dX12_note_48
    · refine lv_iload_n hx hb dX12_note_22 rfl (lv_at hl 0 rfl) ?_
      refine lv_aload_n hx hb dX12_note_23 rfl (lv_at hl 1 rfl) ?_
      refine r_get (v := .int ra) hx hb hown hq hE hP 69 496 tFX12_69 (by decide) pw_1742 rfl dX12_note_24 ?_
      refine lv_icmp_ne (tgt := 48) hx hb dX12_note_27 (by decide) (fun c11 => ?_) (fun c11 => ?_)
      · have hz12 : 0 < rw := (by omega)
        have hz13 : rw ≤ 15 := (by omega)
        have hP : va_P G.1 pCl (mW G h0 a (upd (upd F 69 ra) 70 (nI rw)) B) _ := hP
        have hD : va_D A (mW G h0 a (upd (upd F 69 ra) 70 (nI rw)) B) := mW_D hD
        exact W.vret hx hb hr (fun t9 ht9 hW9 => ⟨⟨_, (rw, ra), rfl, ⟨rfl, hz12, hz13⟩, by rw [ht9]; exact hP, hD⟩, hS.F ht9⟩) hS.2.2 dX12_note_48
      · refine lv_iload_n hx hb dX12_note_30 rfl (lv_at hl 2 rfl) ?_
        refine lv_aload_n hx hb dX12_note_31 rfl (lv_at hl 1 rfl) ?_
        refine r_get (v := .int (nI rw)) hx hb hown hq hE hP 70 493 tFX12_70 (by decide) pw_1741 rfl dX12_note_32 ?_
        refine lv_icmp_ge (tgt := 48) hx hb dX12_note_35 (by decide) (fun c14 => ?_) (fun c14 => ?_)
        · have n15 : rw ≤ x := (nI_leI (a := rw) (b := x) (by omega) (by omega)).mp c14
          have hz16 : 0 < rw := (by omega)
          have hz17 : rw ≤ 15 := (by omega)
          have hP : va_P G.1 pCl (mW G h0 a (upd (upd F 69 ra) 70 (nI rw)) B) _ := hP
          have hD : va_D A (mW G h0 a (upd (upd F 69 ra) 70 (nI rw)) B) := mW_D hD
          exact W.vret hx hb hr (fun t9 ht9 hW9 => ⟨⟨_, (rw, ra), rfl, ⟨rfl, hz16, hz17⟩, by rw [ht9]; exact hP, hD⟩, hS.F ht9⟩) hS.2.2 dX12_note_48
        · have n18 : ¬ (rw ≤ x) := fun h9 => c14 ((nI_leI (a := rw) (b := x) (by omega) (by omega)).mpr h9)
          refine lv_aload_n hx hb dX12_note_38 rfl (lv_at hl 1 rfl) ?_
          refine lv_iload_n hx hb dX12_note_39 rfl (lv_at hl 2 rfl) ?_
          refine r_put (v := (nI x)) (ty := .int) hx hb hown hq hE hP hD hS 70 493 tFX12_70 (by decide) pw_1741 (by decide) rfl rfl (ms_70 a _ _) dX12_note_40 (fun H locs hP hD hS => ?_)
          refine lv_aload_n hx hb dX12_note_43 rfl (lv_at hl 1 rfl) ?_
          refine lv_iload_n hx hb dX12_note_44 rfl (lv_at hl 0 rfl) ?_
          refine r_put (v := x1) (ty := .int) hx hb hown hq hE hP hD hS 69 496 tFX12_69 (by decide) pw_1742 (by decide) rfl rfl (ms_69 a _ _) dX12_note_45 (fun H locs hP hD hS => ?_)
          have hz19 : 0 < x := (by omega)
          have hz20 : x ≤ 15 := (by omega)
          have hP : va_P G.1 pCl (mW G h0 a (upd (upd F 69 x1) 70 (nI x)) B) _ := mW_to (F := F) (l1 := [(69, ra), (70, (nI rw)), (70, (nI x)), (69, x1)]) (l2 := [(69, x1), (70, (nI x))]) (V := [x1, (nI x), (nI x), x1, x1, (nI x)]) rfl rfl rfl hP
          have hD : va_D A (mW G h0 a (upd (upd F 69 x1) 70 (nI x)) B) := mW_D hD
          exact W.vret hx hb hr (fun t9 ht9 hW9 => ⟨⟨_, (x, x1), rfl, ⟨rfl, hz19, hz20⟩, by rw [ht9]; exact hP, hD⟩, hS.F ht9⟩) hS.2.2 dX12_note_48
theorem dX12_ends_0 : decode cX12_ends 0 = .ok (.aload_n 0, 1) := by decide +kernel
theorem dX12_ends_1 : decode cX12_ends 1 = .ok (.getfield 493, 3) := by decide +kernel
theorem dX12_ends_4 : decode cX12_ends 4 = .ok (.ifCond .le 19, 3) := by decide +kernel
theorem dX12_ends_23 : decode cX12_ends 23 = .ok (.aload_n 0, 1) := by decide +kernel
theorem dX12_ends_24 : decode cX12_ends 24 = .ok (.getfield 350, 3) := by decide +kernel
theorem dX12_ends_27 : decode cX12_ends 27 = .ok (.ifCond .le 7, 3) := by decide +kernel
theorem dX12_ends_34 : decode cX12_ends 34 = .ok (.iconst 0, 1) := by decide +kernel
theorem dX12_ends_35 : decode cX12_ends 35 = .ok (.ireturn, 1) := by decide +kernel
theorem dX12_ends_7 : decode cX12_ends 7 = .ok (.aload_n 0, 1) := by decide +kernel
theorem dX12_ends_8 : decode cX12_ends 8 = .ok (.aload_n 0, 1) := by decide +kernel
theorem dX12_ends_9 : decode cX12_ends 9 = .ok (.getfield 493, 3) := by decide +kernel
theorem dX12_ends_12 : decode cX12_ends 12 = .ok (.putfield 350, 3) := by decide +kernel
theorem dX12_ends_15 : decode cX12_ends 15 = .ok (.aload_n 0, 1) := by decide +kernel
theorem dX12_ends_16 : decode cX12_ends 16 = .ok (.aload_n 0, 1) := by decide +kernel
theorem dX12_ends_17 : decode cX12_ends 17 = .ok (.getfield 496, 3) := by decide +kernel
theorem dX12_ends_20 : decode cX12_ends 20 = .ok (.putfield 353, 3) := by decide +kernel
theorem dX12_ends_30 : decode cX12_ends 30 = .ok (.iconst 1, 1) := by decide +kernel
theorem dX12_ends_31 : decode cX12_ends 31 = .ok (.goto 4, 3) := by decide +kernel
set_option maxHeartbeats 2000000 in
set_option maxRecDepth 100000 in
/-- ends(), no fault ahead -/
theorem R_ends (l : Launch) (G : pT) (h0 : Nat) (a : Nat → Nat) (F : Nat → Int32) (B : Nat → Nat → Int32) (rw : Nat) (ra : Int32) (hrw : rw ≤ 15) : PM l G pX0 yX12_ends cX12_ends 1 (some .boolean) ({ frames := 2, cells := 0, slots := 0, locals := 60 }) [.ref h0] (mW G h0 a (upd (upd (upd F 15 0) 69 ra) 70 (nI rw)) B) (fun (v : Option Value) (u : Nat × Nat × Int32) => v = some (.int (nI u.1)) ∧ (u.1 ≤ 1) ∧ (u.1 ≤ rw) ∧ (rw ≤ 15 * u.1) ∧ (u.2.1 = rw)) (fun u => (mW G h0 a (upd (upd (upd (upd F 15 (nI u.2.1)) 16 u.2.2) 69 ra) 70 (nI rw)) B)) := by
  intro sz
  refine Met.ofW (cc := cX12_ends) (maxL := 1) (ret := (some .boolean)) (by decide) rfl ?_
  intro p e s m args below meth c s₁ B9 hml hv
  obtain ⟨rfl, hsz, hP, hD0, hE, hX⟩ := hv
  have hx := B9.exec
  have hb := B9.bytes
  have hr := B9.returns
  have hts := atoms_spec (ws := Cond.code yX12_ends cX12_ends 1 (some .boolean) :: pw) B9.pre
  have hq : ∀ w ∈ pw, w.before _ s = true := fun w h => hts w (List.mem_cons_of_mem _ h)
  have hown : s.vm.findClass RX12 = some m.cls := findClass_of_methodNamed B9.named
  have hlocks := B9.notSynchronized
  subst hsz
  have hD := hD0.self (sz := s.heap.size)
  have hA : ∀ q : Nat, s.heap.size ≤ q → va_A (mW G h0 a (upd (upd (upd F 15 0) 69 ra) 70 (nI rw)) B) s.heap.size q := fun q h => Or.inr h
  have hP : va_P G.1 pCl (mW G h0 a (upd (upd (upd F 15 0) 69 ra) 70 (nI rw)) B) s.heap := hP
  generalize va_A (mW G h0 a (upd (upd (upd F 15 0) 69 ra) 70 (nI rw)) B) s.heap.size = A at hD hE hA ⊢
  have hS : va_S A s.heap s.heap [] := va_S.rf
  have hl := lv_entry ([.ref h0]) (n := 1) (Nat.le_of_ble_eq_true rfl)
  rw [lg_entry_eq]
  generalize (lg_sl ([.ref h0]) ++ List.replicate (1 - (lg_sl ([.ref h0])).length) Slot.unset).toArray = ls at hl ⊢
  have hl : lv_has ls 1 [(0, .ref h0)] := hl
  refine lv_aload_n hx hb dX12_ends_0 rfl (lv_at hl 0 rfl) ?_
  refine r_get (v := .int (nI rw)) hx hb hown hq hE hP 70 493 tFX12_70 (by decide) pw_1741 rfl dX12_ends_1 ?_
  refine lv_if_le (tgt := 23) hx hb dX12_ends_4 (by decide) (fun c1 => ?_) (fun c1 => ?_)
  · have n2 : rw ≤ 0 := (nI_leI (a := rw) (b := 0) (by omega) (by omega)).mp c1
    refine lv_aload_n hx hb dX12_ends_23 rfl (lv_at hl 0 rfl) ?_
    refine r_get (v := .int 0) hx hb hown hq hE hP 15 350 tFX12_15 (by decide) pw_1594 rfl dX12_ends_24 ?_
    refine lv_if_le (tgt := 34) hx hb dX12_ends_27 (by decide) (fun c3 => ?_) (fun c3 => absurd c3 (by decide))
    refine lv_iconst (v := 0) hx hb dX12_ends_34 (by decide) ?_
    have hz4 : 0 ≤ 1 := (by omega)
    have hz5 : 0 ≤ rw := (by omega)
    have hz6 : rw ≤ 15 * 0 := (by omega)
    have hz7 : 0 = rw := (by omega)
    have hP : va_P G.1 pCl (mW G h0 a (upd (upd (upd (upd F 15 (nI 0)) 16 (F 16)) 69 ra) 70 (nI rw)) B) _ := mW_to (F := F) (l1 := [(15, 0), (69, ra), (70, (nI rw))]) (l2 := [(15, (nI 0)), (16, (F 16)), (69, ra), (70, (nI rw))]) (V := [(nI 0), ra, (nI rw), (nI 0), (F 16), ra, (nI rw)]) rfl rfl rfl hP
    have hD : va_D A (mW G h0 a (upd (upd (upd (upd F 15 (nI 0)) 16 (F 16)) 69 ra) 70 (nI rw)) B) := mW_D hD
    exact W.zret (v := 0) hx hb hr rfl (fun t9 ht9 hW9 => ⟨⟨_, (0, 0, (F 16)), rfl, ⟨rfl, hz4, hz5, hz6, hz7⟩, by rw [ht9]; exact hP, hD⟩, hS.F ht9⟩) hS.2.2 dX12_ends_35
  · have n8 : ¬ (rw ≤ 0) := fun h9 => c1 ((nI_leI (a := rw) (b := 0) (by omega) (by omega)).mpr h9)
    refine lv_aload_n hx hb dX12_ends_7 rfl (lv_at hl 0 rfl) ?_
    refine lv_aload_n hx hb dX12_ends_8 rfl (lv_at hl 0 rfl) ?_
    refine r_get (v := .int (nI rw)) hx hb hown hq hE hP 70 493 tFX12_70 (by decide) pw_1741 rfl dX12_ends_9 ?_
    refine r_put (v := (nI rw)) (ty := .int) hx hb hown hq hE hP hD hS 15 350 tFX12_15 (by decide) pw_1594 (by decide) rfl rfl (ms_15 a _ _) dX12_ends_12 (fun H locs hP hD hS => ?_)
    refine lv_aload_n hx hb dX12_ends_15 rfl (lv_at hl 0 rfl) ?_
    refine lv_aload_n hx hb dX12_ends_16 rfl (lv_at hl 0 rfl) ?_
    refine r_get (v := .int ra) hx hb hown hq hE hP 69 496 tFX12_69 (by decide) pw_1742 rfl dX12_ends_17 ?_
    refine r_put (v := ra) (ty := .int) hx hb hown hq hE hP hD hS 16 353 tFX12_16 (by decide) pw_1595 (by decide) rfl rfl (ms_16 a _ _) dX12_ends_20 (fun H locs hP hD hS => ?_)
    refine lv_aload_n hx hb dX12_ends_23 rfl (lv_at hl 0 rfl) ?_
    refine r_get (v := .int (nI rw)) hx hb hown hq hE hP 15 350 tFX12_15 (by decide) pw_1594 rfl dX12_ends_24 ?_
    refine lv_if_le (tgt := 34) hx hb dX12_ends_27 (by decide) (fun c9 => ?_) (fun c9 => ?_)
    · have n10 : rw ≤ 0 := (nI_leI (a := rw) (b := 0) (by omega) (by omega)).mp c9
      refine lv_iconst (v := 0) hx hb dX12_ends_34 (by decide) ?_
      have hz11 : 0 ≤ 1 := (by omega)
      have hz12 : 0 ≤ rw := (by omega)
      have hz13 : rw ≤ 15 * 0 := (by omega)
      have hz14 : rw = rw := (by omega)
      have hP : va_P G.1 pCl (mW G h0 a (upd (upd (upd (upd F 15 (nI rw)) 16 ra) 69 ra) 70 (nI rw)) B) _ := mW_to (F := F) (l1 := [(15, 0), (69, ra), (70, (nI rw)), (15, (nI rw)), (16, ra)]) (l2 := [(15, (nI rw)), (16, ra), (69, ra), (70, (nI rw))]) (V := [(nI rw), ra, (nI rw), (nI rw), ra, (nI rw), ra, ra, (nI rw)]) rfl rfl rfl hP
      have hD : va_D A (mW G h0 a (upd (upd (upd (upd F 15 (nI rw)) 16 ra) 69 ra) 70 (nI rw)) B) := mW_D hD
      exact W.zret (v := 0) hx hb hr rfl (fun t9 ht9 hW9 => ⟨⟨_, (0, rw, ra), rfl, ⟨rfl, hz11, hz12, hz13, hz14⟩, by rw [ht9]; exact hP, hD⟩, hS.F ht9⟩) hS.2.2 dX12_ends_35
    · have n15 : ¬ (rw ≤ 0) := fun h9 => c9 ((nI_leI (a := rw) (b := 0) (by omega) (by omega)).mpr h9)
      refine lv_iconst (v := 1) hx hb dX12_ends_30 (by decide) ?_
      refine lv_goto (tgt := 35) hx hb dX12_ends_31 (by decide) ?_
      have hz16 : 1 ≤ 1 := (by omega)
      have hz17 : 1 ≤ rw := (by omega)
      have hz18 : rw ≤ 15 * 1 := (by omega)
      have hz19 : rw = rw := (by omega)
      have hP : va_P G.1 pCl (mW G h0 a (upd (upd (upd (upd F 15 (nI rw)) 16 ra) 69 ra) 70 (nI rw)) B) _ := mW_to (F := F) (l1 := [(15, 0), (69, ra), (70, (nI rw)), (15, (nI rw)), (16, ra)]) (l2 := [(15, (nI rw)), (16, ra), (69, ra), (70, (nI rw))]) (V := [(nI rw), ra, (nI rw), (nI rw), ra, (nI rw), ra, ra, (nI rw)]) rfl rfl rfl hP
      have hD : va_D A (mW G h0 a (upd (upd (upd (upd F 15 (nI rw)) 16 ra) 69 ra) 70 (nI rw)) B) := mW_D hD
      exact W.zret (v := 1) hx hb hr rfl (fun t9 ht9 hW9 => ⟨⟨_, (1, rw, ra), rfl, ⟨rfl, hz16, hz17, hz18, hz19⟩, by rw [ht9]; exact hP, hD⟩, hS.F ht9⟩) hS.2.2 dX12_ends_35
theorem dX12_declOf_0 : decode cX12_declOf 0 = .ok (.iconst 0, 1) := by decide +kernel
theorem dX12_declOf_1 : decode cX12_declOf 1 = .ok (.istore_n 2, 1) := by decide +kernel
theorem dX12_declOf_2 : decode cX12_declOf 2 = .ok (.iload_n 2, 1) := by decide +kernel
theorem dX12_declOf_3 : decode cX12_declOf 3 = .ok (.aload_n 0, 1) := by decide +kernel
theorem dX12_declOf_4 : decode cX12_declOf 4 = .ok (.getfield 384, 3) := by decide +kernel
theorem dX12_declOf_7 : decode cX12_declOf 7 = .ok (.if_icmp .ge 21, 3) := by decide +kernel
theorem dX12_declOf_28 : decode cX12_declOf 28 = .ok (.iconst (-1), 1) := by decide +kernel
theorem dX12_declOf_29 : decode cX12_declOf 29 = .ok (.ireturn, 1) := by decide +kernel
theorem dX12_declOf_10 : decode cX12_declOf 10 = .ok (.aload_n 0, 1) := by decide +kernel
theorem dX12_declOf_11 : decode cX12_declOf 11 = .ok (.getfield 84, 3) := by decide +kernel
theorem dX12_declOf_14 : decode cX12_declOf 14 = .ok (.iload_n 2, 1) := by decide +kernel
theorem dX12_declOf_15 : decode cX12_declOf 15 = .ok (.iaload, 1) := by decide +kernel
theorem dX12_declOf_16 : decode cX12_declOf 16 = .ok (.iload_n 1, 1) := by decide +kernel
theorem dX12_declOf_17 : decode cX12_declOf 17 = .ok (.if_icmp .ne 5, 3) := by decide +kernel
theorem dX12_declOf_22 : decode cX12_declOf 22 = .ok (.iinc 2 1, 3) := by decide +kernel
theorem dX12_declOf_25 : decode cX12_declOf 25 = .ok (.goto (-23), 3) := by decide +kernel
theorem dX12_declOf_20 : decode cX12_declOf 20 = .ok (.iload_n 2, 1) := by decide +kernel
theorem dX12_declOf_21 : decode cX12_declOf 21 = .ok (.ireturn, 1) := by decide +kernel
set_option maxHeartbeats 2000000 in
set_option maxRecDepth 100000 in
/-- declOf(name) -/
theorem R_declOf (l : Launch) (G : pT) (h0 : Nat) (a : Nat → Nat) (F : Nat → Int32) (B : Nat → Nat → Int32) (x : Int32) (dc : Nat) (f : Nat → Int32) (hdc : dc ≤ 40) : PM l G pX0 yX12_declOf cX12_declOf 3 (some .int) ({ frames := 2, cells := 0, slots := 0, locals := 60 }) [.ref h0, .int x] (mW G h0 a (upd F 35 (nI dc)) (updA B 24 f)) (fun (v : Option Value) (u : Unit) => v = some (.int (dOf f x dc 0))) (fun u => (mW G h0 a (upd F 35 (nI dc)) (updA B 24 f))) := by
  intro sz
  refine Met.ofW (cc := cX12_declOf) (maxL := 3) (ret := (some .int)) (by decide) rfl ?_
  intro p e s m args below meth c s₁ B9 hml hv
  obtain ⟨rfl, hsz, hP, hD0, hE, hX⟩ := hv
  have hx := B9.exec
  have hb := B9.bytes
  have hr := B9.returns
  have hts := atoms_spec (ws := Cond.code yX12_declOf cX12_declOf 3 (some .int) :: pw) B9.pre
  have hq : ∀ w ∈ pw, w.before _ s = true := fun w h => hts w (List.mem_cons_of_mem _ h)
  have hown : s.vm.findClass RX12 = some m.cls := findClass_of_methodNamed B9.named
  have hlocks := B9.notSynchronized
  subst hsz
  have hD := hD0.self (sz := s.heap.size)
  have hA : ∀ q : Nat, s.heap.size ≤ q → va_A (mW G h0 a (upd F 35 (nI dc)) (updA B 24 f)) s.heap.size q := fun q h => Or.inr h
  have hP : va_P G.1 pCl (mW G h0 a (upd F 35 (nI dc)) (updA B 24 f)) s.heap := hP
  generalize va_A (mW G h0 a (upd F 35 (nI dc)) (updA B 24 f)) s.heap.size = A at hD hE hA ⊢
  have hS : va_S A s.heap s.heap [] := va_S.rf
  have hl := lv_entry ([.ref h0, .int x]) (n := 3) (Nat.le_of_ble_eq_true rfl)
  rw [lg_entry_eq]
  generalize (lg_sl ([.ref h0, .int x]) ++ List.replicate (3 - (lg_sl ([.ref h0, .int x])).length) Slot.unset).toArray = ls at hl ⊢
  have hl : lv_has ls 3 [(0, .ref h0), (1, .int x)] := hl
  refine lv_iconst (v := 0) hx hb dX12_declOf_0 (by decide) ?_
  refine lv_istore_n (lv' := [(2, .int 0), (0, .ref h0), (1, .int x)]) hx hb dX12_declOf_1 rfl hl (by decide) rfl (fun ls hl => ?_)
  have loop_o : ∀ (n_o : Nat) (k2 : Nat) (H : Heap) (locs : List Loc) (ls : Array Slot), k2 ≤ dc → dc + 1 ≤ k2 + n_o → (dOf f x dc 0 = dOf f x (dc - k2) k2) → va_P G.1 pCl (mW G h0 a (upd F 35 (nI dc)) (updA B 24 f)) H → va_D A (mW G h0 a (upd F 35 (nI dc)) (updA B 24 f)) → va_S A s.heap H locs → lv_has ls 3 [(2, .int (nI k2)), (1, .int x), (0, .ref h0)] → W p l e (headSpec (Cond.code yX12_declOf cX12_declOf 3 (some .int) :: pw) ({ frames := 2, cells := 0, slots := 0, locals := 60 } : Room)).room s m ([.ref h0, .int x] : List Value).toArray below meth c H locs 0 0 (MQ below (pQ G A (fun (v : Option Value) (u : Unit) => v = some (.int (dOf f x dc 0))) (fun u => (mW G h0 a (upd F 35 (nI dc)) (updA B 24 f)))) ([.ref h0, .int x] : List Value).toArray s ({ frames := 2, cells := 0, slots := 0, locals := 60 } : Room).cells ({ frames := 2, cells := 0, slots := 0, locals := 60 } : Room).slots A) (F0 m 2 ls []) := by
    intro n_o
    induction n_o with
    | zero => intro k2 H locs ls hk_o hn_o; omega
    | succ n_o ih_o =>
      intro k2 H locs ls hk_o hn_o he hP hD hS hl
      refine lv_iload_n hx hb dX12_declOf_2 rfl (lv_at hl 0 rfl) ?_
      refine lv_aload_n hx hb dX12_declOf_3 rfl (lv_at hl 2 rfl) ?_
      refine r_get (v := .int (nI dc)) hx hb hown hq hE hP 35 384 tFX12_35 (by decide) pw_1732 rfl dX12_declOf_4 ?_
      refine lv_icmp_ge (tgt := 28) hx hb dX12_declOf_7 (by decide) (fun c1 => ?_) (fun c1 => ?_)
      · have n2 : dc ≤ k2 := (nI_leI (a := dc) (b := k2) (by omega) (by omega)).mp c1
        refine lv_iconst (v := (-1)) hx hb dX12_declOf_28 (by decide) ?_
        have hP : va_P G.1 pCl (mW G h0 a (upd F 35 (nI dc)) (updA B 24 f)) _ := hP
        have hD : va_D A (mW G h0 a (upd F 35 (nI dc)) (updA B 24 f)) := mW_D hD
        exact W.iret (v := (-1)) hx hb hr (fun t9 ht9 hW9 => ⟨⟨_, (), rfl, (congrArg (fun z => some (Value.int z)) (dOf_end (by omega) he).symm), by rw [ht9]; exact hP, hD⟩, hS.F ht9⟩) hS.2.2 dX12_declOf_29
      · have n3 : ¬ (dc ≤ k2) := fun h9 => c1 ((nI_leI (a := dc) (b := k2) (by omega) (by omega)).mpr h9)
        refine lv_aload_n hx hb dX12_declOf_10 rfl (lv_at hl 2 rfl) ?_
        refine r_get (v := .ref (a 24)) hx hb hown hq hE hP 36 84 tFX12_36 (by decide) pw_1455 rfl dX12_declOf_11 ?_
        refine lv_iload_n hx hb dX12_declOf_14 rfl (lv_at hl 0 rfl) ?_
        refine r_ldi (f := f) (j := k2) hx hb hE hP 24 (ma_24 G a _) rfl (by omega) (by decide) dX12_declOf_15 ?_
        refine lv_iload_n hx hb dX12_declOf_16 rfl (lv_at hl 1 rfl) ?_
        refine lv_icmp_ne (tgt := 22) hx hb dX12_declOf_17 (by decide) (fun c4 => ?_) (fun c4 => ?_)
        · refine lv_iinc (v := (nI (k2 + 1))) (lv' := [(2, .int (nI (k2 + 1))), (1, .int x), (0, .ref h0)]) hx hb dX12_declOf_22 hl (k := 0) rfl (nI_1 k2) (by decide) rfl (fun ls hl => ?_)
          refine lv_goto (tgt := 2) hx hb dX12_declOf_25 (by decide) ?_
          have hP : va_P G.1 pCl (mW G h0 a (upd F 35 (nI dc)) (updA B 24 f)) _ := hP
          have hD : va_D A (mW G h0 a (upd F 35 (nI dc)) (updA B 24 f)) := mW_D hD
          exact ih_o (k2 + 1) _ _ _ (by omega) (by omega) (dOf_go (by omega) c4 he) hP hD hS (lv_sub hl [0, 1, 2] rfl)
        · refine lv_iload_n hx hb dX12_declOf_20 rfl (lv_at hl 0 rfl) ?_
          have hP : va_P G.1 pCl (mW G h0 a (upd F 35 (nI dc)) (updA B 24 f)) _ := hP
          have hD : va_D A (mW G h0 a (upd F 35 (nI dc)) (updA B 24 f)) := mW_D hD
          exact W.iret (v := (nI k2)) hx hb hr (fun t9 ht9 hW9 => ⟨⟨_, (), rfl, (congrArg (fun z => some (Value.int z)) (dOf_hit (by omega) c4 he).symm), by rw [ht9]; exact hP, hD⟩, hS.F ht9⟩) hS.2.2 dX12_declOf_21
  have hP : va_P G.1 pCl (mW G h0 a (upd F 35 (nI dc)) (updA B 24 f)) _ := hP
  have hD : va_D A (mW G h0 a (upd F 35 (nI dc)) (updA B 24 f)) := mW_D hD
  exact loop_o (dc + 1) 0 _ _ _ (by omega) (by omega) (Eq.refl _) hP hD hS (lv_sub hl [0, 2, 1] rfl)
theorem dX12_known_0 : decode cX12_known 0 = .ok (.aload_n 0, 1) := by decide +kernel
theorem dX12_known_1 : decode cX12_known 1 = .ok (.aload_n 0, 1) := by decide +kernel
theorem dX12_known_2 : decode cX12_known 2 = .ok (.getfield 25, 3) := by decide +kernel
theorem dX12_known_5 : decode cX12_known 5 = .ok (.iload_n 1, 1) := by decide +kernel
theorem dX12_known_6 : decode cX12_known 6 = .ok (.iaload, 1) := by decide +kernel
theorem dX12_known_7 : decode cX12_known 7 = .ok (.invokevirtual 499, 3) := by decide +kernel
theorem dX12_known_10 : decode cX12_known 10 = .ok (.istore_n 2, 1) := by decide +kernel
theorem dX12_known_11 : decode cX12_known 11 = .ok (.iload_n 2, 1) := by decide +kernel
theorem dX12_known_12 : decode cX12_known 12 = .ok (.iconst (-1), 1) := by decide +kernel
theorem dX12_known_13 : decode cX12_known 13 = .ok (.if_icmp .ne 9, 3) := by decide +kernel
theorem dX12_known_22 : decode cX12_known 22 = .ok (.iload_n 2, 1) := by decide +kernel
theorem dX12_known_23 : decode cX12_known 23 = .ok (.ireturn, 1) := by decide +kernel
theorem dX12_known_16 : decode cX12_known 16 = .ok (.aload_n 0, 1) := by decide +kernel
theorem dX12_known_17 : decode cX12_known 17 = .ok (.iconst 4, 1) := by decide +kernel
theorem dX12_known_18 : decode cX12_known 18 = .ok (.iload_n 1, 1) := by decide +kernel
theorem dX12_known_19 : decode cX12_known 19 = .ok (.invokevirtual 502, 3) := by decide +kernel
theorem hV_X12_declOf : yX12_declOf.cls = RX12 ∧ yX12_declOf.cls ≠ "java/lang/invoke/MethodHandle" ∧ yX12_declOf.cls ≠ "java/lang/invoke/VarHandle" ∧ (parseMethodDescriptor yX12_declOf.desc).map (fun d => d.parameters.length) = some 1 := by decide +kernel
theorem hV_X12_note : yX12_note.cls = RX12 ∧ yX12_note.cls ≠ "java/lang/invoke/MethodHandle" ∧ yX12_note.cls ≠ "java/lang/invoke/VarHandle" ∧ (parseMethodDescriptor yX12_note.desc).map (fun d => d.parameters.length) = some 2 := by decide +kernel
set_option maxHeartbeats 2000000 in
set_option maxRecDepth 100000 in
/-- known(token) -/
theorem R_known (l : Launch) (G : pT) (h0 : Nat) (a : Nat → Nat) (F : Nat → Int32) (B : Nat → Nat → Int32) (i : Nat) (dc : Nat) (rw : Nat) (ra : Int32) (f : Nat → Int32) (V : Nat → Int32) (hi : i ≤ 5000) (hdc : dc ≤ 40) (hrw : rw ≤ 15) : PM l G pX0 yX12_known cX12_known 3 (some .int) ({ frames := 3, cells := 0, slots := 0, locals := 83 }) [.ref h0, .int (nI i)] (mW G h0 a (upd (upd (upd F 35 (nI dc)) 69 ra) 70 (nI rw)) (updA (updA B 5 V) 24 f)) (fun (v : Option Value) (u : Nat × Int32) => v = some (.int (dOf f (V i) dc 0)) ∧ (rw ≤ 15 * u.1) ∧ (u.1 ≤ 15) ∧ (If (u.1 = 0) (¬ dOf f (V i) dc 0 = -1))) (fun u => (mW G h0 a (upd (upd (upd F 35 (nI dc)) 69 u.2) 70 (nI u.1)) (updA (updA B 5 V) 24 f))) := by
  intro sz
  refine Met.ofW (cc := cX12_known) (maxL := 3) (ret := (some .int)) (by decide) rfl ?_
  intro p e s m args below meth c s₁ B9 hml hv
  obtain ⟨rfl, hsz, hP, hD0, hE, hX⟩ := hv
  have hx := B9.exec
  have hb := B9.bytes
  have hr := B9.returns
  have hts := atoms_spec (ws := Cond.code yX12_known cX12_known 3 (some .int) :: pw) B9.pre
  have hq : ∀ w ∈ pw, w.before _ s = true := fun w h => hts w (List.mem_cons_of_mem _ h)
  have hown : s.vm.findClass RX12 = some m.cls := findClass_of_methodNamed B9.named
  have hlocks := B9.notSynchronized
  subst hsz
  have hD := hD0.self (sz := s.heap.size)
  have hA : ∀ q : Nat, s.heap.size ≤ q → va_A (mW G h0 a (upd (upd (upd F 35 (nI dc)) 69 ra) 70 (nI rw)) (updA (updA B 5 V) 24 f)) s.heap.size q := fun q h => Or.inr h
  have hP : va_P G.1 pCl (mW G h0 a (upd (upd (upd F 35 (nI dc)) 69 ra) 70 (nI rw)) (updA (updA B 5 V) 24 f)) s.heap := hP
  generalize va_A (mW G h0 a (upd (upd (upd F 35 (nI dc)) 69 ra) 70 (nI rw)) (updA (updA B 5 V) 24 f)) s.heap.size = A at hD hE hA ⊢
  have hS : va_S A s.heap s.heap [] := va_S.rf
  have hl := lv_entry ([.ref h0, .int (nI i)]) (n := 3) (Nat.le_of_ble_eq_true rfl)
  rw [lg_entry_eq]
  generalize (lg_sl ([.ref h0, .int (nI i)]) ++ List.replicate (3 - (lg_sl ([.ref h0, .int (nI i)])).length) Slot.unset).toArray = ls at hl ⊢
  have hl : lv_has ls 3 [(0, .ref h0), (1, .int (nI i))] := hl
  refine lv_aload_n hx hb dX12_known_0 rfl (lv_at hl 0 rfl) ?_
  refine lv_aload_n hx hb dX12_known_1 rfl (lv_at hl 0 rfl) ?_
  refine r_get (v := .ref (a 5)) hx hb hown hq hE hP 8 25 tFX12_8 (by decide) pw_1435 rfl dX12_known_2 ?_
  refine lv_iload_n hx hb dX12_known_5 rfl (lv_at hl 1 rfl) ?_
  refine r_ldi (f := V) (j := i) hx hb hE hP 5 (ma_5 G a _) rfl (by omega) (by decide) dX12_known_6 ?_
  have hP : va_P G.1 pCl (mW G h0 a (upd (upd (upd (upd F 35 (nI dc)) 69 ra) 70 (nI rw)) 35 (nI dc)) (updA (updA (updA B 5 V) 24 f) 24 f)) _ := mW_to (F := F) (l1 := [(35, (nI dc)), (69, ra), (70, (nI rw))]) (l2 := [(35, (nI dc)), (69, ra), (70, (nI rw)), (35, (nI dc))]) (V := [(nI dc), ra, (nI rw), (nI dc), ra, (nI rw), (nI dc)]) rfl rfl (show (updA (updA B 5 V) 24 f) = (updA (updA (updA B 5 V) 24 f) 24 f) from updsA_eq2 (F := B) (l1 := [(5, V), (24, f)]) (l2 := [(5, V), (24, f), (24, f)]) (V := [V, f, V, f, f]) rfl rfl) hP
  have hD : va_D A (mW G h0 a (upd (upd (upd (upd F 35 (nI dc)) 69 ra) 70 (nI rw)) 35 (nI dc)) (updA (updA (updA B 5 V) 24 f) 24 f)) := mW_D hD
  refine pc_V0 (G := G) (As := [.int (V i)]) (rest := []) hx hb hml hown hq hE hX pX0_al hP hD hS hA hl.1 (R_declOf l G h0 a (upd (upd (upd F 35 (nI dc)) 69 ra) 70 (nI rw)) (updA (updA B 5 V) 24 f) (V i) dc f (by omega)) (gV pw_1746 pw_1747 pw_1748 pw_1523 pw_1744) hV_X12_declOf 0 9 rfl rfl rfl rfl (Nat.le_of_ble_eq_true rfl) dX12_known_7 ⟨Nat.le_of_ble_eq_true rfl, Nat.le_of_ble_eq_true rfl⟩ ⟨Nat.le_of_ble_eq_true rfl, Nat.le_of_ble_eq_true rfl⟩ (fun v3 u1 H locs hw2 hP hD hS => ?_)
  obtain rfl : v3 = some (.int (dOf f (V i) dc 0)) := hw2
  have hP : va_P G.1 pCl (mW G h0 a (upd (upd (upd F 35 (nI dc)) 69 ra) 70 (nI rw)) (updA (updA B 5 V) 24 f)) _ := mW_to (F := F) (l1 := [(35, (nI dc)), (69, ra), (70, (nI rw)), (35, (nI dc))]) (l2 := [(35, (nI dc)), (69, ra), (70, (nI rw))]) (V := [(nI dc), ra, (nI rw), (nI dc), (nI dc), ra, (nI rw)]) rfl rfl (show (updA (updA (updA B 5 V) 24 f) 24 f) = (updA (updA B 5 V) 24 f) from updsA_eq2 (F := B) (l1 := [(5, V), (24, f), (24, f)]) (l2 := [(5, V), (24, f)]) (V := [V, f, f, V, f]) rfl rfl) hP
  have hD : va_D A (mW G h0 a (upd (upd (upd F 35 (nI dc)) 69 ra) 70 (nI rw)) (updA (updA B 5 V) 24 f)) := mW_D hD
  refine W.widen (k := 0) (n := 0) (Nat.le_of_ble_eq_true rfl) (Nat.le_of_ble_eq_true rfl) ?_
  refine W.eq (g2 := F0 m 10 ls [.int (dOf f (V i) dc 0)]) rfl ?_
  refine lv_istore_n (lv' := [(2, .int (dOf f (V i) dc 0)), (0, .ref h0), (1, .int (nI i))]) hx hb dX12_known_10 rfl hl (by decide) rfl (fun ls hl => ?_)
  refine lv_iload_n hx hb dX12_known_11 rfl (lv_at hl 0 rfl) ?_
  refine lv_iconst (v := (-1)) hx hb dX12_known_12 (by decide) ?_
  refine lv_icmp_ne (tgt := 22) hx hb dX12_known_13 (by decide) (fun c4 => ?_) (fun c4 => ?_)
  · refine lv_iload_n hx hb dX12_known_22 rfl (lv_at hl 0 rfl) ?_
    have hz5 : rw ≤ 15 * rw := (by omega)
    have hz6 : rw ≤ 15 := (by omega)
    have hz7 : If (rw = 0) (¬ dOf f (V i) dc 0 = -1) := (fun _ => c4)
    have hP : va_P G.1 pCl (mW G h0 a (upd (upd (upd F 35 (nI dc)) 69 ra) 70 (nI rw)) (updA (updA B 5 V) 24 f)) _ := hP
    have hD : va_D A (mW G h0 a (upd (upd (upd F 35 (nI dc)) 69 ra) 70 (nI rw)) (updA (updA B 5 V) 24 f)) := mW_D hD
    exact W.iret (v := (dOf f (V i) dc 0)) hx hb hr (fun t9 ht9 hW9 => ⟨⟨_, (rw, ra), rfl, ⟨rfl, hz5, hz6, hz7⟩, by rw [ht9]; exact hP, hD⟩, hS.F ht9⟩) hS.2.2 dX12_known_23
  · refine lv_aload_n hx hb dX12_known_16 rfl (lv_at hl 1 rfl) ?_
    refine lv_iconst (v := 4) hx hb dX12_known_17 (by decide) ?_
    refine lv_iload_n hx hb dX12_known_18 rfl (lv_at hl 2 rfl) ?_
    have hP : va_P G.1 pCl (mW G h0 a (upd (upd (upd (upd (upd F 35 (nI dc)) 69 ra) 70 (nI rw)) 69 ra) 70 (nI rw)) (updA (updA B 5 V) 24 f)) _ := mW_to (F := F) (l1 := [(35, (nI dc)), (69, ra), (70, (nI rw))]) (l2 := [(35, (nI dc)), (69, ra), (70, (nI rw)), (69, ra), (70, (nI rw))]) (V := [(nI dc), ra, (nI rw), (nI dc), ra, (nI rw), ra, (nI rw)]) rfl rfl rfl hP
    have hD : va_D A (mW G h0 a (upd (upd (upd (upd (upd F 35 (nI dc)) 69 ra) 70 (nI rw)) 69 ra) 70 (nI rw)) (updA (updA B 5 V) 24 f)) := mW_D hD
    refine pc_V0 (G := G) (As := [.int (nI 4), .int (nI i)]) (rest := []) hx hb hml hown hq hE hX pX0_al hP hD hS hA hl.1 (R_note l G h0 a (upd (upd (upd F 35 (nI dc)) 69 ra) 70 (nI rw)) (updA (updA B 5 V) 24 f) 4 i rw ra (by omega) (by omega) (by omega)) (gV pw_1749 pw_1750 pw_1751 pw_1523 pw_1740) hV_X12_note 0 9 rfl rfl rfl rfl (Nat.le_of_ble_eq_true rfl) dX12_known_19 ⟨Nat.le_of_ble_eq_true rfl, Nat.le_of_ble_eq_true rfl⟩ ⟨Nat.le_of_ble_eq_true rfl, Nat.le_of_ble_eq_true rfl⟩ (fun v10 u8 H locs hw9 hP hD hS => ?_)
    obtain ⟨rw11, ra12⟩ := u8
    obtain ⟨hw9, h13, h14⟩ := hw9
    replace h13 : 0 < rw11 := h13
    replace h14 : rw11 ≤ 15 := h14
    obtain rfl : v10 = none := hw9
    have hP : va_P G.1 pCl (mW G h0 a (upd (upd (upd F 35 (nI dc)) 69 ra12) 70 (nI rw11)) (updA (updA B 5 V) 24 f)) _ := mW_to (F := F) (l1 := [(35, (nI dc)), (69, ra), (70, (nI rw)), (69, ra12), (70, (nI rw11))]) (l2 := [(35, (nI dc)), (69, ra12), (70, (nI rw11))]) (V := [(nI dc), ra12, (nI rw11), ra12, (nI rw11), (nI dc), ra12, (nI rw11)]) rfl rfl rfl hP
    have hD : va_D A (mW G h0 a (upd (upd (upd F 35 (nI dc)) 69 ra12) 70 (nI rw11)) (updA (updA B 5 V) 24 f)) := mW_D hD
    refine W.widen (k := 0) (n := 0) (Nat.le_of_ble_eq_true rfl) (Nat.le_of_ble_eq_true rfl) ?_
    refine W.eq (g2 := F0 m 22 ls []) rfl ?_
    refine lv_iload_n hx hb dX12_known_22 rfl (lv_at hl 0 rfl) ?_
    have hz15 : rw ≤ 15 * rw11 := (by omega)
    have hz16 : rw11 ≤ 15 := (by omega)
    have hz17 : If (rw11 = 0) (¬ dOf f (V i) dc 0 = -1) := (fun e => absurd e (by omega))
    have hP : va_P G.1 pCl (mW G h0 a (upd (upd (upd F 35 (nI dc)) 69 ra12) 70 (nI rw11)) (updA (updA B 5 V) 24 f)) _ := hP
    have hD : va_D A (mW G h0 a (upd (upd (upd F 35 (nI dc)) 69 ra12) 70 (nI rw11)) (updA (updA B 5 V) 24 f)) := mW_D hD
    exact W.iret (v := (dOf f (V i) dc 0)) hx hb hr (fun t9 ht9 hW9 => ⟨⟨_, (rw11, ra12), rfl, ⟨rfl, hz15, hz16, hz17⟩, by rw [ht9]; exact hP, hD⟩, hS.F ht9⟩) hS.2.2 dX12_known_23
theorem dX12_isAbove_0 : decode cX12_isAbove 0 = .ok (.aload_n 0, 1) := by decide +kernel
theorem dX12_isAbove_1 : decode cX12_isAbove 1 = .ok (.getfield 105, 3) := by decide +kernel
theorem dX12_isAbove_4 : decode cX12_isAbove 4 = .ok (.bipush 40, 2) := by decide +kernel
theorem dX12_isAbove_6 : decode cX12_isAbove 6 = .ok (.iload_n 1, 1) := by decide +kernel
theorem dX12_isAbove_7 : decode cX12_isAbove 7 = .ok (.imul, 1) := by decide +kernel
theorem dX12_isAbove_8 : decode cX12_isAbove 8 = .ok (.iload_n 2, 1) := by decide +kernel
theorem dX12_isAbove_9 : decode cX12_isAbove 9 = .ok (.iadd, 1) := by decide +kernel
theorem dX12_isAbove_10 : decode cX12_isAbove 10 = .ok (.baload, 1) := by decide +kernel
theorem dX12_isAbove_11 : decode cX12_isAbove 11 = .ok (.ireturn, 1) := by decide +kernel
set_option maxHeartbeats 2000000 in
set_option maxRecDepth 100000 in
/-- isAbove(k, lower) -/
theorem R_isAbove (l : Launch) (G : pT) (h0 : Nat) (a : Nat → Nat) (F : Nat → Int32) (B : Nat → Nat → Int32) (x : Nat) (y : Nat) (f : Nat → Int32) (hx9 : x < 40 ∧ y < 40) (hfb : ∀ i : Nat, i < 1600 → f i = 0 ∨ f i = 1) : PM l G pX0 yX12_isAbove cX12_isAbove 3 (some .boolean) ({ frames := 2, cells := 0, slots := 0, locals := 60 }) [.ref h0, .int (nI x), .int (nI y)] (mW G h0 a F (updA B 31 f)) (fun (v : Option Value) (u : Unit) => v = some (.int (f (40 * x + y)))) (fun u => (mW G h0 a F (updA B 31 f))) := by
  intro sz
  refine Met.ofW (cc := cX12_isAbove) (maxL := 3) (ret := (some .boolean)) (by decide) rfl ?_
  intro p e s m args below meth c s₁ B9 hml hv
  obtain ⟨rfl, hsz, hP, hD0, hE, hX⟩ := hv
  have hx := B9.exec
  have hb := B9.bytes
  have hr := B9.returns
  have hts := atoms_spec (ws := Cond.code yX12_isAbove cX12_isAbove 3 (some .boolean) :: pw) B9.pre
  have hq : ∀ w ∈ pw, w.before _ s = true := fun w h => hts w (List.mem_cons_of_mem _ h)
  have hown : s.vm.findClass RX12 = some m.cls := findClass_of_methodNamed B9.named
  have hlocks := B9.notSynchronized
  subst hsz
  have hD := hD0.self (sz := s.heap.size)
  have hA : ∀ q : Nat, s.heap.size ≤ q → va_A (mW G h0 a F (updA B 31 f)) s.heap.size q := fun q h => Or.inr h
  have hP : va_P G.1 pCl (mW G h0 a F (updA B 31 f)) s.heap := hP
  generalize va_A (mW G h0 a F (updA B 31 f)) s.heap.size = A at hD hE hA ⊢
  have hS : va_S A s.heap s.heap [] := va_S.rf
  have hl := lv_entry ([.ref h0, .int (nI x), .int (nI y)]) (n := 3) (Nat.le_of_ble_eq_true rfl)
  rw [lg_entry_eq]
  generalize (lg_sl ([.ref h0, .int (nI x), .int (nI y)]) ++ List.replicate (3 - (lg_sl ([.ref h0, .int (nI x), .int (nI y)])).length) Slot.unset).toArray = ls at hl ⊢
  have hl : lv_has ls 3 [(0, .ref h0), (1, .int (nI x)), (2, .int (nI y))] := hl
  refine lv_aload_n hx hb dX12_isAbove_0 rfl (lv_at hl 0 rfl) ?_
  refine r_get (v := .ref (a 31)) hx hb hown hq hE hP 43 105 tFX12_43 (by decide) pw_1462 rfl dX12_isAbove_1 ?_
  refine lv_bipush (v := 40) hx hb dX12_isAbove_4 (by decide) ?_
  refine lv_iload_n hx hb dX12_isAbove_6 rfl (lv_at hl 1 rfl) ?_
  refine lv_imul hx hb dX12_isAbove_7 ?_
  refine lv_topi (fun x1 e2 => ?_)
  obtain rfl : x1 = nI (40 * x) := e2.trans (nI_mulN (40) (x))
  refine lv_iload_n hx hb dX12_isAbove_8 rfl (lv_at hl 2 rfl) ?_
  refine lv_iadd hx hb dX12_isAbove_9 ?_
  refine lv_topi (fun x3 e4 => ?_)
  obtain rfl : x3 = nI ((40 * x) + y) := e4.trans (nI_add ((40 * x)) (y))
  refine r_ldz (f := f) (j := ((40 * x) + y)) hx hb hE hP 31 (ma_31 G a _) rfl (by omega) (by decide) dX12_isAbove_10 ?_
  have hP : va_P G.1 pCl (mW G h0 a F (updA B 31 f)) _ := hP
  have hD : va_D A (mW G h0 a F (updA B 31 f)) := mW_D hD
  exact W.zret (v := (f ((40 * x) + y))) hx hb hr (bit_nar (hfb _ (by omega))) (fun t9 ht9 hW9 => ⟨⟨_, (), rfl, rfl, by rw [ht9]; exact hP, hD⟩, hS.F ht9⟩) hS.2.2 dX12_isAbove_11
