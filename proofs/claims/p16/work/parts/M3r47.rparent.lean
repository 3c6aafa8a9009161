/-! who is whose parent, told by the rows -/
def lnRow (ln : Nat → Int32) (n : Nat) : Prop := ∀ i : Nat, i < n → ln i = -1 ∨ ∃ k : Nat, ln i = nI k ∧ i < k ∧ k < n
theorem itr_ln {ln : Nat → Int32} {v : Int32} {n : Nat} (hl : lnRow ln n) (hv : v = -1 ∨ ∃ q : Nat, v = nI q ∧ q < n) (hz : n ≤ 20000) : ∀ k : Nat, itr ln v k = -1 ∨ ∃ p : Nat, itr ln v k = nI p ∧ k ≤ p ∧ p < n := by
  intro k
  induction k with
  | zero => exact hv.imp id (fun ⟨q, a, b⟩ => ⟨q, a, by omega, b⟩)
  | succ k ih =>
    rcases ih with e | ⟨p, e, h1, h2⟩
    · exact Or.inl (itr_m1 e _ (by omega))
    · rw [itr_s e (by omega)]
      exact (hl p h2).imp id (fun ⟨q, a, b, c⟩ => ⟨q, a, by omega, c⟩)
theorem FrM.ln {K : Nat → Int32} {T wr nd md : Nat} {X : Nat → Nat → Int32} (h : FrM K T wr X nd md) : lnRow (X 16) nd := fun i hi => by
  obtain ⟨gh, a, _⟩ := h
  exact (a i (Nat.zero_le _) hi).2.2.1.imp id (fun ⟨j, b, c, d, _⟩ => ⟨j, b, c, d⟩)
/-- the row behind: the members of the list hold x, the others what they held -/
def LieQ (ln up up1 : Nat → Int32) (v x : Int32) (k : Nat) : Prop := (∀ i j : Nat, i < k → j < 20000 → itr ln v i = nI j → up1 j = x) ∧ ∀ j : Nat, (∀ i : Nat, i < k → ¬ itr ln v i = nI j) → up1 j = up j
theorem LieQ.zero {ln up : Nat → Int32} {v x : Int32} : LieQ ln up up v x 0 := ⟨fun i j h => absurd h (by omega), fun _ _ => rfl⟩
theorem LieQ.succ {ln up up1 : Nat → Int32} {v x : Int32} {k p : Nat} (h : LieQ ln up up1 v x k) (e : itr ln v k = nI p) (hp : p < 20000) : LieQ ln up (upd up1 p x) v x (k + 1) := by
  refine ⟨fun i j hi hj q => ?_, fun j q => ?_⟩
  · unfold upd
    by_cases z : j = p
    · rw [if_pos z]
    · rw [if_neg z]
      by_cases w : i = k
      · rw [w, e] at q
        exact absurd ((nI_eq (by omega) (by omega)).mp q).symm z
      · exact h.1 i j (by omega) hj q
  · unfold upd
    by_cases z : j = p
    · rw [z] at q; exact absurd e (q k (by omega))
    · rw [if_neg z]; exact h.2 j (fun i hi => q i (by omega))
def LieA (ln up up1 : Nat → Int32) (v x : Int32) : Prop := (∀ i j : Nat, j < 20000 → itr ln v i = nI j → up1 j = x) ∧ ∀ j : Nat, (∀ i : Nat, ¬ itr ln v i = nI j) → up1 j = up j
theorem LieQ.all {ln up up1 : Nat → Int32} {v x : Int32} {k : Nat} (h : LieQ ln up up1 v x k) (e : itr ln v k = -1) : LieA ln up up1 v x := ⟨fun i j hj q => by
  by_cases z : i < k
  · exact h.1 i j z hj q
  · rw [itr_m1 e i (by omega)] at q; exact absurd q.symm (nI_m1 (by omega)), fun j q => h.2 j (fun i _ => q i)⟩
def lieF (up : Nat → Int32) (v x : Int32) : Nat → Int32 := if v = -1 then up else upd up v.toNatClampNeg x
theorem lieF_1 {up : Nat → Int32} {v x : Int32} (h : v = -1) : lieF up v x = up := if_pos h
theorem lieF_2 {up : Nat → Int32} {v x : Int32} {p : Nat} (h : v = nI p) (hp : p < 20000) : lieF up v x = upd up p x := by
  unfold lieF
  rw [h, if_neg (nI_m1 (by omega)), nI_cl (by omega)]
/-- fields of a class and of those above it -/
def owF (X : Nat → Nat → Int32) (k f : Nat) : Bool := X 32 f == nI k || X 31 (40 * (X 32 f).toNatClampNeg + k) == 1
def cfF (X : Nat → Nat → Int32) (k : Nat) : Nat → Nat
  | 0 => 0
  | n + 1 => cfF X k n + (if owF X k n = true then 1 else 0)
theorem cfF_le {X : Nat → Nat → Int32} {k : Nat} : ∀ n : Nat, cfF X k n ≤ n := by
  intro n
  induction n with
  | zero => exact Nat.le_refl _
  | succ n ih => show cfF X k n + _ ≤ _; split <;> omega
theorem cfF_y {X : Nat → Nat → Int32} {k n d : Nat} (ed : X 32 n = nI d) (hd : d < 2 ^ 31) (h : d = k ∨ X 31 (40 * d + k) = 1) : cfF X k (n + 1) = cfF X k n + 1 := by
  show cfF X k n + _ = _
  have o : owF X k n = true := by
    unfold owF
    rw [ed, nI_cl hd]
    rcases h with z | z
    · rw [z]; simp
    · rw [z]; simp
  rw [if_pos o]
theorem cfF_n {X : Nat → Nat → Int32} {k n d : Nat} (ed : X 32 n = nI d) (hd : d < 2 ^ 31) (hk : k < 2 ^ 31) (h1 : ¬ d = k) (h2 : X 31 (40 * d + k) = 0) : cfF X k (n + 1) = cfF X k n := by
  show cfF X k n + _ = _
  have o : owF X k n = false := by
    unfold owF
    rw [ed, nI_cl hd, h2]
    have : ¬ nI d = nI k := fun q => h1 ((nI_eq hd hk).mp q)
    simp [this]
  rw [if_neg (by rw [o]; decide)]; rfl
theorem dX12_lies_0 : decode cX12_lies 0 = .ok (.iload_n 1, 1) := by decide +kernel
theorem dX12_lies_1 : decode cX12_lies 1 = .ok (.iconst (-1), 1) := by decide +kernel
theorem dX12_lies_2 : decode cX12_lies 2 = .ok (.if_icmp .eq 10, 3) := by decide +kernel
theorem dX12_lies_12 : decode cX12_lies 12 = .ok (.return_, 1) := by decide +kernel
theorem dX12_lies_5 : decode cX12_lies 5 = .ok (.aload_n 0, 1) := by decide +kernel
theorem dX12_lies_6 : decode cX12_lies 6 = .ok (.getfield 168, 3) := by decide +kernel
theorem dX12_lies_9 : decode cX12_lies 9 = .ok (.iload_n 1, 1) := by decide +kernel
theorem dX12_lies_10 : decode cX12_lies 10 = .ok (.iload_n 2, 1) := by decide +kernel
theorem dX12_lies_11 : decode cX12_lies 11 = .ok (.iastore, 1) := by decide +kernel
set_option maxHeartbeats 2000000 in
set_option maxRecDepth 100000 in
/-- lies(child, in) -/
theorem R_lies (l : Launch) (G : pT) (h0 : Nat) (a : Nat → Nat) (F : Nat → Int32) (B : Nat → Nat → Int32) (vf : Int32) (x : Int32) (nd : Nat) (up : Nat → Int32) (hvo : OrY vf nd) (hnd : nd ≤ 12000) : PM l G pX0 yX12_lies cX12_lies 3 none ({ frames := 2, cells := 0, slots := 0, locals := 60 }) [.ref h0, .int vf, .int x] (mW G h0 a F (updA B 52 up)) (fun (v : Option Value) (u : (Nat → Int32)) => v = none ∧ (u = lieF up vf x)) (fun u => (mW G h0 a F (updA B 52 u))) := by
  intro sz
  refine Met.ofW (cc := cX12_lies) (maxL := 3) (ret := none) (by decide) rfl ?_
  intro p e s m args below meth c s₁ B9 hml hv
  obtain ⟨rfl, hsz, hP, hD0, hE, hX⟩ := hv
  have hx := B9.exec
  have hb := B9.bytes
  have hr := B9.returns
  have hts := atoms_spec (ws := Cond.code yX12_lies cX12_lies 3 none :: pw) B9.pre
  have hq : ∀ w ∈ pw, w.before _ s = true := fun w h => hts w (List.mem_cons_of_mem _ h)
  have hown : s.vm.findClass RX12 = some m.cls := findClass_of_methodNamed B9.named
  have hlocks := B9.notSynchronized
  subst hsz
  have hD := hD0.self (sz := s.heap.size)
  have hA : ∀ q : Nat, s.heap.size ≤ q → va_A (mW G h0 a F (updA B 52 up)) s.heap.size q := fun q h => Or.inr h
  have hP : va_P G.1 pCl (mW G h0 a F (updA B 52 up)) s.heap := hP
  generalize va_A (mW G h0 a F (updA B 52 up)) s.heap.size = A at hD hE hA ⊢
  have hS : va_S A s.heap s.heap [] := va_S.rf
  have hl := lv_entry ([.ref h0, .int vf, .int x]) (n := 3) (Nat.le_of_ble_eq_true rfl)
  rw [lg_entry_eq]
  generalize (lg_sl ([.ref h0, .int vf, .int x]) ++ List.replicate (3 - (lg_sl ([.ref h0, .int vf, .int x])).length) Slot.unset).toArray = ls at hl ⊢
  have hl : lv_has ls 3 [(0, .ref h0), (1, .int vf), (2, .int x)] := hl
  refine lv_iload_n hx hb dX12_lies_0 rfl (lv_at hl 1 rfl) ?_
  refine lv_iconst (v := (-1)) hx hb dX12_lies_1 (by decide) ?_
  refine lv_icmp_eq (tgt := 12) hx hb dX12_lies_2 (by decide) (fun c1 => ?_) (fun c1 => ?_)
  · have hz2 : up = lieF up vf x := (lieF_1 c1).symm
    have hP : va_P G.1 pCl (mW G h0 a F (updA B 52 up)) _ := hP
    have hD : va_D A (mW G h0 a F (updA B 52 up)) := mW_D hD
    exact W.vret hx hb hr (fun t9 ht9 hW9 => ⟨⟨_, up, rfl, ⟨rfl, hz2⟩, by rw [ht9]; exact hP, hD⟩, hS.F ht9⟩) hS.2.2 dX12_lies_12
  · obtain ⟨pp, epp, hpp⟩ := Or.resolve_left hvo c1
    rw [epp] at hl
    refine lv_aload_n hx hb dX12_lies_5 rfl (lv_at hl 0 rfl) ?_
    refine r_get (v := .ref (a 52)) hx hb hown hq hE hP 88 168 tFX12_88 (by decide) pw_1483 rfl dX12_lies_6 ?_
    refine lv_iload_n hx hb dX12_lies_9 rfl (lv_at hl 1 rfl) ?_
    refine lv_iload_n hx hb dX12_lies_10 rfl (lv_at hl 2 rfl) ?_
    refine r_sti (f := up) (j := pp) hx hb hE hP hD hS 52 (ma_52 G a _) rfl (mas_52 G a _) (by omega) (by decide) dX12_lies_11 (fun H locs hP hD hS => ?_)
    have hz3 : (upd up pp x) = lieF up vf x := (lieF_2 epp (by omega)).symm
    have hP : va_P G.1 pCl (mW G h0 a F (updA B 52 (upd up pp x))) _ := hP
    have hD : va_D A (mW G h0 a F (updA B 52 (upd up pp x))) := mW_D hD
    exact W.vret hx hb hr (fun t9 ht9 hW9 => ⟨⟨_, (upd up pp x), rfl, ⟨rfl, hz3⟩, by rw [ht9]; exact hP, hD⟩, hS.F ht9⟩) hS.2.2 dX12_lies_12
theorem dX12_lieAll_0 : decode cX12_lieAll 0 = .ok (.iload_n 1, 1) := by decide +kernel
theorem dX12_lieAll_1 : decode cX12_lieAll 1 = .ok (.istore_n 3, 1) := by decide +kernel
theorem dX12_lieAll_2 : decode cX12_lieAll 2 = .ok (.iload_n 3, 1) := by decide +kernel
theorem dX12_lieAll_3 : decode cX12_lieAll 3 = .ok (.iconst (-1), 1) := by decide +kernel
theorem dX12_lieAll_4 : decode cX12_lieAll 4 = .ok (.if_icmp .eq 20, 3) := by decide +kernel
theorem dX12_lieAll_24 : decode cX12_lieAll 24 = .ok (.return_, 1) := by decide +kernel
theorem dX12_lieAll_7 : decode cX12_lieAll 7 = .ok (.aload_n 0, 1) := by decide +kernel
theorem dX12_lieAll_8 : decode cX12_lieAll 8 = .ok (.getfield 168, 3) := by decide +kernel
theorem dX12_lieAll_11 : decode cX12_lieAll 11 = .ok (.iload_n 3, 1) := by decide +kernel
theorem dX12_lieAll_12 : decode cX12_lieAll 12 = .ok (.iload_n 2, 1) := by decide +kernel
theorem dX12_lieAll_13 : decode cX12_lieAll 13 = .ok (.iastore, 1) := by decide +kernel
theorem dX12_lieAll_14 : decode cX12_lieAll 14 = .ok (.aload_n 0, 1) := by decide +kernel
theorem dX12_lieAll_15 : decode cX12_lieAll 15 = .ok (.getfield 59, 3) := by decide +kernel
theorem dX12_lieAll_18 : decode cX12_lieAll 18 = .ok (.iload_n 3, 1) := by decide +kernel
theorem dX12_lieAll_19 : decode cX12_lieAll 19 = .ok (.iaload, 1) := by decide +kernel
theorem dX12_lieAll_20 : decode cX12_lieAll 20 = .ok (.istore_n 3, 1) := by decide +kernel
theorem dX12_lieAll_21 : decode cX12_lieAll 21 = .ok (.goto (-19), 3) := by decide +kernel
set_option maxHeartbeats 2000000 in
set_option maxRecDepth 100000 in
/-- lieAll(first, in) -/
theorem R_lieAll (l : Launch) (G : pT) (h0 : Nat) (a : Nat → Nat) (F : Nat → Int32) (B : Nat → Nat → Int32) (vf : Int32) (x : Int32) (nd : Nat) (up : Nat → Int32) (ln : Nat → Int32) (hvo : OrY vf nd) (hnd : nd ≤ 12000) (hln : lnRow ln nd) : PM l G pX0 yX12_lieAll cX12_lieAll 4 none ({ frames := 2, cells := 0, slots := 0, locals := 60 }) [.ref h0, .int vf, .int x] (mW G h0 a F (updA (updA B 16 ln) 52 up)) (fun (v : Option Value) (u : (Nat → Int32)) => v = none ∧ (LieA ln up u vf x)) (fun u => (mW G h0 a F (updA (updA B 16 ln) 52 u))) := by
  intro sz
  refine Met.ofW (cc := cX12_lieAll) (maxL := 4) (ret := none) (by decide) rfl ?_
  intro p e s m args below meth c s₁ B9 hml hv
  obtain ⟨rfl, hsz, hP, hD0, hE, hX⟩ := hv
  have hx := B9.exec
  have hb := B9.bytes
  have hr := B9.returns
  have hts := atoms_spec (ws := Cond.code yX12_lieAll cX12_lieAll 4 none :: pw) B9.pre
  have hq : ∀ w ∈ pw, w.before _ s = true := fun w h => hts w (List.mem_cons_of_mem _ h)
  have hown : s.vm.findClass RX12 = some m.cls := findClass_of_methodNamed B9.named
  have hlocks := B9.notSynchronized
  subst hsz
  have hD := hD0.self (sz := s.heap.size)
  have hA : ∀ q : Nat, s.heap.size ≤ q → va_A (mW G h0 a F (updA (updA B 16 ln) 52 up)) s.heap.size q := fun q h => Or.inr h
  have hP : va_P G.1 pCl (mW G h0 a F (updA (updA B 16 ln) 52 up)) s.heap := hP
  generalize va_A (mW G h0 a F (updA (updA B 16 ln) 52 up)) s.heap.size = A at hD hE hA ⊢
  have hS : va_S A s.heap s.heap [] := va_S.rf
  have hl := lv_entry ([.ref h0, .int vf, .int x]) (n := 4) (Nat.le_of_ble_eq_true rfl)
  rw [lg_entry_eq]
  generalize (lg_sl ([.ref h0, .int vf, .int x]) ++ List.replicate (4 - (lg_sl ([.ref h0, .int vf, .int x])).length) Slot.unset).toArray = ls at hl ⊢
  have hl : lv_has ls 4 [(0, .ref h0), (1, .int vf), (2, .int x)] := hl
  refine lv_iload_n hx hb dX12_lieAll_0 rfl (lv_at hl 1 rfl) ?_
  refine lv_istore_n (lv' := [(3, .int vf), (0, .ref h0), (1, .int vf), (2, .int x)]) hx hb dX12_lieAll_1 rfl hl (by decide) rfl (fun ls hl => ?_)
  have loop_o : ∀ (n_o : Nat) (j2 : Nat) (up2 : Nat → Int32) (H : Heap) (locs : List Loc) (ls : Array Slot), j2 ≤ nd → nd + 1 ≤ j2 + n_o → (LieQ ln up up2 vf x j2) → va_P G.1 pCl (mW G h0 a F (updA (updA B 16 ln) 52 up2)) H → va_D A (mW G h0 a F (updA (updA B 16 ln) 52 up2)) → va_S A s.heap H locs → lv_has ls 4 [(3, .int (itr ln vf j2)), (2, .int x), (1, .int vf), (0, .ref h0)] → W p l e (headSpec (Cond.code yX12_lieAll cX12_lieAll 4 none :: pw) ({ frames := 2, cells := 0, slots := 0, locals := 60 } : Room)).room s m ([.ref h0, .int vf, .int x] : List Value).toArray below meth c H locs 0 0 (MQ below (pQ G A (fun (v : Option Value) (u : (Nat → Int32)) => v = none ∧ (LieA ln up u vf x)) (fun u => (mW G h0 a F (updA (updA B 16 ln) 52 u)))) ([.ref h0, .int vf, .int x] : List Value).toArray s ({ frames := 2, cells := 0, slots := 0, locals := 60 } : Room).cells ({ frames := 2, cells := 0, slots := 0, locals := 60 } : Room).slots A) (F0 m 2 ls []) := by
    intro n_o
    induction n_o with
    | zero => intro j2 up2 H locs ls hk_o hn_o; omega
    | succ n_o ih_o =>
      intro j2 up2 H locs ls hk_o hn_o hli hP hD hS hl
      refine lv_iload_n hx hb dX12_lieAll_2 rfl (lv_at hl 0 rfl) ?_
      refine lv_iconst (v := (-1)) hx hb dX12_lieAll_3 (by decide) ?_
      refine lv_icmp_eq (tgt := 24) hx hb dX12_lieAll_4 (by decide) (fun c1 => ?_) (fun c1 => ?_)
      · have hz2 : LieA ln up up2 vf x := (LieQ.all hli c1)
        have hP : va_P G.1 pCl (mW G h0 a F (updA (updA B 16 ln) 52 up2)) _ := hP
        have hD : va_D A (mW G h0 a F (updA (updA B 16 ln) 52 up2)) := mW_D hD
        exact W.vret hx hb hr (fun t9 ht9 hW9 => ⟨⟨_, up2, rfl, ⟨rfl, hz2⟩, by rw [ht9]; exact hP, hD⟩, hS.F ht9⟩) hS.2.2 dX12_lieAll_24
      · obtain ⟨pp, epp, hp1, hp2⟩ := (itr_ln hln hvo (by omega) j2).resolve_left c1
        rw [epp] at hl
        refine lv_aload_n hx hb dX12_lieAll_7 rfl (lv_at hl 3 rfl) ?_
        refine r_get (v := .ref (a 52)) hx hb hown hq hE hP 88 168 tFX12_88 (by decide) pw_1483 rfl dX12_lieAll_8 ?_
        refine lv_iload_n hx hb dX12_lieAll_11 rfl (lv_at hl 0 rfl) ?_
        refine lv_iload_n hx hb dX12_lieAll_12 rfl (lv_at hl 1 rfl) ?_
        refine r_sti (f := up2) (j := pp) hx hb hE hP hD hS 52 (ma_52 G a _) rfl (mas_52 G a _) (by omega) (by decide) dX12_lieAll_13 (fun H locs hP hD hS => ?_)
        refine lv_aload_n hx hb dX12_lieAll_14 rfl (lv_at hl 3 rfl) ?_
        refine r_get (v := .ref (a 16)) hx hb hown hq hE hP 24 59 tFX12_24 (by decide) pw_1446 rfl dX12_lieAll_15 ?_
        refine lv_iload_n hx hb dX12_lieAll_18 rfl (lv_at hl 0 rfl) ?_
        refine r_ldi (f := ln) (j := pp) hx hb hE hP 16 (ma_16 G a _) rfl (by omega) (by decide) dX12_lieAll_19 ?_
        refine lv_topi (fun x3 e4 => ?_)
        obtain rfl : x3 = itr ln vf (j2 + 1) := e4.trans (itr_s epp (by omega)).symm
        refine lv_istore_n (lv' := [(3, .int (itr ln vf (j2 + 1))), (2, .int x), (1, .int vf), (0, .ref h0)]) hx hb dX12_lieAll_20 rfl hl (by decide) rfl (fun ls hl => ?_)
        refine lv_goto (tgt := 2) hx hb dX12_lieAll_21 (by decide) ?_
        have hP : va_P G.1 pCl (mW G h0 a F (updA (updA B 16 ln) 52 (upd up2 pp x))) _ := hP
        have hD : va_D A (mW G h0 a F (updA (updA B 16 ln) 52 (upd up2 pp x))) := mW_D hD
        exact ih_o (j2 + 1) (upd up2 pp x) _ _ _ (by omega) (by omega) (LieQ.succ hli epp (by omega)) hP hD hS (lv_sub hl [0, 1, 2, 3] rfl)
  have hP : va_P G.1 pCl (mW G h0 a F (updA (updA B 16 ln) 52 up)) _ := hP
  have hD : va_D A (mW G h0 a F (updA (updA B 16 ln) 52 up)) := mW_D hD
  exact loop_o (nd + 1) 0 up _ _ _ (by omega) (by omega) LieQ.zero hP hD hS (lv_sub hl [0, 3, 2, 1] rfl)
theorem dX12_fieldsOf_0 : decode cX12_fieldsOf 0 = .ok (.iconst 0, 1) := by decide +kernel
theorem dX12_fieldsOf_1 : decode cX12_fieldsOf 1 = .ok (.istore_n 2, 1) := by decide +kernel
theorem dX12_fieldsOf_2 : decode cX12_fieldsOf 2 = .ok (.iconst 0, 1) := by decide +kernel
theorem dX12_fieldsOf_3 : decode cX12_fieldsOf 3 = .ok (.istore_n 3, 1) := by decide +kernel
theorem dX12_fieldsOf_4 : decode cX12_fieldsOf 4 = .ok (.iload_n 3, 1) := by decide +kernel
theorem dX12_fieldsOf_5 : decode cX12_fieldsOf 5 = .ok (.aload_n 0, 1) := by decide +kernel
theorem dX12_fieldsOf_6 : decode cX12_fieldsOf 6 = .ok (.getfield 413, 3) := by decide +kernel
theorem dX12_fieldsOf_9 : decode cX12_fieldsOf 9 = .ok (.if_icmp .ge 41, 3) := by decide +kernel
theorem dX12_fieldsOf_50 : decode cX12_fieldsOf 50 = .ok (.iload_n 2, 1) := by decide +kernel
theorem dX12_fieldsOf_51 : decode cX12_fieldsOf 51 = .ok (.ireturn, 1) := by decide +kernel
theorem dX12_fieldsOf_12 : decode cX12_fieldsOf 12 = .ok (.iload_n 2, 1) := by decide +kernel
theorem dX12_fieldsOf_13 : decode cX12_fieldsOf 13 = .ok (.aload_n 0, 1) := by decide +kernel
theorem dX12_fieldsOf_14 : decode cX12_fieldsOf 14 = .ok (.getfield 108, 3) := by decide +kernel
theorem dX12_fieldsOf_17 : decode cX12_fieldsOf 17 = .ok (.iload_n 3, 1) := by decide +kernel
theorem dX12_fieldsOf_18 : decode cX12_fieldsOf 18 = .ok (.iaload, 1) := by decide +kernel
theorem dX12_fieldsOf_19 : decode cX12_fieldsOf 19 = .ok (.iload_n 1, 1) := by decide +kernel
theorem dX12_fieldsOf_20 : decode cX12_fieldsOf 20 = .ok (.if_icmp .eq 17, 3) := by decide +kernel
theorem dX12_fieldsOf_37 : decode cX12_fieldsOf 37 = .ok (.iconst 1, 1) := by decide +kernel
theorem dX12_fieldsOf_38 : decode cX12_fieldsOf 38 = .ok (.goto 4, 3) := by decide +kernel
theorem dX12_fieldsOf_42 : decode cX12_fieldsOf 42 = .ok (.iadd, 1) := by decide +kernel
theorem dX12_fieldsOf_43 : decode cX12_fieldsOf 43 = .ok (.istore_n 2, 1) := by decide +kernel
theorem dX12_fieldsOf_44 : decode cX12_fieldsOf 44 = .ok (.iinc 3 1, 3) := by decide +kernel
theorem dX12_fieldsOf_47 : decode cX12_fieldsOf 47 = .ok (.goto (-43), 3) := by decide +kernel
theorem dX12_fieldsOf_23 : decode cX12_fieldsOf 23 = .ok (.aload_n 0, 1) := by decide +kernel
theorem dX12_fieldsOf_24 : decode cX12_fieldsOf 24 = .ok (.aload_n 0, 1) := by decide +kernel
theorem dX12_fieldsOf_25 : decode cX12_fieldsOf 25 = .ok (.getfield 108, 3) := by decide +kernel
theorem dX12_fieldsOf_28 : decode cX12_fieldsOf 28 = .ok (.iload_n 3, 1) := by decide +kernel
theorem dX12_fieldsOf_29 : decode cX12_fieldsOf 29 = .ok (.iaload, 1) := by decide +kernel
theorem dX12_fieldsOf_30 : decode cX12_fieldsOf 30 = .ok (.iload_n 1, 1) := by decide +kernel
theorem dX12_fieldsOf_31 : decode cX12_fieldsOf 31 = .ok (.invokevirtual 518, 3) := by decide +kernel
theorem dX12_fieldsOf_34 : decode cX12_fieldsOf 34 = .ok (.ifCond .eq 7, 3) := by decide +kernel
theorem dX12_fieldsOf_41 : decode cX12_fieldsOf 41 = .ok (.iconst 0, 1) := by decide +kernel
set_option maxHeartbeats 2000000 in
set_option maxRecDepth 100000 in
/-- fieldsOf(k) -/
theorem R_fieldsOf (l : Launch) (G : pT) (h0 : Nat) (a : Nat → Nat) (F : Nat → Int32) (B : Nat → Nat → Int32) (k9 : Nat) (dc : Nat) (fd : Nat) (hk9 : k9 < dc) (hdc : dc ≤ 37) (hfd : fd ≤ 620) (hbi : bitsM (B 31)) (hfo : ∀ f : Nat, f < fd → ∃ d : Nat, B 32 f = nI d ∧ d < dc) : PM l G pX0 yX12_fieldsOf cX12_fieldsOf 4 (some .int) ({ frames := 3, cells := 0, slots := 0, locals := 82 }) [.ref h0, .int (nI k9)] (mW G h0 a (upd F 44 (nI fd)) B) (fun (v : Option Value) (u : Unit) => v = some (.int (nI (cfF B k9 fd)))) (fun u => (mW G h0 a (upd F 44 (nI fd)) B)) := by
  intro sz
  refine Met.ofW (cc := cX12_fieldsOf) (maxL := 4) (ret := (some .int)) (by decide) rfl ?_
  intro p e s m args below meth c s₁ B9 hml hv
  obtain ⟨rfl, hsz, hP, hD0, hE, hX⟩ := hv
  have hx := B9.exec
  have hb := B9.bytes
  have hr := B9.returns
  have hts := atoms_spec (ws := Cond.code yX12_fieldsOf cX12_fieldsOf 4 (some .int) :: pw) B9.pre
  have hq : ∀ w ∈ pw, w.before _ s = true := fun w h => hts w (List.mem_cons_of_mem _ h)
  have hown : s.vm.findClass RX12 = some m.cls := findClass_of_methodNamed B9.named
  have hlocks := B9.notSynchronized
  subst hsz
  have hD := hD0.self (sz := s.heap.size)
  have hA : ∀ q : Nat, s.heap.size ≤ q → va_A (mW G h0 a (upd F 44 (nI fd)) B) s.heap.size q := fun q h => Or.inr h
  have hP : va_P G.1 pCl (mW G h0 a (upd F 44 (nI fd)) B) s.heap := hP
  generalize va_A (mW G h0 a (upd F 44 (nI fd)) B) s.heap.size = A at hD hE hA ⊢
  have hS : va_S A s.heap s.heap [] := va_S.rf
  have hl := lv_entry ([.ref h0, .int (nI k9)]) (n := 4) (Nat.le_of_ble_eq_true rfl)
  rw [lg_entry_eq]
  generalize (lg_sl ([.ref h0, .int (nI k9)]) ++ List.replicate (4 - (lg_sl ([.ref h0, .int (nI k9)])).length) Slot.unset).toArray = ls at hl ⊢
  have hl : lv_has ls 4 [(0, .ref h0), (1, .int (nI k9))] := hl
  refine lv_iconst (v := 0) hx hb dX12_fieldsOf_0 (by decide) ?_
  refine lv_istore_n (lv' := [(2, .int 0), (0, .ref h0), (1, .int (nI k9))]) hx hb dX12_fieldsOf_1 rfl hl (by decide) rfl (fun ls hl => ?_)
  refine lv_iconst (v := 0) hx hb dX12_fieldsOf_2 (by decide) ?_
  refine lv_istore_n (lv' := [(3, .int 0), (2, .int 0), (0, .ref h0), (1, .int (nI k9))]) hx hb dX12_fieldsOf_3 rfl hl (by decide) rfl (fun ls hl => ?_)
  have loop_o : ∀ (n_o : Nat) (f2 : Nat) (ct2 : Nat) (H : Heap) (locs : List Loc) (ls : Array Slot), f2 ≤ fd → fd + 1 ≤ f2 + n_o → (ct2 = cfF B k9 f2) → (ct2 ≤ f2) → va_P G.1 pCl (mW G h0 a (upd F 44 (nI fd)) B) H → va_D A (mW G h0 a (upd F 44 (nI fd)) B) → va_S A s.heap H locs → lv_has ls 4 [(3, .int (nI f2)), (2, .int (nI ct2)), (1, .int (nI k9)), (0, .ref h0)] → W p l e (headSpec (Cond.code yX12_fieldsOf cX12_fieldsOf 4 (some .int) :: pw) ({ frames := 3, cells := 0, slots := 0, locals := 82 } : Room)).room s m ([.ref h0, .int (nI k9)] : List Value).toArray below meth c H locs 0 0 (MQ below (pQ G A (fun (v : Option Value) (u : Unit) => v = some (.int (nI (cfF B k9 fd)))) (fun u => (mW G h0 a (upd F 44 (nI fd)) B))) ([.ref h0, .int (nI k9)] : List Value).toArray s ({ frames := 3, cells := 0, slots := 0, locals := 82 } : Room).cells ({ frames := 3, cells := 0, slots := 0, locals := 82 } : Room).slots A) (F0 m 4 ls []) := by
    intro n_o
    induction n_o with
    | zero => intro f2 ct2 H locs ls hk_o hn_o; omega
    | succ n_o ih_o =>
      intro f2 ct2 H locs ls hk_o hn_o hn2 hn3 hP hD hS hl
      refine lv_iload_n hx hb dX12_fieldsOf_4 rfl (lv_at hl 0 rfl) ?_
      refine lv_aload_n hx hb dX12_fieldsOf_5 rfl (lv_at hl 3 rfl) ?_
      refine r_get (v := .int (nI fd)) hx hb hown hq hE hP 44 413 tFX12_44 (by decide) pw_1727 rfl dX12_fieldsOf_6 ?_
      refine lv_icmp_ge (tgt := 50) hx hb dX12_fieldsOf_9 (by decide) (fun c1 => ?_) (fun c1 => ?_)
      · have n2 : fd ≤ f2 := (nI_leI (a := fd) (b := f2) (by omega) (by omega)).mp c1
        refine lv_iload_n hx hb dX12_fieldsOf_50 rfl (lv_at hl 1 rfl) ?_
        have hP : va_P G.1 pCl (mW G h0 a (upd F 44 (nI fd)) B) _ := hP
        have hD : va_D A (mW G h0 a (upd F 44 (nI fd)) B) := mW_D hD
        exact W.iret (v := (nI ct2)) hx hb hr (fun t9 ht9 hW9 => ⟨⟨_, (), rfl, (by rw [hn2, show f2 = fd by omega]), by rw [ht9]; exact hP, hD⟩, hS.F ht9⟩) hS.2.2 dX12_fieldsOf_51
      · have n3 : ¬ (fd ≤ f2) := fun h9 => c1 ((nI_leI (a := fd) (b := f2) (by omega) (by omega)).mpr h9)
        refine lv_iload_n hx hb dX12_fieldsOf_12 rfl (lv_at hl 1 rfl) ?_
        refine lv_aload_n hx hb dX12_fieldsOf_13 rfl (lv_at hl 3 rfl) ?_
        refine r_get (v := .ref (a 32)) hx hb hown hq hE hP 45 108 tFX12_45 (by decide) pw_1463 rfl dX12_fieldsOf_14 ?_
        refine lv_iload_n hx hb dX12_fieldsOf_17 rfl (lv_at hl 0 rfl) ?_
        refine r_ldi (f := (B 32)) (j := f2) hx hb hE hP 32 (ma_32 G a _) rfl (by omega) (by decide) dX12_fieldsOf_18 ?_
        obtain ⟨d4, e5, h6⟩ := hfo f2 (by omega)
        refine lv_topi (fun x7 e8 => ?_)
        obtain rfl : x7 = nI d4 := e8.trans e5
        refine lv_iload_n hx hb dX12_fieldsOf_19 rfl (lv_at hl 2 rfl) ?_
        refine lv_icmp_eq (tgt := 37) hx hb dX12_fieldsOf_20 (by decide) (fun c9 => ?_) (fun c9 => ?_)
        · have n10 : d4 = k9 := (nI_eq (a := d4) (b := k9) (by omega) (by omega)).mp c9
          refine lv_iconst (v := 1) hx hb dX12_fieldsOf_37 (by decide) ?_
          refine lv_goto (tgt := 42) hx hb dX12_fieldsOf_38 (by decide) ?_
          refine lv_iadd hx hb dX12_fieldsOf_42 ?_
          refine lv_topi (fun x11 e12 => ?_)
          obtain rfl : x11 = nI (ct2 + 1) := e12.trans (nI_add (ct2) (1))
          refine lv_istore_n (lv' := [(2, .int (nI (ct2 + 1))), (3, .int (nI f2)), (1, .int (nI k9)), (0, .ref h0)]) hx hb dX12_fieldsOf_43 rfl hl (by decide) rfl (fun ls hl => ?_)
          refine lv_iinc (v := (nI (f2 + 1))) (lv' := [(3, .int (nI (f2 + 1))), (2, .int (nI (ct2 + 1))), (1, .int (nI k9)), (0, .ref h0)]) hx hb dX12_fieldsOf_44 hl (k := 1) rfl (nI_1 f2) (by decide) rfl (fun ls hl => ?_)
          refine lv_goto (tgt := 4) hx hb dX12_fieldsOf_47 (by decide) ?_
          have hP : va_P G.1 pCl (mW G h0 a (upd F 44 (nI fd)) B) _ := hP
          have hD : va_D A (mW G h0 a (upd F 44 (nI fd)) B) := mW_D hD
          exact ih_o (f2 + 1) (ct2 + 1) _ _ _ (by omega) (by omega) (by rw [cfF_y e5 (by omega) (Or.inl (by omega))]; omega) (by omega) hP hD hS (lv_sub hl [0, 1, 2, 3] rfl)
        · have n13 : ¬ (d4 = k9) := fun h9 => c9 ((nI_eq (a := d4) (b := k9) (by omega) (by omega)).mpr h9)
          refine lv_aload_n hx hb dX12_fieldsOf_23 rfl (lv_at hl 3 rfl) ?_
          refine lv_aload_n hx hb dX12_fieldsOf_24 rfl (lv_at hl 3 rfl) ?_
          refine r_get (v := .ref (a 32)) hx hb hown hq hE hP 45 108 tFX12_45 (by decide) pw_1463 rfl dX12_fieldsOf_25 ?_
          refine lv_iload_n hx hb dX12_fieldsOf_28 rfl (lv_at hl 0 rfl) ?_
          refine r_ldi (f := (B 32)) (j := f2) hx hb hE hP 32 (ma_32 G a _) rfl (by omega) (by decide) dX12_fieldsOf_29 ?_
          refine lv_topi (fun x14 e15 => ?_)
          obtain rfl : x14 = nI d4 := e15.trans e5
          refine lv_iload_n hx hb dX12_fieldsOf_30 rfl (lv_at hl 2 rfl) ?_
          have hP : va_P G.1 pCl (mW G h0 a (upd F 44 (nI fd)) (updA B 31 (B 31))) _ := mW_to (F := F) (l1 := [(44, (nI fd))]) (l2 := [(44, (nI fd))]) (V := [(nI fd), (nI fd)]) rfl rfl (show B = (updA B 31 (B 31)) from updsA_eq2 (F := B) (l1 := []) (l2 := [(31, (B 31))]) (V := [(B 31)]) rfl rfl) hP
          have hD : va_D A (mW G h0 a (upd F 44 (nI fd)) (updA B 31 (B 31))) := mW_D hD
          refine pc_V0 (G := G) (As := [.int (nI d4), .int (nI k9)]) (rest := [.int (nI ct2)]) hx hb hml hown hq hE hX pX0_al hP hD hS hA hl.1 (R_isAbove l G h0 a (upd F 44 (nI fd)) B d4 k9 (B 31) (by omega) hbi) (gV pw_1772 pw_1773 pw_1774 pw_1523 pw_1760) hV_X12_isAbove 0 9 rfl rfl rfl rfl (Nat.le_of_ble_eq_true rfl) dX12_fieldsOf_31 ⟨Nat.le_of_ble_eq_true rfl, Nat.le_of_ble_eq_true rfl⟩ ⟨Nat.le_of_ble_eq_true rfl, Nat.le_of_ble_eq_true rfl⟩ (fun v18 u16 H locs hw17 hP hD hS => ?_)
          obtain rfl : v18 = some (.int ((B 31) (40 * d4 + k9))) := hw17
          have hP : va_P G.1 pCl (mW G h0 a (upd F 44 (nI fd)) B) _ := mW_to (F := F) (l1 := [(44, (nI fd))]) (l2 := [(44, (nI fd))]) (V := [(nI fd), (nI fd)]) rfl rfl (show (updA B 31 (B 31)) = B from updsA_eq2 (F := B) (l1 := [(31, (B 31))]) (l2 := []) (V := [(B 31)]) rfl rfl) hP
          have hD : va_D A (mW G h0 a (upd F 44 (nI fd)) B) := mW_D hD
          refine W.widen (k := 0) (n := 0) (Nat.le_of_ble_eq_true rfl) (Nat.le_of_ble_eq_true rfl) ?_
          refine W.eq (g2 := F0 m 34 ls [.int ((B 31) (40 * d4 + k9)), .int (nI ct2)]) rfl ?_
          refine lv_if_eq (tgt := 41) hx hb dX12_fieldsOf_34 (by decide) (fun c19 => ?_) (fun c19 => ?_)
          · refine lv_iconst (v := 0) hx hb dX12_fieldsOf_41 (by decide) ?_
            refine lv_iadd hx hb dX12_fieldsOf_42 ?_
            refine lv_topi (fun x20 e21 => ?_)
            obtain rfl : x20 = nI (ct2 + 0) := e21.trans (nI_add (ct2) (0))
            refine lv_istore_n (lv' := [(2, .int (nI (ct2 + 0))), (3, .int (nI f2)), (1, .int (nI k9)), (0, .ref h0)]) hx hb dX12_fieldsOf_43 rfl hl (by decide) rfl (fun ls hl => ?_)
            refine lv_iinc (v := (nI (f2 + 1))) (lv' := [(3, .int (nI (f2 + 1))), (2, .int (nI (ct2 + 0))), (1, .int (nI k9)), (0, .ref h0)]) hx hb dX12_fieldsOf_44 hl (k := 1) rfl (nI_1 f2) (by decide) rfl (fun ls hl => ?_)
            refine lv_goto (tgt := 4) hx hb dX12_fieldsOf_47 (by decide) ?_
            have hP : va_P G.1 pCl (mW G h0 a (upd F 44 (nI fd)) B) _ := hP
            have hD : va_D A (mW G h0 a (upd F 44 (nI fd)) B) := mW_D hD
            exact ih_o (f2 + 1) (ct2 + 0) _ _ _ (by omega) (by omega) (by rw [cfF_n e5 (by omega) (by omega) (by omega) c19]; omega) (by omega) hP hD hS (lv_sub hl [0, 1, 2, 3] rfl)
          · refine lv_iconst (v := 1) hx hb dX12_fieldsOf_37 (by decide) ?_
            refine lv_goto (tgt := 42) hx hb dX12_fieldsOf_38 (by decide) ?_
            refine lv_iadd hx hb dX12_fieldsOf_42 ?_
            refine lv_topi (fun x22 e23 => ?_)
            obtain rfl : x22 = nI (ct2 + 1) := e23.trans (nI_add (ct2) (1))
            refine lv_istore_n (lv' := [(2, .int (nI (ct2 + 1))), (3, .int (nI f2)), (1, .int (nI k9)), (0, .ref h0)]) hx hb dX12_fieldsOf_43 rfl hl (by decide) rfl (fun ls hl => ?_)
            refine lv_iinc (v := (nI (f2 + 1))) (lv' := [(3, .int (nI (f2 + 1))), (2, .int (nI (ct2 + 1))), (1, .int (nI k9)), (0, .ref h0)]) hx hb dX12_fieldsOf_44 hl (k := 1) rfl (nI_1 f2) (by decide) rfl (fun ls hl => ?_)
            refine lv_goto (tgt := 4) hx hb dX12_fieldsOf_47 (by decide) ?_
            have hP : va_P G.1 pCl (mW G h0 a (upd F 44 (nI fd)) B) _ := hP
            have hD : va_D A (mW G h0 a (upd F 44 (nI fd)) B) := mW_D hD
            exact ih_o (f2 + 1) (ct2 + 1) _ _ _ (by omega) (by omega) (by rw [cfF_y e5 (by omega) (Or.inr (bitsM.one hbi (by omega) c19))]; omega) (by omega) hP hD hS (lv_sub hl [0, 1, 2, 3] rfl)
  have hP : va_P G.1 pCl (mW G h0 a (upd F 44 (nI fd)) B) _ := hP
  have hD : va_D A (mW G h0 a (upd F 44 (nI fd)) B) := mW_D hD
  exact loop_o (fd + 1) 0 0 _ _ _ (by omega) (by omega) rfl (by omega) hP hD hS (lv_sub hl [0, 1, 3, 2] rfl)
