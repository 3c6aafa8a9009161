/-- two sides that may stand beside each other -/
def SideP (da : Nat → Int32) (x y : Nat) : Prop := (x = y ∧ ¬ x = 0) ∨ (3 ≤ x ∧ 3 ≤ y ∧ (¬ fitF da x y = 0 ∨ ¬ fitF da y x = 0))
/-- the places of a class's references -/
def RefQ (X : Nat → Nat → Int32) (fd k : Nat) (w : Int32) : Prop := ∃ f y x : Nat, f < fd ∧ owF X k f = true ∧ X 35 f = nI y ∧ X 21 y = nI x ∧ 3 ≤ x ∧ (y ≤ 6000 ∧ x ≤ 3000) ∧ w = X 53 f
def RfsTo (X : Nat → Nat → Int32) (rp : Nat → Int32) (fd k u n : Nat) : Prop := ∀ i : Nat, u ≤ i → i < n → RefQ X fd k (rp i)
def RfsC (X : Nat → Nat → Int32) (rp : Nat → Int32) (k u n m : Nat) : Prop := ∀ f : Nat, f < m → owF X k f = true → ∀ y x : Nat, X 35 f = nI y → X 21 y = nI x → y ≤ 6000 → x ≤ 3000 → 3 ≤ x → ∃ i : Nat, u ≤ i ∧ i < n ∧ rp i = X 53 f
def RfsK (X : Nat → Nat → Int32) (rf rm rp : Nat → Int32) (fd k n : Nat) : Prop := ∃ u z : Nat, rf k = nI u ∧ rm k = nI z ∧ u + z ≤ n ∧ RfsTo X rp fd k u (u + z) ∧ (X 26 k = 0 → RfsC X rp k u (u + z) fd)
theorem RfsTo.up {X : Nat → Nat → Int32} {rp : Nat → Int32} {fd k u n : Nat} {w : Int32} (h : RfsTo X rp fd k u n) (g : RefQ X fd k w) : RfsTo X (upd rp n w) fd k u (n + 1) := fun i h1 h2 => by
  unfold upd
  by_cases e : i = n
  · rw [if_pos e]; exact g
  · rw [if_neg e]; exact h i h1 (by omega)
theorem RfsK.keep {X : Nat → Nat → Int32} {rf rm rp : Nat → Int32} {fd k n d : Nat} {v w x : Int32} (h : RfsK X rf rm rp fd k n) (hd : k < d) : RfsK X (upd rf d v) rm rp fd k n := by
  obtain ⟨u, z, h1, h2, h3, h4, h5⟩ := h
  exact ⟨u, z, by unfold upd; rw [if_neg (by omega)]; exact h1, h2, h3, h4, h5⟩
theorem RfsK.keepP {X : Nat → Nat → Int32} {rf rm rp : Nat → Int32} {fd k n q : Nat} {w : Int32} (h : RfsK X rf rm rp fd k n) (hq : n ≤ q) : RfsK X rf rm (upd rp q w) fd k n := by
  obtain ⟨u, z, h1, h2, h3, h4, h5⟩ := h
  exact ⟨u, z, h1, h2, h3, fun i a b => by unfold upd; rw [if_neg (by omega)]; exact h4 i a b, fun e f g1 g2 y x e1 e2 g3 g4 g5 => by
    obtain ⟨i, y1, y2, y3⟩ := h5 e f g1 g2 y x e1 e2 g3 g4 g5
    exact ⟨i, y1, y2, by unfold upd; rw [if_neg (by omega)]; exact y3⟩⟩
theorem RfsK.mono {X : Nat → Nat → Int32} {rf rm rp : Nat → Int32} {fd k n n2 : Nat} (h : RfsK X rf rm rp fd k n) (hq : n ≤ n2) : RfsK X rf rm rp fd k n2 := by
  obtain ⟨u, z, h1, h2, h3, h4, h5⟩ := h
  exact ⟨u, z, h1, h2, by omega, h4, h5⟩
theorem RfsK.keepM {X : Nat → Nat → Int32} {rf rm rp : Nat → Int32} {fd k n d : Nat} {w : Int32} (h : RfsK X rf rm rp fd k n) (hd : k < d) : RfsK X rf (upd rm d w) rp fd k n := by
  obtain ⟨u, z, h1, h2, h3, h4, h5⟩ := h
  exact ⟨u, z, h1, by unfold upd; rw [if_neg (by omega)]; exact h2, h3, h4, h5⟩
theorem RfsC.up {X : Nat → Nat → Int32} {rp : Nat → Int32} {k u n m : Nat} (h : RfsC X rp k u n m) (hu : u ≤ n) : RfsC X (upd rp n (X 53 m)) k u (n + 1) (m + 1) := fun f g1 g2 y x e1 e2 g3 g4 g5 => by
  by_cases q : f = m
  · exact ⟨n, hu, by omega, by rw [q]; exact if_pos rfl⟩
  · obtain ⟨i, y1, y2, y3⟩ := h f (by omega) g2 y x e1 e2 g3 g4 g5
    exact ⟨i, y1, by omega, by unfold upd; rw [if_neg (by omega)]; exact y3⟩
theorem RfsC.no {X : Nat → Nat → Int32} {rp : Nat → Int32} {k u n m : Nat} (h : RfsC X rp k u n m) (g : ¬ owF X k m = true) : RfsC X rp k u n (m + 1) := fun f g1 g2 => by
  by_cases q : f = m
  · rw [q] at g2; exact absurd g2 g
  · exact h f (by omega) g2
theorem RfsC.num {X : Nat → Nat → Int32} {rp : Nat → Int32} {k u n m y x : Nat} (h : RfsC X rp k u n m) (e1 : X 35 m = nI y) (e2 : X 21 y = nI x) (hy : y ≤ 6000) (hx : x < 3) : RfsC X rp k u n (m + 1) := fun f g1 g2 y2 x2 w1 w2 g3 g4 g5 => by
  by_cases q : f = m
  · rw [q] at w1
    have z1 : y2 = y := (nI_eq (by omega) (by omega)).mp (w1.symm.trans e1)
    rw [z1] at w2
    have : x2 = x := (nI_eq (by omega) (by omega)).mp (w2.symm.trans e2)
    omega
  · exact h f (by omega) g2 y2 x2 w1 w2 g3 g4 g5
theorem owF_no {X : Nat → Nat → Int32} {k n d : Nat} (ed : X 32 n = nI d) (hd : d < 2 ^ 31) (hk : k < 2 ^ 31) (h1 : ¬ d = k) (h2 : X 31 (40 * d + k) = 0) : ¬ owF X k n = true := by
  unfold owF
  rw [ed, nI_cl hd, h2]
  have : ¬ nI d = nI k := fun q => h1 ((nI_eq hd hk).mp q)
  simp [this]
theorem dX12_areSides_0 : decode cX12_areSides 0 = .ok (.iload_n 1, 1) := by decide +kernel
theorem dX12_areSides_1 : decode cX12_areSides 1 = .ok (.ifCond .eq 8, 3) := by decide +kernel
theorem dX12_areSides_9 : decode cX12_areSides 9 = .ok (.aload_n 0, 1) := by decide +kernel
theorem dX12_areSides_10 : decode cX12_areSides 10 = .ok (.iload_n 1, 1) := by decide +kernel
theorem dX12_areSides_11 : decode cX12_areSides 11 = .ok (.invokevirtual 525, 3) := by decide +kernel
theorem dX12_areSides_14 : decode cX12_areSides 14 = .ok (.ifCond .eq 33, 3) := by decide +kernel
theorem dX12_areSides_47 : decode cX12_areSides 47 = .ok (.iconst 0, 1) := by decide +kernel
theorem dX12_areSides_48 : decode cX12_areSides 48 = .ok (.ireturn, 1) := by decide +kernel
theorem dX12_areSides_17 : decode cX12_areSides 17 = .ok (.aload_n 0, 1) := by decide +kernel
theorem dX12_areSides_18 : decode cX12_areSides 18 = .ok (.iload_n 2, 1) := by decide +kernel
theorem dX12_areSides_19 : decode cX12_areSides 19 = .ok (.invokevirtual 525, 3) := by decide +kernel
theorem dX12_areSides_22 : decode cX12_areSides 22 = .ok (.ifCond .eq 25, 3) := by decide +kernel
theorem dX12_areSides_25 : decode cX12_areSides 25 = .ok (.aload_n 0, 1) := by decide +kernel
theorem dX12_areSides_26 : decode cX12_areSides 26 = .ok (.iload_n 1, 1) := by decide +kernel
theorem dX12_areSides_27 : decode cX12_areSides 27 = .ok (.iload_n 2, 1) := by decide +kernel
theorem dX12_areSides_28 : decode cX12_areSides 28 = .ok (.invokevirtual 534, 3) := by decide +kernel
theorem dX12_areSides_31 : decode cX12_areSides 31 = .ok (.ifCond .ne 12, 3) := by decide +kernel
theorem dX12_areSides_43 : decode cX12_areSides 43 = .ok (.iconst 1, 1) := by decide +kernel
theorem dX12_areSides_44 : decode cX12_areSides 44 = .ok (.goto 4, 3) := by decide +kernel
theorem dX12_areSides_34 : decode cX12_areSides 34 = .ok (.aload_n 0, 1) := by decide +kernel
theorem dX12_areSides_35 : decode cX12_areSides 35 = .ok (.iload_n 2, 1) := by decide +kernel
theorem dX12_areSides_36 : decode cX12_areSides 36 = .ok (.iload_n 1, 1) := by decide +kernel
theorem dX12_areSides_37 : decode cX12_areSides 37 = .ok (.invokevirtual 534, 3) := by decide +kernel
theorem dX12_areSides_40 : decode cX12_areSides 40 = .ok (.ifCond .eq 7, 3) := by decide +kernel
theorem dX12_areSides_4 : decode cX12_areSides 4 = .ok (.iload_n 1, 1) := by decide +kernel
theorem dX12_areSides_5 : decode cX12_areSides 5 = .ok (.iload_n 2, 1) := by decide +kernel
theorem dX12_areSides_6 : decode cX12_areSides 6 = .ok (.if_icmp .eq 37, 3) := by decide +kernel
set_option maxHeartbeats 2000000 in
set_option maxRecDepth 100000 in
/-- areSides(a, b) -/
theorem R_areSides (l : Launch) (G : pT) (h0 : Nat) (a : Nat → Nat) (F : Nat → Int32) (B : Nat → Nat → Int32) (x1 : Nat) (y1 : Nat) (dc : Nat) (da : Nat → Int32) (hs : TyC dc x1) (ht : TyC dc y1) (hdc : dc ≤ 37) (hbi : ∀ i : Nat, i < 1600 → da i = 0 ∨ da i = 1) : PM l G pX0 yX12_areSides cX12_areSides 3 (some .boolean) ({ frames := 5, cells := 0, slots := 0, locals := 126 }) [.ref h0, .int (nI x1), .int (nI y1)] (mW G h0 a F (updA B 31 da)) (fun (v : Option Value) (u : Nat) => v = some (.int (nI u)) ∧ (u ≤ 1) ∧ (If (u = 1) (SideP da x1 y1))) (fun u => (mW G h0 a F (updA B 31 da))) := by
  intro sz
  refine Met.ofW (cc := cX12_areSides) (maxL := 3) (ret := (some .boolean)) (by decide) rfl ?_
  intro p e s m args below meth c s₁ B9 hml hv
  obtain ⟨rfl, hsz, hP, hD0, hE, hX⟩ := hv
  have hx := B9.exec
  have hb := B9.bytes
  have hr := B9.returns
  have hts := atoms_spec (ws := Cond.code yX12_areSides cX12_areSides 3 (some .boolean) :: pw) B9.pre
  have hq : ∀ w ∈ pw, w.before _ s = true := fun w h => hts w (List.mem_cons_of_mem _ h)
  have hown : s.vm.findClass RX12 = some m.cls := findClass_of_methodNamed B9.named
  have hlocks := B9.notSynchronized
  subst hsz
  have hD := hD0.self (sz := s.heap.size)
  have hA : ∀ q : Nat, s.heap.size ≤ q → va_A (mW G h0 a F (updA B 31 da)) s.heap.size q := fun q h => Or.inr h
  have hP : va_P G.1 pCl (mW G h0 a F (updA B 31 da)) s.heap := hP
  generalize va_A (mW G h0 a F (updA B 31 da)) s.heap.size = A at hD hE hA ⊢
  have hS : va_S A s.heap s.heap [] := va_S.rf
  have hl := lv_entry ([.ref h0, .int (nI x1), .int (nI y1)]) (n := 3) (Nat.le_of_ble_eq_true rfl)
  rw [lg_entry_eq]
  generalize (lg_sl ([.ref h0, .int (nI x1), .int (nI y1)]) ++ List.replicate (3 - (lg_sl ([.ref h0, .int (nI x1), .int (nI y1)])).length) Slot.unset).toArray = ls at hl ⊢
  have hl : lv_has ls 3 [(0, .ref h0), (1, .int (nI x1)), (2, .int (nI y1))] := hl
  have hs5 := TyC.le hs hdc
  have ht5 := TyC.le ht hdc
  refine lv_iload_n hx hb dX12_areSides_0 rfl (lv_at hl 1 rfl) ?_
  refine lv_if_eq (tgt := 9) hx hb dX12_areSides_1 (by decide) (fun c1 => ?_) (fun c1 => ?_)
  · have n2 : x1 = 0 := (nI_eq (a := x1) (b := 0) (by omega) (by omega)).mp c1
    refine lv_aload_n hx hb dX12_areSides_9 rfl (lv_at hl 0 rfl) ?_
    refine lv_iload_n hx hb dX12_areSides_10 rfl (lv_at hl 1 rfl) ?_
    have hP : va_P G.1 pCl (mW G h0 a F (updA B 31 da)) _ := hP
    have hD : va_D A (mW G h0 a F (updA B 31 da)) := mW_D hD
    refine pc_V0 (G := G) (As := [.int (nI x1)]) (rest := []) hx hb hml hown hq hE hX pX0_al hP hD hS hA hl.1 (R_isReference l G h0 a F (updA B 31 da) x1 (by omega)) (gV pw_1783 pw_1784 pw_1785 pw_1523 pw_1779) hV_X12_isReference 0 9 rfl rfl rfl rfl (Nat.le_of_ble_eq_true rfl) dX12_areSides_11 ⟨Nat.le_of_ble_eq_true rfl, Nat.le_of_ble_eq_true rfl⟩ ⟨Nat.le_of_ble_eq_true rfl, Nat.le_of_ble_eq_true rfl⟩ (fun v5 u3 H locs hw4 hP hD hS => ?_)
    obtain ⟨r6, rfl⟩ : ∃ z, z = u3 := ⟨_, rfl⟩
    obtain ⟨hw4, h7, h8, h9⟩ := hw4
    replace h7 : r6 ≤ 1 := h7
    replace h8 : 3 * r6 ≤ x1 := h8
    replace h9 : x1 ≤ 2 + 9000 * r6 := h9
    obtain rfl : v5 = some (.int (nI r6)) := hw4
    have hP : va_P G.1 pCl (mW G h0 a F (updA B 31 da)) _ := hP
    have hD : va_D A (mW G h0 a F (updA B 31 da)) := mW_D hD
    refine W.widen (k := 0) (n := 0) (Nat.le_of_ble_eq_true rfl) (Nat.le_of_ble_eq_true rfl) ?_
    refine W.eq (g2 := F0 m 14 ls [.int (nI r6)]) rfl ?_
    refine lv_if_eq (tgt := 47) hx hb dX12_areSides_14 (by decide) (fun c10 => ?_) (fun c10 => ?_)
    · have n11 : r6 = 0 := (nI_eq (a := r6) (b := 0) (by omega) (by omega)).mp c10
      refine lv_iconst (v := 0) hx hb dX12_areSides_47 (by decide) ?_
      have hz12 : 0 ≤ 1 := (by omega)
      have hz13 : If (0 = 1) (SideP da x1 y1) := (fun e => absurd e (by decide))
      have hP : va_P G.1 pCl (mW G h0 a F (updA B 31 da)) _ := hP
      have hD : va_D A (mW G h0 a F (updA B 31 da)) := mW_D hD
      exact W.zret (v := 0) hx hb hr rfl (fun t9 ht9 hW9 => ⟨⟨_, 0, rfl, ⟨rfl, hz12, hz13⟩, by rw [ht9]; exact hP, hD⟩, hS.F ht9⟩) hS.2.2 dX12_areSides_48
    · have n14 : ¬ (r6 = 0) := fun h9 => c10 ((nI_eq (a := r6) (b := 0) (by omega) (by omega)).mpr h9)
      refine lv_aload_n hx hb dX12_areSides_17 rfl (lv_at hl 0 rfl) ?_
      refine lv_iload_n hx hb dX12_areSides_18 rfl (lv_at hl 2 rfl) ?_
      have hP : va_P G.1 pCl (mW G h0 a F (updA B 31 da)) _ := hP
      have hD : va_D A (mW G h0 a F (updA B 31 da)) := mW_D hD
      refine pc_V0 (G := G) (As := [.int (nI y1)]) (rest := []) hx hb hml hown hq hE hX pX0_al hP hD hS hA hl.1 (R_isReference l G h0 a F (updA B 31 da) y1 (by omega)) (gV pw_1783 pw_1784 pw_1785 pw_1523 pw_1779) hV_X12_isReference 0 9 rfl rfl rfl rfl (Nat.le_of_ble_eq_true rfl) dX12_areSides_19 ⟨Nat.le_of_ble_eq_true rfl, Nat.le_of_ble_eq_true rfl⟩ ⟨Nat.le_of_ble_eq_true rfl, Nat.le_of_ble_eq_true rfl⟩ (fun v17 u15 H locs hw16 hP hD hS => ?_)
      obtain ⟨r18, rfl⟩ : ∃ z, z = u15 := ⟨_, rfl⟩
      obtain ⟨hw16, h19, h20, h21⟩ := hw16
      replace h19 : r18 ≤ 1 := h19
      replace h20 : 3 * r18 ≤ y1 := h20
      replace h21 : y1 ≤ 2 + 9000 * r18 := h21
      obtain rfl : v17 = some (.int (nI r18)) := hw16
      have hP : va_P G.1 pCl (mW G h0 a F (updA B 31 da)) _ := hP
      have hD : va_D A (mW G h0 a F (updA B 31 da)) := mW_D hD
      refine W.widen (k := 0) (n := 0) (Nat.le_of_ble_eq_true rfl) (Nat.le_of_ble_eq_true rfl) ?_
      refine W.eq (g2 := F0 m 22 ls [.int (nI r18)]) rfl ?_
      refine lv_if_eq (tgt := 47) hx hb dX12_areSides_22 (by decide) (fun c22 => ?_) (fun c22 => ?_)
      · have n23 : r18 = 0 := (nI_eq (a := r18) (b := 0) (by omega) (by omega)).mp c22
        refine lv_iconst (v := 0) hx hb dX12_areSides_47 (by decide) ?_
        have hz24 : 0 ≤ 1 := (by omega)
        have hz25 : If (0 = 1) (SideP da x1 y1) := (fun e => absurd e (by decide))
        have hP : va_P G.1 pCl (mW G h0 a F (updA B 31 da)) _ := hP
        have hD : va_D A (mW G h0 a F (updA B 31 da)) := mW_D hD
        exact W.zret (v := 0) hx hb hr rfl (fun t9 ht9 hW9 => ⟨⟨_, 0, rfl, ⟨rfl, hz24, hz25⟩, by rw [ht9]; exact hP, hD⟩, hS.F ht9⟩) hS.2.2 dX12_areSides_48
      · have n26 : ¬ (r18 = 0) := fun h9 => c22 ((nI_eq (a := r18) (b := 0) (by omega) (by omega)).mpr h9)
        refine lv_aload_n hx hb dX12_areSides_25 rfl (lv_at hl 0 rfl) ?_
        refine lv_iload_n hx hb dX12_areSides_26 rfl (lv_at hl 1 rfl) ?_
        refine lv_iload_n hx hb dX12_areSides_27 rfl (lv_at hl 2 rfl) ?_
        have hP : va_P G.1 pCl (mW G h0 a F (updA (updA B 31 da) 31 da)) _ := hP
        have hD : va_D A (mW G h0 a F (updA (updA B 31 da) 31 da)) := mW_D hD
        refine pc_V0 (G := G) (As := [.int (nI x1), .int (nI y1)]) (rest := []) hx hb hml hown hq hE hX pX0_al hP hD hS hA hl.1 (R_fits l G h0 a F (updA B 31 da) x1 y1 dc da hs ht (by omega) hbi) (gV pw_1790 pw_1791 pw_1792 pw_1523 pw_1782) hV_X12_fits 0 9 rfl rfl rfl rfl (Nat.le_of_ble_eq_true rfl) dX12_areSides_28 ⟨Nat.le_of_ble_eq_true rfl, Nat.le_of_ble_eq_true rfl⟩ ⟨Nat.le_of_ble_eq_true rfl, Nat.le_of_ble_eq_true rfl⟩ (fun v29 u27 H locs hw28 hP hD hS => ?_)
        obtain rfl : v29 = some (.int (fitF da x1 y1)) := hw28
        have hP : va_P G.1 pCl (mW G h0 a F (updA B 31 da)) _ := hP
        have hD : va_D A (mW G h0 a F (updA B 31 da)) := mW_D hD
        refine W.widen (k := 0) (n := 0) (Nat.le_of_ble_eq_true rfl) (Nat.le_of_ble_eq_true rfl) ?_
        refine W.eq (g2 := F0 m 31 ls [.int (fitF da x1 y1)]) rfl ?_
        refine lv_if_ne (tgt := 43) hx hb dX12_areSides_31 (by decide) (fun c30 => ?_) (fun c30 => ?_)
        · refine lv_iconst (v := 1) hx hb dX12_areSides_43 (by decide) ?_
          refine lv_goto (tgt := 48) hx hb dX12_areSides_44 (by decide) ?_
          have hz31 : 1 ≤ 1 := (by omega)
          have hz32 : If (1 = 1) (SideP da x1 y1) := (fun _ => (Or.inr ⟨by omega, by omega, Or.inl c30⟩))
          have hP : va_P G.1 pCl (mW G h0 a F (updA B 31 da)) _ := hP
          have hD : va_D A (mW G h0 a F (updA B 31 da)) := mW_D hD
          exact W.zret (v := 1) hx hb hr rfl (fun t9 ht9 hW9 => ⟨⟨_, 1, rfl, ⟨rfl, hz31, hz32⟩, by rw [ht9]; exact hP, hD⟩, hS.F ht9⟩) hS.2.2 dX12_areSides_48
        · refine lv_aload_n hx hb dX12_areSides_34 rfl (lv_at hl 0 rfl) ?_
          refine lv_iload_n hx hb dX12_areSides_35 rfl (lv_at hl 2 rfl) ?_
          refine lv_iload_n hx hb dX12_areSides_36 rfl (lv_at hl 1 rfl) ?_
          have hP : va_P G.1 pCl (mW G h0 a F (updA (updA B 31 da) 31 da)) _ := hP
          have hD : va_D A (mW G h0 a F (updA (updA B 31 da) 31 da)) := mW_D hD
          refine pc_V0 (G := G) (As := [.int (nI y1), .int (nI x1)]) (rest := []) hx hb hml hown hq hE hX pX0_al hP hD hS hA hl.1 (R_fits l G h0 a F (updA B 31 da) y1 x1 dc da ht hs (by omega) hbi) (gV pw_1790 pw_1791 pw_1792 pw_1523 pw_1782) hV_X12_fits 0 9 rfl rfl rfl rfl (Nat.le_of_ble_eq_true rfl) dX12_areSides_37 ⟨Nat.le_of_ble_eq_true rfl, Nat.le_of_ble_eq_true rfl⟩ ⟨Nat.le_of_ble_eq_true rfl, Nat.le_of_ble_eq_true rfl⟩ (fun v35 u33 H locs hw34 hP hD hS => ?_)
          obtain rfl : v35 = some (.int (fitF da y1 x1)) := hw34
          have hP : va_P G.1 pCl (mW G h0 a F (updA B 31 da)) _ := hP
          have hD : va_D A (mW G h0 a F (updA B 31 da)) := mW_D hD
          refine W.widen (k := 0) (n := 0) (Nat.le_of_ble_eq_true rfl) (Nat.le_of_ble_eq_true rfl) ?_
          refine W.eq (g2 := F0 m 40 ls [.int (fitF da y1 x1)]) rfl ?_
          refine lv_if_eq (tgt := 47) hx hb dX12_areSides_40 (by decide) (fun c36 => ?_) (fun c36 => ?_)
          · refine lv_iconst (v := 0) hx hb dX12_areSides_47 (by decide) ?_
            have hz37 : 0 ≤ 1 := (by omega)
            have hz38 : If (0 = 1) (SideP da x1 y1) := (fun e => absurd e (by decide))
            have hP : va_P G.1 pCl (mW G h0 a F (updA B 31 da)) _ := hP
            have hD : va_D A (mW G h0 a F (updA B 31 da)) := mW_D hD
            exact W.zret (v := 0) hx hb hr rfl (fun t9 ht9 hW9 => ⟨⟨_, 0, rfl, ⟨rfl, hz37, hz38⟩, by rw [ht9]; exact hP, hD⟩, hS.F ht9⟩) hS.2.2 dX12_areSides_48
          · refine lv_iconst (v := 1) hx hb dX12_areSides_43 (by decide) ?_
            refine lv_goto (tgt := 48) hx hb dX12_areSides_44 (by decide) ?_
            have hz39 : 1 ≤ 1 := (by omega)
            have hz40 : If (1 = 1) (SideP da x1 y1) := (fun _ => (Or.inr ⟨by omega, by omega, Or.inr c36⟩))
            have hP : va_P G.1 pCl (mW G h0 a F (updA B 31 da)) _ := hP
            have hD : va_D A (mW G h0 a F (updA B 31 da)) := mW_D hD
            exact W.zret (v := 1) hx hb hr rfl (fun t9 ht9 hW9 => ⟨⟨_, 1, rfl, ⟨rfl, hz39, hz40⟩, by rw [ht9]; exact hP, hD⟩, hS.F ht9⟩) hS.2.2 dX12_areSides_48
  · have n41 : ¬ (x1 = 0) := fun h9 => c1 ((nI_eq (a := x1) (b := 0) (by omega) (by omega)).mpr h9)
    refine lv_iload_n hx hb dX12_areSides_4 rfl (lv_at hl 1 rfl) ?_
    refine lv_iload_n hx hb dX12_areSides_5 rfl (lv_at hl 2 rfl) ?_
    refine lv_icmp_eq (tgt := 43) hx hb dX12_areSides_6 (by decide) (fun c42 => ?_) (fun c42 => ?_)
    · have n43 : x1 = y1 := (nI_eq (a := x1) (b := y1) (by omega) (by omega)).mp c42
      refine lv_iconst (v := 1) hx hb dX12_areSides_43 (by decide) ?_
      refine lv_goto (tgt := 48) hx hb dX12_areSides_44 (by decide) ?_
      have hz44 : 1 ≤ 1 := (by omega)
      have hz45 : If (1 = 1) (SideP da x1 y1) := (fun _ => (Or.inl ⟨by omega, by omega⟩))
      have hP : va_P G.1 pCl (mW G h0 a F (updA B 31 da)) _ := hP
      have hD : va_D A (mW G h0 a F (updA B 31 da)) := mW_D hD
      exact W.zret (v := 1) hx hb hr rfl (fun t9 ht9 hW9 => ⟨⟨_, 1, rfl, ⟨rfl, hz44, hz45⟩, by rw [ht9]; exact hP, hD⟩, hS.F ht9⟩) hS.2.2 dX12_areSides_48
    · have n46 : ¬ (x1 = y1) := fun h9 => c42 ((nI_eq (a := x1) (b := y1) (by omega) (by omega)).mpr h9)
      refine lv_aload_n hx hb dX12_areSides_9 rfl (lv_at hl 0 rfl) ?_
      refine lv_iload_n hx hb dX12_areSides_10 rfl (lv_at hl 1 rfl) ?_
      have hP : va_P G.1 pCl (mW G h0 a F (updA B 31 da)) _ := hP
      have hD : va_D A (mW G h0 a F (updA B 31 da)) := mW_D hD
      refine pc_V0 (G := G) (As := [.int (nI x1)]) (rest := []) hx hb hml hown hq hE hX pX0_al hP hD hS hA hl.1 (R_isReference l G h0 a F (updA B 31 da) x1 (by omega)) (gV pw_1783 pw_1784 pw_1785 pw_1523 pw_1779) hV_X12_isReference 0 9 rfl rfl rfl rfl (Nat.le_of_ble_eq_true rfl) dX12_areSides_11 ⟨Nat.le_of_ble_eq_true rfl, Nat.le_of_ble_eq_true rfl⟩ ⟨Nat.le_of_ble_eq_true rfl, Nat.le_of_ble_eq_true rfl⟩ (fun v49 u47 H locs hw48 hP hD hS => ?_)
      obtain ⟨r50, rfl⟩ : ∃ z, z = u47 := ⟨_, rfl⟩
      obtain ⟨hw48, h51, h52, h53⟩ := hw48
      replace h51 : r50 ≤ 1 := h51
      replace h52 : 3 * r50 ≤ x1 := h52
      replace h53 : x1 ≤ 2 + 9000 * r50 := h53
      obtain rfl : v49 = some (.int (nI r50)) := hw48
      have hP : va_P G.1 pCl (mW G h0 a F (updA B 31 da)) _ := hP
      have hD : va_D A (mW G h0 a F (updA B 31 da)) := mW_D hD
      refine W.widen (k := 0) (n := 0) (Nat.le_of_ble_eq_true rfl) (Nat.le_of_ble_eq_true rfl) ?_
      refine W.eq (g2 := F0 m 14 ls [.int (nI r50)]) rfl ?_
      refine lv_if_eq (tgt := 47) hx hb dX12_areSides_14 (by decide) (fun c54 => ?_) (fun c54 => ?_)
      · have n55 : r50 = 0 := (nI_eq (a := r50) (b := 0) (by omega) (by omega)).mp c54
        refine lv_iconst (v := 0) hx hb dX12_areSides_47 (by decide) ?_
        have hz56 : 0 ≤ 1 := (by omega)
        have hz57 : If (0 = 1) (SideP da x1 y1) := (fun e => absurd e (by decide))
        have hP : va_P G.1 pCl (mW G h0 a F (updA B 31 da)) _ := hP
        have hD : va_D A (mW G h0 a F (updA B 31 da)) := mW_D hD
        exact W.zret (v := 0) hx hb hr rfl (fun t9 ht9 hW9 => ⟨⟨_, 0, rfl, ⟨rfl, hz56, hz57⟩, by rw [ht9]; exact hP, hD⟩, hS.F ht9⟩) hS.2.2 dX12_areSides_48
      · have n58 : ¬ (r50 = 0) := fun h9 => c54 ((nI_eq (a := r50) (b := 0) (by omega) (by omega)).mpr h9)
        refine lv_aload_n hx hb dX12_areSides_17 rfl (lv_at hl 0 rfl) ?_
        refine lv_iload_n hx hb dX12_areSides_18 rfl (lv_at hl 2 rfl) ?_
        have hP : va_P G.1 pCl (mW G h0 a F (updA B 31 da)) _ := hP
        have hD : va_D A (mW G h0 a F (updA B 31 da)) := mW_D hD
        refine pc_V0 (G := G) (As := [.int (nI y1)]) (rest := []) hx hb hml hown hq hE hX pX0_al hP hD hS hA hl.1 (R_isReference l G h0 a F (updA B 31 da) y1 (by omega)) (gV pw_1783 pw_1784 pw_1785 pw_1523 pw_1779) hV_X12_isReference 0 9 rfl rfl rfl rfl (Nat.le_of_ble_eq_true rfl) dX12_areSides_19 ⟨Nat.le_of_ble_eq_true rfl, Nat.le_of_ble_eq_true rfl⟩ ⟨Nat.le_of_ble_eq_true rfl, Nat.le_of_ble_eq_true rfl⟩ (fun v61 u59 H locs hw60 hP hD hS => ?_)
        obtain ⟨r62, rfl⟩ : ∃ z, z = u59 := ⟨_, rfl⟩
        obtain ⟨hw60, h63, h64, h65⟩ := hw60
        replace h63 : r62 ≤ 1 := h63
        replace h64 : 3 * r62 ≤ y1 := h64
        replace h65 : y1 ≤ 2 + 9000 * r62 := h65
        obtain rfl : v61 = some (.int (nI r62)) := hw60
        have hP : va_P G.1 pCl (mW G h0 a F (updA B 31 da)) _ := hP
        have hD : va_D A (mW G h0 a F (updA B 31 da)) := mW_D hD
        refine W.widen (k := 0) (n := 0) (Nat.le_of_ble_eq_true rfl) (Nat.le_of_ble_eq_true rfl) ?_
        refine W.eq (g2 := F0 m 22 ls [.int (nI r62)]) rfl ?_
        refine lv_if_eq (tgt := 47) hx hb dX12_areSides_22 (by decide) (fun c66 => ?_) (fun c66 => ?_)
        · have n67 : r62 = 0 := (nI_eq (a := r62) (b := 0) (by omega) (by omega)).mp c66
          refine lv_iconst (v := 0) hx hb dX12_areSides_47 (by decide) ?_
          have hz68 : 0 ≤ 1 := (by omega)
          have hz69 : If (0 = 1) (SideP da x1 y1) := (fun e => absurd e (by decide))
          have hP : va_P G.1 pCl (mW G h0 a F (updA B 31 da)) _ := hP
          have hD : va_D A (mW G h0 a F (updA B 31 da)) := mW_D hD
          exact W.zret (v := 0) hx hb hr rfl (fun t9 ht9 hW9 => ⟨⟨_, 0, rfl, ⟨rfl, hz68, hz69⟩, by rw [ht9]; exact hP, hD⟩, hS.F ht9⟩) hS.2.2 dX12_areSides_48
        · have n70 : ¬ (r62 = 0) := fun h9 => c66 ((nI_eq (a := r62) (b := 0) (by omega) (by omega)).mpr h9)
          refine lv_aload_n hx hb dX12_areSides_25 rfl (lv_at hl 0 rfl) ?_
          refine lv_iload_n hx hb dX12_areSides_26 rfl (lv_at hl 1 rfl) ?_
          refine lv_iload_n hx hb dX12_areSides_27 rfl (lv_at hl 2 rfl) ?_
          have hP : va_P G.1 pCl (mW G h0 a F (updA (updA B 31 da) 31 da)) _ := hP
          have hD : va_D A (mW G h0 a F (updA (updA B 31 da) 31 da)) := mW_D hD
          refine pc_V0 (G := G) (As := [.int (nI x1), .int (nI y1)]) (rest := []) hx hb hml hown hq hE hX pX0_al hP hD hS hA hl.1 (R_fits l G h0 a F (updA B 31 da) x1 y1 dc da hs ht (by omega) hbi) (gV pw_1790 pw_1791 pw_1792 pw_1523 pw_1782) hV_X12_fits 0 9 rfl rfl rfl rfl (Nat.le_of_ble_eq_true rfl) dX12_areSides_28 ⟨Nat.le_of_ble_eq_true rfl, Nat.le_of_ble_eq_true rfl⟩ ⟨Nat.le_of_ble_eq_true rfl, Nat.le_of_ble_eq_true rfl⟩ (fun v73 u71 H locs hw72 hP hD hS => ?_)
          obtain rfl : v73 = some (.int (fitF da x1 y1)) := hw72
          have hP : va_P G.1 pCl (mW G h0 a F (updA B 31 da)) _ := hP
          have hD : va_D A (mW G h0 a F (updA B 31 da)) := mW_D hD
          refine W.widen (k := 0) (n := 0) (Nat.le_of_ble_eq_true rfl) (Nat.le_of_ble_eq_true rfl) ?_
          refine W.eq (g2 := F0 m 31 ls [.int (fitF da x1 y1)]) rfl ?_
          refine lv_if_ne (tgt := 43) hx hb dX12_areSides_31 (by decide) (fun c74 => ?_) (fun c74 => ?_)
          · refine lv_iconst (v := 1) hx hb dX12_areSides_43 (by decide) ?_
            refine lv_goto (tgt := 48) hx hb dX12_areSides_44 (by decide) ?_
            have hz75 : 1 ≤ 1 := (by omega)
            have hz76 : If (1 = 1) (SideP da x1 y1) := (fun _ => (Or.inr ⟨by omega, by omega, Or.inl c74⟩))
            have hP : va_P G.1 pCl (mW G h0 a F (updA B 31 da)) _ := hP
            have hD : va_D A (mW G h0 a F (updA B 31 da)) := mW_D hD
            exact W.zret (v := 1) hx hb hr rfl (fun t9 ht9 hW9 => ⟨⟨_, 1, rfl, ⟨rfl, hz75, hz76⟩, by rw [ht9]; exact hP, hD⟩, hS.F ht9⟩) hS.2.2 dX12_areSides_48
          · refine lv_aload_n hx hb dX12_areSides_34 rfl (lv_at hl 0 rfl) ?_
            refine lv_iload_n hx hb dX12_areSides_35 rfl (lv_at hl 2 rfl) ?_
            refine lv_iload_n hx hb dX12_areSides_36 rfl (lv_at hl 1 rfl) ?_
            have hP : va_P G.1 pCl (mW G h0 a F (updA (updA B 31 da) 31 da)) _ := hP
            have hD : va_D A (mW G h0 a F (updA (updA B 31 da) 31 da)) := mW_D hD
            refine pc_V0 (G := G) (As := [.int (nI y1), .int (nI x1)]) (rest := []) hx hb hml hown hq hE hX pX0_al hP hD hS hA hl.1 (R_fits l G h0 a F (updA B 31 da) y1 x1 dc da ht hs (by omega) hbi) (gV pw_1790 pw_1791 pw_1792 pw_1523 pw_1782) hV_X12_fits 0 9 rfl rfl rfl rfl (Nat.le_of_ble_eq_true rfl) dX12_areSides_37 ⟨Nat.le_of_ble_eq_true rfl, Nat.le_of_ble_eq_true rfl⟩ ⟨Nat.le_of_ble_eq_true rfl, Nat.le_of_ble_eq_true rfl⟩ (fun v79 u77 H locs hw78 hP hD hS => ?_)
            obtain rfl : v79 = some (.int (fitF da y1 x1)) := hw78
            have hP : va_P G.1 pCl (mW G h0 a F (updA B 31 da)) _ := hP
            have hD : va_D A (mW G h0 a F (updA B 31 da)) := mW_D hD
            refine W.widen (k := 0) (n := 0) (Nat.le_of_ble_eq_true rfl) (Nat.le_of_ble_eq_true rfl) ?_
            refine W.eq (g2 := F0 m 40 ls [.int (fitF da y1 x1)]) rfl ?_
            refine lv_if_eq (tgt := 47) hx hb dX12_areSides_40 (by decide) (fun c80 => ?_) (fun c80 => ?_)
            · refine lv_iconst (v := 0) hx hb dX12_areSides_47 (by decide) ?_
              have hz81 : 0 ≤ 1 := (by omega)
              have hz82 : If (0 = 1) (SideP da x1 y1) := (fun e => absurd e (by decide))
              have hP : va_P G.1 pCl (mW G h0 a F (updA B 31 da)) _ := hP
              have hD : va_D A (mW G h0 a F (updA B 31 da)) := mW_D hD
              exact W.zret (v := 0) hx hb hr rfl (fun t9 ht9 hW9 => ⟨⟨_, 0, rfl, ⟨rfl, hz81, hz82⟩, by rw [ht9]; exact hP, hD⟩, hS.F ht9⟩) hS.2.2 dX12_areSides_48
            · refine lv_iconst (v := 1) hx hb dX12_areSides_43 (by decide) ?_
              refine lv_goto (tgt := 48) hx hb dX12_areSides_44 (by decide) ?_
              have hz83 : 1 ≤ 1 := (by omega)
              have hz84 : If (1 = 1) (SideP da x1 y1) := (fun _ => (Or.inr ⟨by omega, by omega, Or.inr c80⟩))
              have hP : va_P G.1 pCl (mW G h0 a F (updA B 31 da)) _ := hP
              have hD : va_D A (mW G h0 a F (updA B 31 da)) := mW_D hD
              exact W.zret (v := 1) hx hb hr rfl (fun t9 ht9 hW9 => ⟨⟨_, 1, rfl, ⟨rfl, hz83, hz84⟩, by rw [ht9]; exact hP, hD⟩, hS.F ht9⟩) hS.2.2 dX12_areSides_48
