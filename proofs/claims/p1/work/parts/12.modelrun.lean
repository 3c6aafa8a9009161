/-- which exception run throws without a program: 1 IllegalArgument, 2 IllegalState -/
def rk (x y : Int32) : Int32 := if isin x 0 20000 = 0 then 1 else if isin y 10 3000 = 0 then 1 else 2
theorem dX12_run_0 : decode cX12_run 0 = .ok (.aload_n 0, 1) := by decide +kernel
theorem dX12_run_1 : decode cX12_run 1 = .ok (.iload_n 1, 1) := by decide +kernel
theorem dX12_run_2 : decode cX12_run 2 = .ok (.iconst 0, 1) := by decide +kernel
theorem dX12_run_3 : decode cX12_run 3 = .ok (.sipush 20000, 3) := by decide +kernel
theorem dX12_run_6 : decode cX12_run 6 = .ok (.invokestatic 261, 3) := by decide +kernel
theorem dX12_run_9 : decode cX12_run 9 = .ok (.ifCond .eq 30, 3) := by decide +kernel
theorem dX12_run_39 : decode cX12_run 39 = .ok (.iconst 1, 1) := by decide +kernel
theorem dX12_run_40 : decode cX12_run 40 = .ok (.putfield 252, 3) := by decide +kernel
theorem dX12_run_43 : decode cX12_run 43 = .ok (.aload_n 0, 1) := by decide +kernel
theorem dX12_run_44 : decode cX12_run 44 = .ok (.getfield 252, 3) := by decide +kernel
theorem dX12_run_47 : decode cX12_run 47 = .ok (.ifCond .le 5, 3) := by decide +kernel
theorem dX12_run_50 : decode cX12_run 50 = .ok (.iconst 0, 1) := by decide +kernel
theorem dX12_run_51 : decode cX12_run 51 = .ok (.ireturn, 1) := by decide +kernel
theorem dX12_run_12 : decode cX12_run 12 = .ok (.iload_n 2, 1) := by decide +kernel
theorem dX12_run_13 : decode cX12_run 13 = .ok (.bipush 10, 2) := by decide +kernel
theorem dX12_run_15 : decode cX12_run 15 = .ok (.sipush 3000, 3) := by decide +kernel
theorem dX12_run_18 : decode cX12_run 18 = .ok (.invokestatic 261, 3) := by decide +kernel
theorem dX12_run_21 : decode cX12_run 21 = .ok (.ifCond .eq 18, 3) := by decide +kernel
theorem dX12_run_24 : decode cX12_run 24 = .ok (.aload_n 0, 1) := by decide +kernel
theorem dX12_run_25 : decode cX12_run 25 = .ok (.getfield 649, 3) := by decide +kernel
theorem dX12_run_28 : decode cX12_run 28 = .ok (.ifCond .eq 7, 3) := by decide +kernel
theorem dX12_run_35 : decode cX12_run 35 = .ok (.iconst 2, 1) := by decide +kernel
theorem dX12_run_36 : decode cX12_run 36 = .ok (.goto 4, 3) := by decide +kernel
set_option maxHeartbeats 1000000 in
set_option maxRecDepth 100000 in
/-- run of the reference without a program: it tells which exception is due -/
theorem m_run (l : Launch) (G : pT) (h0 : Nat) (a : Nat → Nat) (x : Int32) (y : Int32) : PM l G pX0 yX12_run cX12_run 5 (some .int) ({ frames := 3, cells := 0, slots := 0, locals := 82 }) [.ref h0, .int x, .int y] [(h0, .inr (9, (mF a)))] (fun (v : Option Value) (u : Unit) => v = some (.int 0)) (fun u => [(h0, .inr (9, ((mF a).set 0 (.int (rk x y)))))]) := by
  intro sz
  refine Met.ofW (cc := cX12_run) (maxL := 5) (ret := (some .int)) (by decide) rfl ?_
  intro p e s m args below meth c s₁ B hml hv
  obtain ⟨rfl, hsz, hP, hD0, hE, hX⟩ := hv
  have hx := B.exec
  have hb := B.bytes
  have hr := B.returns
  have hts := atoms_spec (ws := Cond.code yX12_run cX12_run 5 (some .int) :: pw) B.pre
  have hq : ∀ w ∈ pw, w.before _ s = true := fun w h => hts w (List.mem_cons_of_mem _ h)
  have hown : s.vm.findClass RX12 = some m.cls := findClass_of_methodNamed B.named
  have hlocks := B.notSynchronized
  subst hsz
  have hD := hD0.self (sz := s.heap.size)
  have hA : ∀ q : Nat, s.heap.size ≤ q → va_A [(h0, .inr (9, (mF a)))] s.heap.size q := fun q h => Or.inr h
  have hP : va_P G.1 pCl [(h0, .inr (9, (mF a)))] s.heap := hP
  generalize va_A [(h0, .inr (9, (mF a)))] s.heap.size = A at hD hE hA ⊢
  have hS : va_S A s.heap s.heap [] := va_S.rf
  have hl := lv_entry ([.ref h0, .int x, .int y]) (n := 5) (Nat.le_of_ble_eq_true rfl)
  rw [lg_entry_eq]
  generalize (lg_sl ([.ref h0, .int x, .int y]) ++ List.replicate (5 - (lg_sl ([.ref h0, .int x, .int y])).length) Slot.unset).toArray = ls at hl ⊢
  have hl : lv_has ls 5 [(0, .ref h0), (1, .int x), (2, .int y)] := hl
  obtain ⟨fs, ef⟩ : ∃ z : List Value, z = (mF a) := ⟨_, rfl⟩
  have hn : fs.length = 134 := by rw [ef]; rfl
  have hP : va_P G.1 pCl [(h0, .inr (9, fs))] s.heap := by rw [ef]; exact hP
  have hD : va_D A [(h0, .inr (9, fs))] := by rw [ef]; exact hD
  refine lv_aload_n hx hb dX12_run_0 rfl (lv_at hl 0 rfl) ?_
  refine lv_iload_n hx hb dX12_run_1 rfl (lv_at hl 1 rfl) ?_
  refine lv_iconst (v := 0) hx hb dX12_run_2 (by decide) ?_
  refine lv_sipush (v := 20000) hx hb dX12_run_3 (by decide) ?_
  refine pc_S (G := G) (As := [.int x, .int 0, .int 20000]) (rest := [.ref h0]) (wr := [(h0, .inr (9, fs))]) hx hb hml hown hq hE hX pX0_al hP hD hS hA hl.1 (m_in l G x 0 20000) (gS pw_297 pw_522 pw_517 pw_521) hS_X12_in [] [0] rfl rfl (by decide) (by decide) (by decide) rfl (Nat.le_of_ble_eq_true rfl) dX12_run_6 ⟨Nat.le_of_ble_eq_true rfl, Nat.le_of_ble_eq_true rfl⟩ ⟨Nat.le_of_ble_eq_true rfl, Nat.le_of_ble_eq_true rfl⟩ (fun v3 u1 H locs hw2 hP hD hS => ?_)
  obtain rfl : v3 = some (.int (isin x 0 20000)) := hw2
  have hP : va_P G.1 pCl [(h0, .inr (9, fs))] H := hP
  have hD : va_D A [(h0, .inr (9, fs))] := hD
  refine W.widen (k := 0) (n := 0) (Nat.le_of_ble_eq_true rfl) (Nat.le_of_ble_eq_true rfl) ?_
  refine W.eq (g2 := F0 m 9 ls [.int (isin x 0 20000), .ref h0]) rfl ?_
  refine lv_if_eq (tgt := 39) hx hb dX12_run_9 (by decide) (fun c4 => ?_) (fun c4 => ?_)
  · refine lv_iconst (v := 1) hx hb dX12_run_39 (by decide) ?_
    refine va_put (D := G.1) (ci := 9) (v := .int 1) (ty := .int) (C := RX12) (T := TX12) (N := 134) hx hb hq pin_wsX120 tyX12 tyX12_ok nmX12 hown hE.1.1 hP hD hS 0 rfl rfl 0 (by decide) (by rw [tFX12_0]; exact hq _ pw_259) (fun _ h9 => h9) (by rw [tFX12_0]) (by rw [tFX12_0]; decide +kernel) rfl rfl (by rw [hn]; decide) dX12_run_40 (fun H locs hP hD hS => ?_)
    obtain ⟨fs5, e6⟩ : ∃ z : List Value, z = fs.set 0 (.int 1) := ⟨_, rfl⟩
    have hn7 : fs5.length = 134 := by rw [e6, List.length_set]; exact hn
    have hP : va_P G.1 pCl [(h0, .inr (9, fs5))] H := by rw [e6]; exact hP
    have hD : va_D A [(h0, .inr (9, fs5))] := by rw [e6]; exact hD
    refine lv_aload_n hx hb dX12_run_43 rfl (lv_at hl 0 rfl) ?_
    refine va_get (D := G.1) (ci := 9) (v := .int 1) (C := RX12) (T := TX12) (N := 134) hx hb hq pin_wsX120 hown hE.1.1 hP 0 rfl rfl 0 (by decide) (by rw [tFX12_0]; exact hq _ pw_259) (fun _ h9 => h9) (by rw [e6]; exact List.getElem?_set_self (by rw [hn]; decide)) dX12_run_44 ?_
    refine lv_if_le (tgt := 52) hx hb dX12_run_47 (by decide) (fun c8 => absurd c8 (by decide)) (fun c8 => ?_)
    refine lv_iconst (v := 0) hx hb dX12_run_50 (by decide) ?_
    have hrk : rk x y = 1 := by unfold rk; rw [if_pos c4]
    rw [e6, ef, ← hrk] at hP hD
    refine W.widen (k := 0) (n := 0) (Nat.le_of_ble_eq_true rfl) (Nat.le_of_ble_eq_true rfl) ?_
    exact W.iret (v := 0) hx hb hr (fun t ht hW => ⟨⟨_, (), rfl, rfl, by rw [ht]; exact hP.sub [0] rfl, hD.sub [0] (by decide) rfl⟩, hS.F ht⟩) hS.2.2 dX12_run_51
  · refine lv_iload_n hx hb dX12_run_12 rfl (lv_at hl 2 rfl) ?_
    refine lv_bipush (v := 10) hx hb dX12_run_13 (by decide) ?_
    refine lv_sipush (v := 3000) hx hb dX12_run_15 (by decide) ?_
    refine pc_S (G := G) (As := [.int y, .int 10, .int 3000]) (rest := [.ref h0]) (wr := [(h0, .inr (9, fs))]) hx hb hml hown hq hE hX pX0_al hP hD hS hA hl.1 (m_in l G y 10 3000) (gS pw_297 pw_522 pw_517 pw_521) hS_X12_in [] [0] rfl rfl (by decide) (by decide) (by decide) rfl (Nat.le_of_ble_eq_true rfl) dX12_run_18 ⟨Nat.le_of_ble_eq_true rfl, Nat.le_of_ble_eq_true rfl⟩ ⟨Nat.le_of_ble_eq_true rfl, Nat.le_of_ble_eq_true rfl⟩ (fun v11 u9 H locs hw10 hP hD hS => ?_)
    obtain rfl : v11 = some (.int (isin y 10 3000)) := hw10
    have hP : va_P G.1 pCl [(h0, .inr (9, fs))] H := hP
    have hD : va_D A [(h0, .inr (9, fs))] := hD
    refine W.widen (k := 0) (n := 0) (Nat.le_of_ble_eq_true rfl) (Nat.le_of_ble_eq_true rfl) ?_
    refine W.eq (g2 := F0 m 21 ls [.int (isin y 10 3000), .ref h0]) rfl ?_
    refine lv_if_eq (tgt := 39) hx hb dX12_run_21 (by decide) (fun c12 => ?_) (fun c12 => ?_)
    · refine lv_iconst (v := 1) hx hb dX12_run_39 (by decide) ?_
      refine va_put (D := G.1) (ci := 9) (v := .int 1) (ty := .int) (C := RX12) (T := TX12) (N := 134) hx hb hq pin_wsX120 tyX12 tyX12_ok nmX12 hown hE.1.1 hP hD hS 0 rfl rfl 0 (by decide) (by rw [tFX12_0]; exact hq _ pw_259) (fun _ h9 => h9) (by rw [tFX12_0]) (by rw [tFX12_0]; decide +kernel) rfl rfl (by rw [hn]; decide) dX12_run_40 (fun H locs hP hD hS => ?_)
      obtain ⟨fs13, e14⟩ : ∃ z : List Value, z = fs.set 0 (.int 1) := ⟨_, rfl⟩
      have hn15 : fs13.length = 134 := by rw [e14, List.length_set]; exact hn
      have hP : va_P G.1 pCl [(h0, .inr (9, fs13))] H := by rw [e14]; exact hP
      have hD : va_D A [(h0, .inr (9, fs13))] := by rw [e14]; exact hD
      refine lv_aload_n hx hb dX12_run_43 rfl (lv_at hl 0 rfl) ?_
      refine va_get (D := G.1) (ci := 9) (v := .int 1) (C := RX12) (T := TX12) (N := 134) hx hb hq pin_wsX120 hown hE.1.1 hP 0 rfl rfl 0 (by decide) (by rw [tFX12_0]; exact hq _ pw_259) (fun _ h9 => h9) (by rw [e14]; exact List.getElem?_set_self (by rw [hn]; decide)) dX12_run_44 ?_
      refine lv_if_le (tgt := 52) hx hb dX12_run_47 (by decide) (fun c16 => absurd c16 (by decide)) (fun c16 => ?_)
      refine lv_iconst (v := 0) hx hb dX12_run_50 (by decide) ?_
      have hrk : rk x y = 1 := by unfold rk; rw [if_neg c4, if_pos c12]
      rw [e14, ef, ← hrk] at hP hD
      refine W.widen (k := 0) (n := 0) (Nat.le_of_ble_eq_true rfl) (Nat.le_of_ble_eq_true rfl) ?_
      exact W.iret (v := 0) hx hb hr (fun t ht hW => ⟨⟨_, (), rfl, rfl, by rw [ht]; exact hP.sub [0] rfl, hD.sub [0] (by decide) rfl⟩, hS.F ht⟩) hS.2.2 dX12_run_51
    · refine lv_aload_n hx hb dX12_run_24 rfl (lv_at hl 0 rfl) ?_
      refine va_get (D := G.1) (ci := 9) (v := .int 0) (C := RX12) (T := TX12) (N := 134) hx hb hq pin_wsX120 hown hE.1.1 hP 0 rfl rfl 82 (by decide) (by rw [tFX12_82]; exact hq _ pw_284) (fun _ h9 => h9) (by rw [ef]; rfl) dX12_run_25 ?_
      refine lv_if_eq (tgt := 35) hx hb dX12_run_28 (by decide) (fun c17 => ?_) (fun c17 => absurd c17 (by decide))
      refine lv_iconst (v := 2) hx hb dX12_run_35 (by decide) ?_
      refine lv_goto (tgt := 40) hx hb dX12_run_36 (by decide) ?_
      refine va_put (D := G.1) (ci := 9) (v := .int 2) (ty := .int) (C := RX12) (T := TX12) (N := 134) hx hb hq pin_wsX120 tyX12 tyX12_ok nmX12 hown hE.1.1 hP hD hS 0 rfl rfl 0 (by decide) (by rw [tFX12_0]; exact hq _ pw_259) (fun _ h9 => h9) (by rw [tFX12_0]) (by rw [tFX12_0]; decide +kernel) rfl rfl (by rw [hn]; decide) dX12_run_40 (fun H locs hP hD hS => ?_)
      obtain ⟨fs18, e19⟩ : ∃ z : List Value, z = fs.set 0 (.int 2) := ⟨_, rfl⟩
      have hn20 : fs18.length = 134 := by rw [e19, List.length_set]; exact hn
      have hP : va_P G.1 pCl [(h0, .inr (9, fs18))] H := by rw [e19]; exact hP
      have hD : va_D A [(h0, .inr (9, fs18))] := by rw [e19]; exact hD
      refine lv_aload_n hx hb dX12_run_43 rfl (lv_at hl 0 rfl) ?_
      refine va_get (D := G.1) (ci := 9) (v := .int 2) (C := RX12) (T := TX12) (N := 134) hx hb hq pin_wsX120 hown hE.1.1 hP 0 rfl rfl 0 (by decide) (by rw [tFX12_0]; exact hq _ pw_259) (fun _ h9 => h9) (by rw [e19]; exact List.getElem?_set_self (by rw [hn]; decide)) dX12_run_44 ?_
      refine lv_if_le (tgt := 52) hx hb dX12_run_47 (by decide) (fun c21 => absurd c21 (by decide)) (fun c21 => ?_)
      refine lv_iconst (v := 0) hx hb dX12_run_50 (by decide) ?_
      have hrk : rk x y = 2 := by unfold rk; rw [if_neg c4, if_neg c12]
      rw [e19, ef, ← hrk] at hP hD
      refine W.widen (k := 0) (n := 0) (Nat.le_of_ble_eq_true rfl) (Nat.le_of_ble_eq_true rfl) ?_
      exact W.iret (v := 0) hx hb hr (fun t ht hW => ⟨⟨_, (), rfl, rfl, by rw [ht]; exact hP.sub [0] rfl, hD.sub [0] (by decide) rfl⟩, hS.F ht⟩) hS.2.2 dX12_run_51
theorem dX12_thrown_0 : decode cX12_thrown 0 = .ok (.aload_n 0, 1) := by decide +kernel
theorem dX12_thrown_1 : decode cX12_thrown 1 = .ok (.getfield 252, 3) := by decide +kernel
theorem dX12_thrown_4 : decode cX12_thrown 4 = .ok (.ireturn, 1) := by decide +kernel
set_option maxHeartbeats 1000000 in
set_option maxRecDepth 100000 in
/-- thrown() of the reference -/
theorem m_thrown0 (l : Launch) (G : pT) (h0 : Nat) (a : Nat → Nat) (t : Int32) : PM l G pX0 yX12_thrown cX12_thrown 1 (some .int) ({ frames := 2, cells := 0, slots := 0, locals := 60 }) [.ref h0] [(h0, .inr (9, ((mF a).set 0 (.int t))))] (fun (v : Option Value) (u : Unit) => v = some (.int t)) (fun u => []) := by
  intro sz
  refine Met.ofW (cc := cX12_thrown) (maxL := 1) (ret := (some .int)) (by decide) rfl ?_
  intro p e s m args below meth c s₁ B hml hv
  obtain ⟨rfl, hsz, hP, hD0, hE, hX⟩ := hv
  have hx := B.exec
  have hb := B.bytes
  have hr := B.returns
  have hts := atoms_spec (ws := Cond.code yX12_thrown cX12_thrown 1 (some .int) :: pw) B.pre
  have hq : ∀ w ∈ pw, w.before _ s = true := fun w h => hts w (List.mem_cons_of_mem _ h)
  have hown : s.vm.findClass RX12 = some m.cls := findClass_of_methodNamed B.named
  have hlocks := B.notSynchronized
  subst hsz
  have hD := hD0.self (sz := s.heap.size)
  have hA : ∀ q : Nat, s.heap.size ≤ q → va_A [(h0, .inr (9, ((mF a).set 0 (.int t))))] s.heap.size q := fun q h => Or.inr h
  have hP : va_P G.1 pCl [(h0, .inr (9, ((mF a).set 0 (.int t))))] s.heap := hP
  generalize va_A [(h0, .inr (9, ((mF a).set 0 (.int t))))] s.heap.size = A at hD hE hA ⊢
  have hS : va_S A s.heap s.heap [] := va_S.rf
  have hl := lv_entry ([.ref h0]) (n := 1) (Nat.le_of_ble_eq_true rfl)
  rw [lg_entry_eq]
  generalize (lg_sl ([.ref h0]) ++ List.replicate (1 - (lg_sl ([.ref h0])).length) Slot.unset).toArray = ls at hl ⊢
  have hl : lv_has ls 1 [(0, .ref h0)] := hl
  obtain ⟨fs, ef⟩ : ∃ z : List Value, z = ((mF a).set 0 (.int t)) := ⟨_, rfl⟩
  have hn : fs.length = 134 := by rw [ef]; rfl
  have hP : va_P G.1 pCl [(h0, .inr (9, fs))] s.heap := by rw [ef]; exact hP
  have hD : va_D A [(h0, .inr (9, fs))] := by rw [ef]; exact hD
  refine lv_aload_n hx hb dX12_thrown_0 rfl (lv_at hl 0 rfl) ?_
  refine va_get (D := G.1) (ci := 9) (v := .int t) (C := RX12) (T := TX12) (N := 134) hx hb hq pin_wsX120 hown hE.1.1 hP 0 rfl rfl 0 (by decide) (by rw [tFX12_0]; exact hq _ pw_259) (fun _ h9 => h9) (by rw [ef]; rfl) dX12_thrown_1 ?_
  refine W.widen (k := 0) (n := 0) (Nat.le_of_ble_eq_true rfl) (Nat.le_of_ble_eq_true rfl) ?_
  exact W.iret (v := t) hx hb hr (fun t ht hW => ⟨⟨_, (), rfl, rfl, by rw [ht]; exact hP.sub [] rfl, hD.sub [] (by decide) rfl⟩, hS.F ht⟩) hS.2.2 dX12_thrown_4
