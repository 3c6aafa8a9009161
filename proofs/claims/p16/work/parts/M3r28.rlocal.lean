theorem dX12_local_31 : decode cX12_local 31 = .ok (.aload_n 0, 1) := by decide +kernel
theorem dX12_local_32 : decode cX12_local 32 = .ok (.getfield 50, 3) := by decide +kernel
theorem dX12_local_35 : decode cX12_local 35 = .ok (.iload 4, 2) := by decide +kernel
theorem dX12_local_37 : decode cX12_local 37 = .ok (.aload_n 0, 1) := by decide +kernel
theorem dX12_local_38 : decode cX12_local 38 = .ok (.invokevirtual 447, 3) := by decide +kernel
theorem dX12_local_41 : decode cX12_local 41 = .ok (.iastore, 1) := by decide +kernel
set_option maxHeartbeats 2000000 in
set_option maxRecDepth 100000 in
/-- local(first), no fault ahead -/
theorem RT_local (l : Launch) (G : pT) (h0 : Nat) (a : Nat → Nat) (F : Nat → Int32) (B : Nat → Nat → Int32) (at0 : Nat) (T : Nat) (n : Nat) (ne : Nat) (nd : Nat) (wr : Nat) (lk : Nat) (K : Nat → Int32) (fi : Nat) (hat : at0 ≤ T) (hT : T ≤ 5000) (hK : K T = 0 ∨ K T = 3) (hne : ne ≤ 20) (hnd : nd ≤ 2 * at0) (hwr : wr ≤ at0) (hlk : lk ≤ 60) (hy : tkRow (B 19) wr T) (hn : 21 ≤ n + ne) (hfi : fi ≤ T) (hEc : Pchoice l G n) : PM l G pX0 yX12_local cX12_local 5 (some .int) ({ frames := (26 * n + 30), cells := 0, slots := 0, locals := (2000 * n + 3000) }) [.ref h0, .int (nI fi)] (mW G h0 a (upd (upd (upd (upd (upd (upd F 15 0) 27 (nI nd)) 31 (nI wr)) 64 (nI at0)) 65 (nI ne)) 66 (nI lk)) (updA B 2 K)) (fun (v : Option Value) (u : Nat × Nat × Int32 × Nat × Nat × Nat × Nat × (Nat → Nat → Int32)) => v = some (.int (nI u.2.2.2.2.2.2.1)) ∧ (at0 ≤ u.1) ∧ (u.1 ≤ T) ∧ (u.2.1 ≤ 100) ∧ (nd ≤ u.2.2.2.1) ∧ (u.2.2.2.1 + 2 * at0 ≤ nd + 2 * u.1 + 100000 * u.2.1) ∧ (u.2.2.2.1 + 2 * at0 ≤ nd + 2 * u.1 + (40 * (21 - ne) + 5)) ∧ (wr ≤ u.2.2.2.2.2.1) ∧ (u.2.2.2.2.2.1 + at0 ≤ wr + u.1) ∧ (lk ≤ u.2.2.2.2.1) ∧ (u.2.2.2.2.1 ≤ 60 + 100 * u.2.1) ∧ (at0 + 1 ≤ u.1 + u.2.1) ∧ (u.2.2.2.2.2.2.1 ≤ u.2.2.2.1) ∧ (Kp B u.2.2.2.2.2.2.2 u.2.2.2.2.2.1 T) ∧ (If (u.2.1 = 0) (Low B u.2.2.2.2.2.2.2 nd wr ∧ Frs K T u.2.2.2.2.2.1 u.2.2.2.2.2.2.2 nd u.2.2.2.1 20000 [(u.2.2.2.2.2.2.1, 280)] ∧ kcl 7 (u.2.2.2.2.2.2.2 9 u.2.2.2.2.2.2.1) = true))) (fun u => (mW G h0 a (upd (upd (upd (upd (upd (upd (upd F 15 (nI u.2.1)) 16 u.2.2.1) 27 (nI u.2.2.2.1)) 31 (nI u.2.2.2.2.2.1)) 64 (nI u.1)) 65 (nI ne)) 66 (nI u.2.2.2.2.1)) (updA u.2.2.2.2.2.2.2 2 K))) := by
  intro sz
  refine Met.ofW (cc := cX12_local) (maxL := 5) (ret := (some .int)) (by decide) rfl ?_
  intro p e s m args below meth c s₁ B9 hml hv
  obtain ⟨rfl, hsz, hP, hD0, hE, hX⟩ := hv
  have hx := B9.exec
  have hb := B9.bytes
  have hr := B9.returns
  have hts := atoms_spec (ws := Cond.code yX12_local cX12_local 5 (some .int) :: pw) B9.pre
  have hq : ∀ w ∈ pw, w.before _ s = true := fun w h => hts w (List.mem_cons_of_mem _ h)
  have hown : s.vm.findClass RX12 = some m.cls := findClass_of_methodNamed B9.named
  have hlocks := B9.notSynchronized
  subst hsz
  have hD := hD0.self (sz := s.heap.size)
  have hA : ∀ q : Nat, s.heap.size ≤ q → va_A (mW G h0 a (upd (upd (upd (upd (upd (upd F 15 0) 27 (nI nd)) 31 (nI wr)) 64 (nI at0)) 65 (nI ne)) 66 (nI lk)) (updA B 2 K)) s.heap.size q := fun q h => Or.inr h
  have hP : va_P G.1 pCl (mW G h0 a (upd (upd (upd (upd (upd (upd F 15 0) 27 (nI nd)) 31 (nI wr)) 64 (nI at0)) 65 (nI ne)) 66 (nI lk)) (updA B 2 K)) s.heap := hP
  generalize va_A (mW G h0 a (upd (upd (upd (upd (upd (upd F 15 0) 27 (nI nd)) 31 (nI wr)) 64 (nI at0)) 65 (nI ne)) 66 (nI lk)) (updA B 2 K)) s.heap.size = A at hD hE hA ⊢
  have hS : va_S A s.heap s.heap [] := va_S.rf
  have hl := lv_entry ([.ref h0, .int (nI fi)]) (n := 5) (Nat.le_of_ble_eq_true rfl)
  rw [lg_entry_eq]
  generalize (lg_sl ([.ref h0, .int (nI fi)]) ++ List.replicate (5 - (lg_sl ([.ref h0, .int (nI fi)])).length) Slot.unset).toArray = ls at hl ⊢
  have hl : lv_has ls 5 [(0, .ref h0), (1, .int (nI fi))] := hl
  have hkp1 : Kp B B wr T := Kp.rfl hy
  have hlo2 : Low B B nd wr := Low.rfl
  refine lv_aload_n hx hb dX12_local_0 rfl (lv_at hl 0 rfl) ?_
  have hP : va_P G.1 pCl (mW G h0 a (upd (upd (upd (upd (upd (upd (upd (upd (upd F 15 0) 27 (nI nd)) 31 (nI wr)) 64 (nI at0)) 65 (nI ne)) 66 (nI lk)) 15 (nI 0)) 31 (nI wr)) 64 (nI at0)) (updA (updA (updA B 2 K) 2 K) 19 (B 19))) _ := mW_to (F := F) (l1 := [(15, 0), (27, (nI nd)), (31, (nI wr)), (64, (nI at0)), (65, (nI ne)), (66, (nI lk))]) (l2 := [(15, 0), (27, (nI nd)), (31, (nI wr)), (64, (nI at0)), (65, (nI ne)), (66, (nI lk)), (15, (nI 0)), (31, (nI wr)), (64, (nI at0))]) (V := [(nI 0), (nI nd), (nI wr), (nI at0), (nI ne), (nI lk), (nI 0), (nI nd), (nI wr), (nI at0), (nI ne), (nI lk), (nI 0), (nI wr), (nI at0)]) rfl rfl (show (updA B 2 K) = (updA (updA (updA B 2 K) 2 K) 19 (B 19)) from updsA_eq2 (F := B) (l1 := [(2, K)]) (l2 := [(2, K), (2, K), (19, (B 19))]) (V := [K, K, K, (B 19)]) rfl rfl) hP
  have hD : va_D A (mW G h0 a (upd (upd (upd (upd (upd (upd (upd (upd (upd F 15 0) 27 (nI nd)) 31 (nI wr)) 64 (nI at0)) 65 (nI ne)) 66 (nI lk)) 15 (nI 0)) 31 (nI wr)) 64 (nI at0)) (updA (updA (updA B 2 K) 2 K) 19 (B 19))) := mW_D hD
  refine pc_V0 (G := G) (As := []) (rest := []) hx hb hml hown hq hE hX pX0_al hP hD hS hA hl.1 (R_typeHere l G h0 a (upd (upd (upd (upd (upd (upd F 15 0) 27 (nI nd)) 31 (nI wr)) 64 (nI at0)) 65 (nI ne)) 66 (nI lk)) (updA B 2 K) at0 T 0 K wr (B 19) (by omega) (by omega) hK (by omega) (by omega) (hkp1).2) (gV pw_1670 pw_1671 pw_1672 pw_1523 pw_1633) hV_X12_typeHere 0 9 rfl rfl rfl rfl (Nat.le_of_ble_eq_true rfl) dX12_local_1 ⟨Nat.le_of_ble_eq_true rfl, Nat.le_of_ble_eq_true rfl⟩ ⟨(by show 5 + 1 ≤ (26 * n + 30); omega), (by show 8 + (2 + 11) + 124 ≤ (2000 * n + 3000); omega)⟩ (fun v5 u3 H locs hw4 hP hD hS => ?_)
  obtain ⟨at6, fa7, pl8, wr9, r10, yt11, yr12⟩ := u3
  obtain ⟨hw4, h13, h14, h15, h16, h17, h18, h19, h20, h21, h22, h23, h24, h25, h26⟩ := hw4
  have h13 : at0 ≤ at6 := h13
  have h14 : at6 ≤ T := h14
  have h15 : 0 ≤ fa7 := h15
  have h16 : fa7 ≤ 100 := h16
  have h17 : If (0 < 0) (at6 = at0 ∧ fa7 = 0) := h17
  have h18 : wr ≤ wr9 := h18
  have h19 : wr9 + at0 ≤ wr + at6 := h19
  have h20 : If (0 < 0) (wr9 = wr) := h20
  have h21 : r10 + 1 ≤ wr9 + 6000 * fa7 := h21
  have h22 : at0 + 1 ≤ at6 + fa7 := h22
  have h23 : tkRow yt11 wr9 T := h23
  have h24 : ∀ i : Nat, i < wr → yt11 i = (B 19) i := h24
  have h25 : ∀ i : Nat, i < wr → yr12 i = (B 20) i := h25
  have h26 : r10 ≤ wr := h26
  obtain rfl : v5 = some (.int (nI r10)) := hw4
  have hP : va_P G.1 pCl (mW G h0 a (upd (upd (upd (upd (upd (upd (upd F 15 (nI fa7)) 16 pl8) 27 (nI nd)) 31 (nI wr9)) 64 (nI at6)) 65 (nI ne)) 66 (nI lk)) (updA (updA (updA B 2 K) 19 yt11) 20 yr12)) _ := mW_to (F := F) (l1 := [(15, 0), (27, (nI nd)), (31, (nI wr)), (64, (nI at0)), (65, (nI ne)), (66, (nI lk)), (15, (nI fa7)), (16, pl8), (31, (nI wr9)), (64, (nI at6))]) (l2 := [(15, (nI fa7)), (16, pl8), (27, (nI nd)), (31, (nI wr9)), (64, (nI at6)), (65, (nI ne)), (66, (nI lk))]) (V := [(nI fa7), (nI nd), (nI wr9), (nI at6), (nI ne), (nI lk), (nI fa7), pl8, (nI wr9), (nI at6), (nI fa7), pl8, (nI nd), (nI wr9), (nI at6), (nI ne), (nI lk)]) rfl rfl (show (updA (updA (updA (updA B 2 K) 2 K) 19 yt11) 20 yr12) = (updA (updA (updA B 2 K) 19 yt11) 20 yr12) from updsA_eq2 (F := B) (l1 := [(2, K), (2, K), (19, yt11), (20, yr12)]) (l2 := [(2, K), (19, yt11), (20, yr12)]) (V := [K, K, yt11, yr12, K, yt11, yr12]) rfl rfl) hP
  have hD : va_D A (mW G h0 a (upd (upd (upd (upd (upd (upd (upd F 15 (nI fa7)) 16 pl8) 27 (nI nd)) 31 (nI wr9)) 64 (nI at6)) 65 (nI ne)) 66 (nI lk)) (updA (updA (updA B 2 K) 19 yt11) 20 yr12)) := mW_D hD
  refine W.widen (k := 0) (n := 0) (Nat.le_of_ble_eq_true rfl) (Nat.le_of_ble_eq_true rfl) ?_
  refine W.eq (g2 := F0 m 4 ls [.int (nI r10)]) rfl ?_
  have hP : va_P G.1 pCl (mW G h0 a (upd (upd (upd (upd (upd (upd (upd F 15 (nI fa7)) 16 pl8) 27 (nI nd)) 31 (nI wr9)) 64 (nI at6)) 65 (nI ne)) 66 (nI lk)) (updA (updA (updA B 19 yt11) 20 yr12) 2 K)) _ := mW_to (F := F) (l1 := [(15, (nI fa7)), (16, pl8), (27, (nI nd)), (31, (nI wr9)), (64, (nI at6)), (65, (nI ne)), (66, (nI lk))]) (l2 := [(15, (nI fa7)), (16, pl8), (27, (nI nd)), (31, (nI wr9)), (64, (nI at6)), (65, (nI ne)), (66, (nI lk))]) (V := [(nI fa7), pl8, (nI nd), (nI wr9), (nI at6), (nI ne), (nI lk), (nI fa7), pl8, (nI nd), (nI wr9), (nI at6), (nI ne), (nI lk)]) rfl rfl (show (updA (updA (updA B 2 K) 19 yt11) 20 yr12) = (updA (updA (updA B 19 yt11) 20 yr12) 2 K) from updsA_eq2 (F := B) (l1 := [(2, K), (19, yt11), (20, yr12)]) (l2 := [(19, yt11), (20, yr12), (2, K)]) (V := [K, yt11, yr12, yt11, yr12, K]) rfl rfl) hP
  have hD : va_D A (mW G h0 a (upd (upd (upd (upd (upd (upd (upd F 15 (nI fa7)) 16 pl8) 27 (nI nd)) 31 (nI wr9)) 64 (nI at6)) 65 (nI ne)) 66 (nI lk)) (updA (updA (updA B 19 yt11) 20 yr12) 2 K)) := mW_D hD
  have hkp27 : Kp B (updA (updA B 19 yt11) 20 yr12) wr9 T := (Kp.y hkp1 h23)
  rcases Nat.eq_zero_or_pos fa7 with e28 | e28
  · subst e28
    have hP : va_P G.1 pCl (mW G h0 a (upd (upd (upd (upd (upd (upd (upd F 15 0) 16 pl8) 27 (nI nd)) 31 (nI wr9)) 64 (nI at6)) 65 (nI ne)) 66 (nI lk)) (updA (updA (updA B 19 yt11) 20 yr12) 2 K)) _ := hP
    have hD : va_D A (mW G h0 a (upd (upd (upd (upd (upd (upd (upd F 15 0) 16 pl8) 27 (nI nd)) 31 (nI wr9)) 64 (nI at6)) 65 (nI ne)) 66 (nI lk)) (updA (updA (updA B 19 yt11) 20 yr12) 2 K)) := mW_D hD
    have hlo29 : Low B (updA (updA B 19 yt11) 20 yr12) nd wr := (Low.y hlo2 (fun i z => h24 i (by omega)) (fun i z => h25 i (by omega)))
    refine lv_istore_n (lv' := [(2, .int (nI r10)), (0, .ref h0), (1, .int (nI fi))]) hx hb dX12_local_4 rfl hl (by decide) rfl (fun ls hl => ?_)
    refine lv_aload_n hx hb dX12_local_5 rfl (lv_at hl 1 rfl) ?_
    have hP : va_P G.1 pCl (mW G h0 a (upd (upd (upd (upd (upd (upd (upd (upd (upd F 15 0) 16 pl8) 27 (nI nd)) 31 (nI wr9)) 64 (nI at6)) 65 (nI ne)) 66 (nI lk)) 15 (nI 0)) 64 (nI at6)) (updA (updA (updA (updA B 19 yt11) 20 yr12) 2 K) 2 K)) _ := mW_to (F := F) (l1 := [(15, 0), (16, pl8), (27, (nI nd)), (31, (nI wr9)), (64, (nI at6)), (65, (nI ne)), (66, (nI lk))]) (l2 := [(15, 0), (16, pl8), (27, (nI nd)), (31, (nI wr9)), (64, (nI at6)), (65, (nI ne)), (66, (nI lk)), (15, (nI 0)), (64, (nI at6))]) (V := [(nI 0), pl8, (nI nd), (nI wr9), (nI at6), (nI ne), (nI lk), (nI 0), pl8, (nI nd), (nI wr9), (nI at6), (nI ne), (nI lk), (nI 0), (nI at6)]) rfl rfl (show (updA (updA (updA B 19 yt11) 20 yr12) 2 K) = (updA (updA (updA (updA B 19 yt11) 20 yr12) 2 K) 2 K) from updsA_eq2 (F := B) (l1 := [(19, yt11), (20, yr12), (2, K)]) (l2 := [(19, yt11), (20, yr12), (2, K), (2, K)]) (V := [yt11, yr12, K, yt11, yr12, K, K]) rfl rfl) hP
    have hD : va_D A (mW G h0 a (upd (upd (upd (upd (upd (upd (upd (upd (upd F 15 0) 16 pl8) 27 (nI nd)) 31 (nI wr9)) 64 (nI at6)) 65 (nI ne)) 66 (nI lk)) 15 (nI 0)) 64 (nI at6)) (updA (updA (updA (updA B 19 yt11) 20 yr12) 2 K) 2 K)) := mW_D hD
    refine pc_V0 (G := G) (As := []) (rest := []) hx hb hml hown hq hE hX pX0_al hP hD hS hA hl.1 (R_name l G h0 a (upd (upd (upd (upd (upd (upd (upd F 15 0) 16 pl8) 27 (nI nd)) 31 (nI wr9)) 64 (nI at6)) 65 (nI ne)) 66 (nI lk)) (updA (updA (updA B 19 yt11) 20 yr12) 2 K) at6 T 0 K (by omega) (by omega) hK (by omega)) (gV pw_1618 pw_1619 pw_1620 pw_1523 pw_1613) hV_X12_name 0 9 rfl rfl rfl rfl (Nat.le_of_ble_eq_true rfl) dX12_local_6 ⟨Nat.le_of_ble_eq_true rfl, Nat.le_of_ble_eq_true rfl⟩ ⟨(by show 5 + 1 ≤ (26 * n + 30); omega), (by show 8 + (2 + 11) + 124 ≤ (2000 * n + 3000); omega)⟩ (fun v32 u30 H locs hw31 hP hD hS => ?_)
    obtain ⟨at33, fa34, pl35⟩ := u30
    obtain ⟨hw31, h36, h37, h38, h39, h40, h41, h42, h43⟩ := hw31
    have h36 : at6 ≤ at33 := h36
    have h37 : at33 ≤ T := h37
    have h38 : 0 ≤ fa34 := h38
    have h39 : fa34 ≤ 100 := h39
    have h40 : If (0 < 0) (at33 = at6 ∧ fa34 = 0) := h40
    have h41 : at33 ≤ at6 + 1 := h41
    have h42 : at6 + 1 ≤ at33 + fa34 := h42
    have h43 : If (fa34 = 0) (K at6 = 1) := h43
    obtain rfl : v32 = some (.int (nI at6)) := hw31
    have hP : va_P G.1 pCl (mW G h0 a (upd (upd (upd (upd (upd (upd (upd F 15 (nI fa34)) 16 pl35) 27 (nI nd)) 31 (nI wr9)) 64 (nI at33)) 65 (nI ne)) 66 (nI lk)) (updA (updA (updA B 19 yt11) 20 yr12) 2 K)) _ := mW_to (F := F) (l1 := [(15, 0), (16, pl8), (27, (nI nd)), (31, (nI wr9)), (64, (nI at6)), (65, (nI ne)), (66, (nI lk)), (15, (nI fa34)), (16, pl35), (64, (nI at33))]) (l2 := [(15, (nI fa34)), (16, pl35), (27, (nI nd)), (31, (nI wr9)), (64, (nI at33)), (65, (nI ne)), (66, (nI lk))]) (V := [(nI fa34), pl35, (nI nd), (nI wr9), (nI at33), (nI ne), (nI lk), (nI fa34), pl35, (nI at33), (nI fa34), pl35, (nI nd), (nI wr9), (nI at33), (nI ne), (nI lk)]) rfl rfl (show (updA (updA (updA (updA B 19 yt11) 20 yr12) 2 K) 2 K) = (updA (updA (updA B 19 yt11) 20 yr12) 2 K) from updsA_eq2 (F := B) (l1 := [(19, yt11), (20, yr12), (2, K), (2, K)]) (l2 := [(19, yt11), (20, yr12), (2, K)]) (V := [yt11, yr12, K, K, yt11, yr12, K]) rfl rfl) hP
    have hD : va_D A (mW G h0 a (upd (upd (upd (upd (upd (upd (upd F 15 (nI fa34)) 16 pl35) 27 (nI nd)) 31 (nI wr9)) 64 (nI at33)) 65 (nI ne)) 66 (nI lk)) (updA (updA (updA B 19 yt11) 20 yr12) 2 K)) := mW_D hD
    refine W.widen (k := 0) (n := 0) (Nat.le_of_ble_eq_true rfl) (Nat.le_of_ble_eq_true rfl) ?_
    refine W.eq (g2 := F0 m 9 ls [.int (nI at6)]) rfl ?_
    rcases Nat.eq_zero_or_pos fa34 with e44 | e44
    · subst e44
      have hP : va_P G.1 pCl (mW G h0 a (upd (upd (upd (upd (upd (upd (upd F 15 0) 16 pl35) 27 (nI nd)) 31 (nI wr9)) 64 (nI at33)) 65 (nI ne)) 66 (nI lk)) (updA (updA (updA B 19 yt11) 20 yr12) 2 K)) _ := hP
      have hD : va_D A (mW G h0 a (upd (upd (upd (upd (upd (upd (upd F 15 0) 16 pl35) 27 (nI nd)) 31 (nI wr9)) 64 (nI at33)) 65 (nI ne)) 66 (nI lk)) (updA (updA (updA B 19 yt11) 20 yr12) 2 K)) := mW_D hD
      refine lv_istore_n (lv' := [(3, .int (nI at6)), (2, .int (nI r10)), (0, .ref h0), (1, .int (nI fi))]) hx hb dX12_local_9 rfl hl (by decide) rfl (fun ls hl => ?_)
      refine lv_aload_n hx hb dX12_local_10 rfl (lv_at hl 2 rfl) ?_
      refine lv_bipush (v := 30) hx hb dX12_local_11 (by decide) ?_
      refine lv_iload_n hx hb dX12_local_13 rfl (lv_at hl 3 rfl) ?_
      refine lv_iload_n hx hb dX12_local_14 rfl (lv_at hl 0 rfl) ?_
      refine lv_iload_n hx hb dX12_local_15 rfl (lv_at hl 1 rfl) ?_
      refine lv_iconst (v := (-1)) hx hb dX12_local_16 (by decide) ?_
      have hP : va_P G.1 pCl (mW G h0 a (upd (upd (upd (upd (upd (upd (upd (upd F 15 0) 16 pl35) 27 (nI nd)) 31 (nI wr9)) 64 (nI at33)) 65 (nI ne)) 66 (nI lk)) 27 (nI nd)) (updA (updA (updA B 19 yt11) 20 yr12) 2 K)) _ := mW_to (F := F) (l1 := [(15, 0), (16, pl35), (27, (nI nd)), (31, (nI wr9)), (64, (nI at33)), (65, (nI ne)), (66, (nI lk))]) (l2 := [(15, 0), (16, pl35), (27, (nI nd)), (31, (nI wr9)), (64, (nI at33)), (65, (nI ne)), (66, (nI lk)), (27, (nI nd))]) (V := [0, pl35, (nI nd), (nI wr9), (nI at33), (nI ne), (nI lk), 0, pl35, (nI nd), (nI wr9), (nI at33), (nI ne), (nI lk), (nI nd)]) rfl rfl rfl hP
      have hD : va_D A (mW G h0 a (upd (upd (upd (upd (upd (upd (upd (upd F 15 0) 16 pl35) 27 (nI nd)) 31 (nI wr9)) 64 (nI at33)) 65 (nI ne)) 66 (nI lk)) 27 (nI nd)) (updA (updA (updA B 19 yt11) 20 yr12) 2 K)) := mW_D hD
      refine pc_V0 (G := G) (As := [.int 30, .int (nI fi), .int (nI at6), .int (nI r10), .int (-1)]) (rest := []) hx hb hml hown hq hE hX pX0_al hP hD hS hA hl.1 (R_nodeB l G h0 a (upd (upd (upd (upd (upd (upd (upd F 15 0) 16 pl35) 27 (nI nd)) 31 (nI wr9)) 64 (nI at33)) 65 (nI ne)) 66 (nI lk)) (updA (updA B 19 yt11) 20 yr12) 30 (nI fi) (nI at6) (nI r10) (-1) nd K (by omega)) (gV pw_1650 pw_1651 pw_1652 pw_1523 pw_1589) hV_X12_node 0 9 rfl rfl rfl rfl (Nat.le_of_ble_eq_true rfl) dX12_local_17 ⟨Nat.le_of_ble_eq_true rfl, Nat.le_of_ble_eq_true rfl⟩ ⟨(by show 2 + 1 ≤ (26 * n + 30); omega), (by show 8 + (7 + 11) + 60 ≤ (2000 * n + 3000); omega)⟩ (fun v47 u45 H locs hw46 hP hD hS => ?_)
      obtain ⟨X48, rfl⟩ : ∃ z, z = u45 := ⟨_, rfl⟩
      obtain ⟨hw46, h49⟩ := hw46
      have h49 : NewN (updA (updA B 19 yt11) 20 yr12) X48 nd 30 (nI fi) (nI at6) (nI r10) (-1) := h49
      obtain rfl : v47 = some (.int (nI nd)) := hw46
      have hP : va_P G.1 pCl (mW G h0 a (upd (upd (upd (upd (upd (upd (upd F 15 0) 16 pl35) 27 (nI (nd + 1))) 31 (nI wr9)) 64 (nI at33)) 65 (nI ne)) 66 (nI lk)) (updA X48 2 K)) _ := mW_to (F := F) (l1 := [(15, 0), (16, pl35), (27, (nI nd)), (31, (nI wr9)), (64, (nI at33)), (65, (nI ne)), (66, (nI lk)), (27, (nI (nd + 1)))]) (l2 := [(15, 0), (16, pl35), (27, (nI (nd + 1))), (31, (nI wr9)), (64, (nI at33)), (65, (nI ne)), (66, (nI lk))]) (V := [0, pl35, (nI (nd + 1)), (nI wr9), (nI at33), (nI ne), (nI lk), (nI (nd + 1)), 0, pl35, (nI (nd + 1)), (nI wr9), (nI at33), (nI ne), (nI lk)]) rfl rfl rfl hP
      have hD : va_D A (mW G h0 a (upd (upd (upd (upd (upd (upd (upd F 15 0) 16 pl35) 27 (nI (nd + 1))) 31 (nI wr9)) 64 (nI at33)) 65 (nI ne)) 66 (nI lk)) (updA X48 2 K)) := mW_D hD
      refine W.widen (k := 0) (n := 0) (Nat.le_of_ble_eq_true rfl) (Nat.le_of_ble_eq_true rfl) ?_
      refine W.eq (g2 := F0 m 20 ls [.int (nI nd)]) rfl ?_
      have hkp50 : Kp B X48 wr9 T := (Kp.new hkp27 h49)
      have hlo51 : Low B X48 nd wr := (Low.new hlo29 h49 (by omega))
      have hf52 : Frs K T wr9 X48 nd (nd + 1) nd [(nd, 0)] := (Frs.new0 (k := 30) Frs.nil (Nat.le_refl _) (Nat.le_refl _) h49 rfl (by decide) (by decide) (by omega) (by omega) (fun e => absurd e (by decide)) ⟨fun _ => ⟨r10, rfl, by omega⟩, fun e => absurd e (by decide), fun e => absurd (by decide) e⟩ (newOK.m1 (by decide)) (newOK.m1 (by decide)) (newOK.m1 (by decide)))
      have hn53 : Nd X48 nd 30 (nI r10) (-1) (-1) (-1) := (NewN.toNd h49)
      have hf54 : Frs K T wr9 X48 nd (nd + 1) 20000 [(nd, 0)] := (Frs.fin (k := 30) hf52 hn53 rfl (by decide) (fun h => absurd h (by decide)) (fun h => absurd h (by decide)) (fun h => absurd h (by decide)) (fun h => absurd h (by decide)))
      refine lv_istore (lv' := [(4, .int (nI nd)), (3, .int (nI at6)), (2, .int (nI r10)), (0, .ref h0), (1, .int (nI fi))]) hx hb dX12_local_20 hl (by decide) rfl (fun ls hl => ?_)
      refine lv_aload_n hx hb dX12_local_22 rfl (lv_at hl 3 rfl) ?_
      refine lv_bipush (v := 61) hx hb dX12_local_23 (by decide) ?_
      have hP : va_P G.1 pCl (mW G h0 a (upd (upd (upd (upd (upd (upd (upd (upd (upd F 15 0) 16 pl35) 27 (nI (nd + 1))) 31 (nI wr9)) 64 (nI at33)) 65 (nI ne)) 66 (nI lk)) 15 (nI 0)) 64 (nI at33)) (updA (updA X48 2 K) 2 K)) _ := mW_to (F := F) (l1 := [(15, 0), (16, pl35), (27, (nI (nd + 1))), (31, (nI wr9)), (64, (nI at33)), (65, (nI ne)), (66, (nI lk))]) (l2 := [(15, 0), (16, pl35), (27, (nI (nd + 1))), (31, (nI wr9)), (64, (nI at33)), (65, (nI ne)), (66, (nI lk)), (15, (nI 0)), (64, (nI at33))]) (V := [(nI 0), pl35, (nI (nd + 1)), (nI wr9), (nI at33), (nI ne), (nI lk), (nI 0), pl35, (nI (nd + 1)), (nI wr9), (nI at33), (nI ne), (nI lk), (nI 0), (nI at33)]) rfl rfl (show (updA X48 2 K) = (updA (updA X48 2 K) 2 K) from updsA_eq2 (F := X48) (l1 := [(2, K)]) (l2 := [(2, K), (2, K)]) (V := [K, K, K]) rfl rfl) hP
      have hD : va_D A (mW G h0 a (upd (upd (upd (upd (upd (upd (upd (upd (upd F 15 0) 16 pl35) 27 (nI (nd + 1))) 31 (nI wr9)) 64 (nI at33)) 65 (nI ne)) 66 (nI lk)) 15 (nI 0)) 64 (nI at33)) (updA (updA X48 2 K) 2 K)) := mW_D hD
      refine pc_V0 (G := G) (As := [.int 61]) (rest := []) hx hb hml hown hq hE hX pX0_al hP hD hS hA hl.1 (R_may l G h0 a (upd (upd (upd (upd (upd (upd (upd F 15 0) 16 pl35) 27 (nI (nd + 1))) 31 (nI wr9)) 64 (nI at33)) 65 (nI ne)) 66 (nI lk)) (updA X48 2 K) at33 T 0 K 61 (by omega) (by omega) hK (by omega) (by decide) (by decide)) (gV pw_1621 pw_1622 pw_1623 pw_1523 pw_1605) hV_X12_may 0 9 rfl rfl rfl rfl (Nat.le_of_ble_eq_true rfl) dX12_local_25 ⟨Nat.le_of_ble_eq_true rfl, Nat.le_of_ble_eq_true rfl⟩ ⟨(by show 3 + 1 ≤ (26 * n + 30); omega), (by show 8 + (3 + 11) + 81 ≤ (2000 * n + 3000); omega)⟩ (fun v57 u55 H locs hw56 hP hD hS => ?_)
      obtain ⟨at58, r59⟩ := u55
      obtain ⟨hw56, h60, h61, h62, h63, h64, h65⟩ := hw56
      have h60 : r59 ≤ 1 := h60
      have h61 : 0 + 100 * r59 ≤ 100 := h61
      have h62 : at58 = at33 + r59 := h62
      have h63 : at58 ≤ T := h63
      have h64 : If (r59 = 1) (K at33 = 61) := h64
      have h65 : If (r59 = 0) (0 = 0 → ¬ K at33 = 61) := h65
      obtain rfl : v57 = some (.int (nI r59)) := hw56
      have hP : va_P G.1 pCl (mW G h0 a (upd (upd (upd (upd (upd (upd (upd F 15 0) 16 pl35) 27 (nI (nd + 1))) 31 (nI wr9)) 64 (nI at58)) 65 (nI ne)) 66 (nI lk)) (updA X48 2 K)) _ := mW_to (F := F) (l1 := [(15, 0), (16, pl35), (27, (nI (nd + 1))), (31, (nI wr9)), (64, (nI at33)), (65, (nI ne)), (66, (nI lk)), (15, (nI 0)), (64, (nI at58))]) (l2 := [(15, 0), (16, pl35), (27, (nI (nd + 1))), (31, (nI wr9)), (64, (nI at58)), (65, (nI ne)), (66, (nI lk))]) (V := [0, pl35, (nI (nd + 1)), (nI wr9), (nI at58), (nI ne), (nI lk), 0, (nI at58), 0, pl35, (nI (nd + 1)), (nI wr9), (nI at58), (nI ne), (nI lk)]) rfl rfl (show (updA (updA X48 2 K) 2 K) = (updA X48 2 K) from updsA_eq2 (F := X48) (l1 := [(2, K), (2, K)]) (l2 := [(2, K)]) (V := [K, K, K]) rfl rfl) hP
      have hD : va_D A (mW G h0 a (upd (upd (upd (upd (upd (upd (upd F 15 0) 16 pl35) 27 (nI (nd + 1))) 31 (nI wr9)) 64 (nI at58)) 65 (nI ne)) 66 (nI lk)) (updA X48 2 K)) := mW_D hD
      refine W.widen (k := 0) (n := 0) (Nat.le_of_ble_eq_true rfl) (Nat.le_of_ble_eq_true rfl) ?_
      refine W.eq (g2 := F0 m 28 ls [.int (nI r59)]) rfl ?_
      refine lv_if_eq (tgt := 42) hx hb dX12_local_28 (by decide) (fun c66 => ?_) (fun c66 => ?_)
      · have n67 : r59 = 0 := (nI_eq (a := r59) (b := 0) (by omega) (by omega)).mp c66
        refine lv_iload hx hb dX12_local_42 (lv_at hl 0 rfl) ?_
        have hz68 : at0 ≤ at58 := (by omega)
        have hz69 : at58 ≤ T := (by omega)
        have hz70 : 0 ≤ 100 := (by omega)
        have hz71 : nd ≤ (nd + 1) := (by omega)
        have hz72 : (nd + 1) + 2 * at0 ≤ nd + 2 * at58 + 100000 * 0 := (by omega)
        have hz73 : (nd + 1) + 2 * at0 ≤ nd + 2 * at58 + (40 * (21 - ne) + 5) := (by omega)
        have hz74 : wr ≤ wr9 := (by omega)
        have hz75 : wr9 + at0 ≤ wr + at58 := (by omega)
        have hz76 : lk ≤ lk := (by omega)
        have hz77 : lk ≤ 60 + 100 * 0 := (by omega)
        have hz78 : at0 + 1 ≤ at58 + 0 := (by omega)
        have hz79 : nd ≤ (nd + 1) := (by omega)
        have hz80 : Kp B X48 wr9 T := hkp50
        have hz81 : If (0 = 0) (Low B X48 nd wr ∧ Frs K T wr9 X48 nd (nd + 1) 20000 [(nd, 280)] ∧ kcl 7 (X48 9 nd) = true) := (fun _ => ⟨hlo51, Frs.up hf54 (by omega), (by rw [hn53.1]; decide)⟩)
        have hP : va_P G.1 pCl (mW G h0 a (upd (upd (upd (upd (upd (upd (upd F 15 (nI 0)) 16 pl35) 27 (nI (nd + 1))) 31 (nI wr9)) 64 (nI at58)) 65 (nI ne)) 66 (nI lk)) (updA X48 2 K)) _ := mW_to (F := F) (l1 := [(15, 0), (16, pl35), (27, (nI (nd + 1))), (31, (nI wr9)), (64, (nI at58)), (65, (nI ne)), (66, (nI lk))]) (l2 := [(15, (nI 0)), (16, pl35), (27, (nI (nd + 1))), (31, (nI wr9)), (64, (nI at58)), (65, (nI ne)), (66, (nI lk))]) (V := [(nI 0), pl35, (nI (nd + 1)), (nI wr9), (nI at58), (nI ne), (nI lk), (nI 0), pl35, (nI (nd + 1)), (nI wr9), (nI at58), (nI ne), (nI lk)]) rfl rfl rfl hP
        have hD : va_D A (mW G h0 a (upd (upd (upd (upd (upd (upd (upd F 15 (nI 0)) 16 pl35) 27 (nI (nd + 1))) 31 (nI wr9)) 64 (nI at58)) 65 (nI ne)) 66 (nI lk)) (updA X48 2 K)) := mW_D hD
        exact W.iret (v := (nI nd)) hx hb hr (fun t9 ht9 hW9 => ⟨⟨_, (at58, 0, pl35, (nd + 1), lk, wr9, nd, X48), rfl, ⟨rfl, hz68, hz69, hz70, hz71, hz72, hz73, hz74, hz75, hz76, hz77, hz78, hz79, hz80, hz81⟩, by rw [ht9]; exact hP, hD⟩, hS.F ht9⟩) hS.2.2 dX12_local_44
      · have n82 : ¬ (r59 = 0) := fun h9 => c66 ((nI_eq (a := r59) (b := 0) (by omega) (by omega)).mpr h9)
        refine lv_aload_n hx hb dX12_local_31 rfl (lv_at hl 3 rfl) ?_
        refine r_get (v := .ref (a 13)) hx hb hown hq hE hP 21 50 tFX12_21 (by decide) pw_1443 rfl dX12_local_32 ?_
        refine lv_iload hx hb dX12_local_35 (lv_at hl 0 rfl) ?_
        refine lv_aload_n hx hb dX12_local_37 rfl (lv_at hl 3 rfl) ?_
        have hP : va_P G.1 pCl (mW G h0 a (upd (upd (upd (upd (upd (upd (upd (upd (upd (upd (upd (upd (upd F 15 0) 16 pl35) 27 (nI (nd + 1))) 31 (nI wr9)) 64 (nI at58)) 65 (nI ne)) 66 (nI lk)) 15 0) 27 (nI (nd + 1))) 31 (nI wr9)) 64 (nI at58)) 65 (nI ne)) 66 (nI lk)) (updA X48 2 K)) _ := mW_to (F := F) (l1 := [(15, 0), (16, pl35), (27, (nI (nd + 1))), (31, (nI wr9)), (64, (nI at58)), (65, (nI ne)), (66, (nI lk))]) (l2 := [(15, 0), (16, pl35), (27, (nI (nd + 1))), (31, (nI wr9)), (64, (nI at58)), (65, (nI ne)), (66, (nI lk)), (15, 0), (27, (nI (nd + 1))), (31, (nI wr9)), (64, (nI at58)), (65, (nI ne)), (66, (nI lk))]) (V := [0, pl35, (nI (nd + 1)), (nI wr9), (nI at58), (nI ne), (nI lk), 0, pl35, (nI (nd + 1)), (nI wr9), (nI at58), (nI ne), (nI lk), 0, (nI (nd + 1)), (nI wr9), (nI at58), (nI ne), (nI lk)]) rfl rfl rfl hP
        have hD : va_D A (mW G h0 a (upd (upd (upd (upd (upd (upd (upd (upd (upd (upd (upd (upd (upd F 15 0) 16 pl35) 27 (nI (nd + 1))) 31 (nI wr9)) 64 (nI at58)) 65 (nI ne)) 66 (nI lk)) 15 0) 27 (nI (nd + 1))) 31 (nI wr9)) 64 (nI at58)) 65 (nI ne)) 66 (nI lk)) (updA X48 2 K)) := mW_D hD
        refine pc_V0 (G := G) (As := []) (rest := [.int (nI nd), .ref (a 13)]) hx hb hml hown hq hE hX pX0_al hP hD hS hA hl.1 (hEc h0 a (upd (upd (upd (upd (upd (upd (upd F 15 0) 16 pl35) 27 (nI (nd + 1))) 31 (nI wr9)) 64 (nI at58)) 65 (nI ne)) 66 (nI lk)) X48 at58 T ne (nd + 1) wr9 lk K (by omega) (by omega) hK (by omega) (by omega) (by omega) (by omega) (hkp50).2 (by omega)) (gV pw_1640 pw_1641 pw_1642 pw_1523 pw_1656) hV_X12_choice 0 9 rfl rfl rfl rfl (Nat.le_of_ble_eq_true rfl) dX12_local_38 ⟨Nat.le_of_ble_eq_true rfl, Nat.le_of_ble_eq_true rfl⟩ ⟨(by show (20 * n + 27) + 1 ≤ (26 * n + 30); omega), (by show 8 + (4 + 11) + (1000 * n + 40 * 27) ≤ (2000 * n + 3000); omega)⟩ (fun v85 u83 H locs hw84 hP hD hS => ?_)
        obtain ⟨at86, fa87, pl88, nd89, lk90, wr91, r92, X93⟩ := u83
        obtain ⟨hw84, h94, h95, h96, h97, h98, h99, h100, h101, h102, h103, h104, h105, h106, h107⟩ := hw84
        have h94 : at58 ≤ at86 := h94
        have h95 : at86 ≤ T := h95
        have h96 : fa87 ≤ 100 := h96
        have h97 : (nd + 1) ≤ nd89 := h97
        have h98 : nd89 + 2 * at58 ≤ (nd + 1) + 2 * at86 + 100000 * fa87 := h98
        have h99 : nd89 + 2 * at58 ≤ (nd + 1) + 2 * at86 + 40 * (21 - ne) := h99
        have h100 : wr9 ≤ wr91 := h100
        have h101 : wr91 + at58 ≤ wr9 + at86 := h101
        have h102 : lk ≤ lk90 := h102
        have h103 : lk90 ≤ 60 + 100 * fa87 := h103
        have h104 : at58 + 1 ≤ at86 + fa87 := h104
        have h105 : r92 ≤ nd89 := h105
        have h106 : Kp X48 X93 wr91 T := h106
        have h107 : If (fa87 = 0) (Low X48 X93 (nd + 1) wr9 ∧ Frs K T wr91 X93 (nd + 1) nd89 20000 [(r92, (211 + lk90 - (10 * ne + lk)))] ∧ kcl 1 (X93 9 r92) = true) := h107
        obtain rfl : v85 = some (.int (nI r92)) := hw84
        have hP : va_P G.1 pCl (mW G h0 a (upd (upd (upd (upd (upd (upd (upd F 15 (nI fa87)) 16 pl88) 27 (nI nd89)) 31 (nI wr91)) 64 (nI at86)) 65 (nI ne)) 66 (nI lk90)) (updA X93 2 K)) _ := mW_to (F := F) (l1 := [(15, 0), (16, pl35), (27, (nI (nd + 1))), (31, (nI wr9)), (64, (nI at58)), (65, (nI ne)), (66, (nI lk)), (15, (nI fa87)), (16, pl88), (27, (nI nd89)), (31, (nI wr91)), (64, (nI at86)), (65, (nI ne)), (66, (nI lk90))]) (l2 := [(15, (nI fa87)), (16, pl88), (27, (nI nd89)), (31, (nI wr91)), (64, (nI at86)), (65, (nI ne)), (66, (nI lk90))]) (V := [(nI fa87), pl88, (nI nd89), (nI wr91), (nI at86), (nI ne), (nI lk90), (nI fa87), pl88, (nI nd89), (nI wr91), (nI at86), (nI ne), (nI lk90), (nI fa87), pl88, (nI nd89), (nI wr91), (nI at86), (nI ne), (nI lk90)]) rfl rfl rfl hP
        have hD : va_D A (mW G h0 a (upd (upd (upd (upd (upd (upd (upd F 15 (nI fa87)) 16 pl88) 27 (nI nd89)) 31 (nI wr91)) 64 (nI at86)) 65 (nI ne)) 66 (nI lk90)) (updA X93 2 K)) := mW_D hD
        refine W.widen (k := 0) (n := 0) (Nat.le_of_ble_eq_true rfl) (Nat.le_of_ble_eq_true rfl) ?_
        refine W.eq (g2 := F0 m 41 ls [.int (nI r92), .int (nI nd), .ref (a 13)]) rfl ?_
        have hkp108 : Kp B X93 wr91 T := (Kp.trans hkp50 h106)
        rcases Nat.eq_zero_or_pos fa87 with e109 | e109
        · subst e109
          have hP : va_P G.1 pCl (mW G h0 a (upd (upd (upd (upd (upd (upd (upd F 15 0) 16 pl88) 27 (nI nd89)) 31 (nI wr91)) 64 (nI at86)) 65 (nI ne)) 66 (nI lk90)) (updA X93 2 K)) _ := hP
          have hD : va_D A (mW G h0 a (upd (upd (upd (upd (upd (upd (upd F 15 0) 16 pl88) 27 (nI nd89)) 31 (nI wr91)) 64 (nI at86)) 65 (nI ne)) 66 (nI lk90)) (updA X93 2 K)) := mW_D hD
          obtain ⟨hlw110, hf111, hc112⟩ := h107 rfl
          have hlo113 : Low B X93 nd wr := (Low.trans hlo51 hlw110 (by omega) (by omega))
          have hf114 : Frs K T wr91 X93 nd (nd + 1) 20000 [(nd, 0)] := (Frs.same hf54 (by omega) (fun j i q1 q2 q3 q4 => (hlw110.1 j i q1 (by omega) (by omega))))
          have hn115 : Nd X93 nd 30 (nI r10) (-1) (-1) (-1) := (Nd.low hn53 hlw110 (by omega))
          have hm116 := Frs.mem hf111
          refine r_sti (f := (X93 13)) (j := nd) hx hb hE hP hD hS 13 (ma_13 G a _) rfl (mas_13 G a _) (by omega) (by decide) dX12_local_41 (fun H locs hP hD hS => ?_)
          have hP : va_P G.1 pCl (mW G h0 a (upd (upd (upd (upd (upd (upd (upd F 15 0) 16 pl88) 27 (nI nd89)) 31 (nI wr91)) 64 (nI at86)) 65 (nI ne)) 66 (nI lk90)) (updA (stR X93 13 nd (nI r92)) 2 K)) _ := mW_to (F := F) (l1 := [(15, 0), (16, pl88), (27, (nI nd89)), (31, (nI wr91)), (64, (nI at86)), (65, (nI ne)), (66, (nI lk90))]) (l2 := [(15, 0), (16, pl88), (27, (nI nd89)), (31, (nI wr91)), (64, (nI at86)), (65, (nI ne)), (66, (nI lk90))]) (V := [0, pl88, (nI nd89), (nI wr91), (nI at86), (nI ne), (nI lk90), 0, pl88, (nI nd89), (nI wr91), (nI at86), (nI ne), (nI lk90)]) rfl rfl (show (updA (updA X93 2 K) 13 (upd (X93 13) nd (nI r92))) = (updA (stR X93 13 nd (nI r92)) 2 K) from updsA_eq2 (F := X93) (l1 := [(2, K), (13, (upd (X93 13) nd (nI r92)))]) (l2 := [(13, (upd (X93 13) nd (nI r92))), (2, K)]) (V := [K, (upd (X93 13) nd (nI r92)), (upd (X93 13) nd (nI r92)), K]) rfl rfl) hP
          have hD : va_D A (mW G h0 a (upd (upd (upd (upd (upd (upd (upd F 15 0) 16 pl88) 27 (nI nd89)) 31 (nI wr91)) 64 (nI at86)) 65 (nI ne)) 66 (nI lk90)) (updA (stR X93 13 nd (nI r92)) 2 K)) := mW_D hD
          have hkp117 : Kp B (stR X93 13 nd (nI r92)) wr91 T := (Kp.row hkp108 (by omega))
          have hlo118 : Low B (stR X93 13 nd (nI r92)) nd wr := (Low.st hlo113 (by omega) (by omega))
          have hf119 : Frs K T wr91 X93 nd nd89 20000 [(nd, 0), (r92, (211 + lk90 - (10 * ne + lk)))] := (Frs.join hf114 hf111 (by omega) (by omega) (by omega))
          have hn120 : Nd (stR X93 13 nd (nI r92)) nd 30 (nI r10) (nI r92) (-1) (-1) := (Nd.st hn115 (by omega))
          have hc121 : kcl 1 ((stR X93 13 nd (nI r92)) 9 r92) = true := by rw [st_ne (by omega)]; exact hc112
          have hf122 : Frs K T wr91 (stR X93 13 nd (nI r92)) nd nd89 20000 [(nd, 280)] := (Frs.set (s := 2) (k := 30) hf119 (by omega) (by omega) (by simp) (by omega) (by omega) hn115.2.2.1 hn115.1 (by decide) ⟨by decide, by decide, by decide, hc112, fun h => absurd h (by decide)⟩ (by omega) (by omega) (by decide) (fun h1 h2 => by omega))
          refine lv_iload hx hb dX12_local_42 (lv_at hl 0 rfl) ?_
          have hz123 : at0 ≤ at86 := (by omega)
          have hz124 : at86 ≤ T := (by omega)
          have hz125 : 0 ≤ 100 := (by omega)
          have hz126 : nd ≤ nd89 := (by omega)
          have hz127 : nd89 + 2 * at0 ≤ nd + 2 * at86 + 100000 * 0 := (by omega)
          have hz128 : nd89 + 2 * at0 ≤ nd + 2 * at86 + (40 * (21 - ne) + 5) := (by omega)
          have hz129 : wr ≤ wr91 := (by omega)
          have hz130 : wr91 + at0 ≤ wr + at86 := (by omega)
          have hz131 : lk ≤ lk90 := (by omega)
          have hz132 : lk90 ≤ 60 + 100 * 0 := (by omega)
          have hz133 : at0 + 1 ≤ at86 + 0 := (by omega)
          have hz134 : nd ≤ nd89 := (by omega)
          have hz135 : Kp B (stR X93 13 nd (nI r92)) wr91 T := hkp117
          have hz136 : If (0 = 0) (Low B (stR X93 13 nd (nI r92)) nd wr ∧ Frs K T wr91 (stR X93 13 nd (nI r92)) nd nd89 20000 [(nd, 280)] ∧ kcl 7 ((stR X93 13 nd (nI r92)) 9 nd) = true) := (fun _ => ⟨hlo118, Frs.up hf122 (by omega), (by rw [hn120.1]; decide)⟩)
          have hP : va_P G.1 pCl (mW G h0 a (upd (upd (upd (upd (upd (upd (upd F 15 (nI 0)) 16 pl88) 27 (nI nd89)) 31 (nI wr91)) 64 (nI at86)) 65 (nI ne)) 66 (nI lk90)) (updA (stR X93 13 nd (nI r92)) 2 K)) _ := mW_to (F := F) (l1 := [(15, 0), (16, pl88), (27, (nI nd89)), (31, (nI wr91)), (64, (nI at86)), (65, (nI ne)), (66, (nI lk90))]) (l2 := [(15, (nI 0)), (16, pl88), (27, (nI nd89)), (31, (nI wr91)), (64, (nI at86)), (65, (nI ne)), (66, (nI lk90))]) (V := [(nI 0), pl88, (nI nd89), (nI wr91), (nI at86), (nI ne), (nI lk90), (nI 0), pl88, (nI nd89), (nI wr91), (nI at86), (nI ne), (nI lk90)]) rfl rfl rfl hP
          have hD : va_D A (mW G h0 a (upd (upd (upd (upd (upd (upd (upd F 15 (nI 0)) 16 pl88) 27 (nI nd89)) 31 (nI wr91)) 64 (nI at86)) 65 (nI ne)) 66 (nI lk90)) (updA (stR X93 13 nd (nI r92)) 2 K)) := mW_D hD
          exact W.iret (v := (nI nd)) hx hb hr (fun t9 ht9 hW9 => ⟨⟨_, (at86, 0, pl88, nd89, lk90, wr91, nd, (stR X93 13 nd (nI r92))), rfl, ⟨rfl, hz123, hz124, hz125, hz126, hz127, hz128, hz129, hz130, hz131, hz132, hz133, hz134, hz135, hz136⟩, by rw [ht9]; exact hP, hD⟩, hS.F ht9⟩) hS.2.2 dX12_local_44
        · have e109 := e109
          refine r_sti (f := (X93 13)) (j := nd) hx hb hE hP hD hS 13 (ma_13 G a _) rfl (mas_13 G a _) (by omega) (by decide) dX12_local_41 (fun H locs hP hD hS => ?_)
          have hP : va_P G.1 pCl (mW G h0 a (upd (upd (upd (upd (upd (upd (upd F 15 (nI fa87)) 16 pl88) 27 (nI nd89)) 31 (nI wr91)) 64 (nI at86)) 65 (nI ne)) 66 (nI lk90)) (updA (stR X93 13 nd (nI r92)) 2 K)) _ := mW_to (F := F) (l1 := [(15, (nI fa87)), (16, pl88), (27, (nI nd89)), (31, (nI wr91)), (64, (nI at86)), (65, (nI ne)), (66, (nI lk90))]) (l2 := [(15, (nI fa87)), (16, pl88), (27, (nI nd89)), (31, (nI wr91)), (64, (nI at86)), (65, (nI ne)), (66, (nI lk90))]) (V := [(nI fa87), pl88, (nI nd89), (nI wr91), (nI at86), (nI ne), (nI lk90), (nI fa87), pl88, (nI nd89), (nI wr91), (nI at86), (nI ne), (nI lk90)]) rfl rfl (show (updA (updA X93 2 K) 13 (upd (X93 13) nd (nI r92))) = (updA (stR X93 13 nd (nI r92)) 2 K) from updsA_eq2 (F := X93) (l1 := [(2, K), (13, (upd (X93 13) nd (nI r92)))]) (l2 := [(13, (upd (X93 13) nd (nI r92))), (2, K)]) (V := [K, (upd (X93 13) nd (nI r92)), (upd (X93 13) nd (nI r92)), K]) rfl rfl) hP
          have hD : va_D A (mW G h0 a (upd (upd (upd (upd (upd (upd (upd F 15 (nI fa87)) 16 pl88) 27 (nI nd89)) 31 (nI wr91)) 64 (nI at86)) 65 (nI ne)) 66 (nI lk90)) (updA (stR X93 13 nd (nI r92)) 2 K)) := mW_D hD
          have hkp137 : Kp B (stR X93 13 nd (nI r92)) wr91 T := (Kp.row hkp108 (by omega))
          refine lv_iload hx hb dX12_local_42 (lv_at hl 0 rfl) ?_
          have hz138 : at0 ≤ at86 := (by omega)
          have hz139 : at86 ≤ T := (by omega)
          have hz140 : fa87 ≤ 100 := (by omega)
          have hz141 : nd ≤ nd89 := (by omega)
          have hz142 : nd89 + 2 * at0 ≤ nd + 2 * at86 + 100000 * fa87 := (by omega)
          have hz143 : nd89 + 2 * at0 ≤ nd + 2 * at86 + (40 * (21 - ne) + 5) := (by omega)
          have hz144 : wr ≤ wr91 := (by omega)
          have hz145 : wr91 + at0 ≤ wr + at86 := (by omega)
          have hz146 : lk ≤ lk90 := (by omega)
          have hz147 : lk90 ≤ 60 + 100 * fa87 := (by omega)
          have hz148 : at0 + 1 ≤ at86 + fa87 := (by omega)
          have hz149 : nd ≤ nd89 := (by omega)
          have hz150 : Kp B (stR X93 13 nd (nI r92)) wr91 T := hkp137
          have hz151 : If (fa87 = 0) (Low B (stR X93 13 nd (nI r92)) nd wr ∧ Frs K T wr91 (stR X93 13 nd (nI r92)) nd nd89 20000 [(nd, 280)] ∧ kcl 7 ((stR X93 13 nd (nI r92)) 9 nd) = true) := (fun e => absurd e (by omega))
          have hP : va_P G.1 pCl (mW G h0 a (upd (upd (upd (upd (upd (upd (upd F 15 (nI fa87)) 16 pl88) 27 (nI nd89)) 31 (nI wr91)) 64 (nI at86)) 65 (nI ne)) 66 (nI lk90)) (updA (stR X93 13 nd (nI r92)) 2 K)) _ := hP
          have hD : va_D A (mW G h0 a (upd (upd (upd (upd (upd (upd (upd F 15 (nI fa87)) 16 pl88) 27 (nI nd89)) 31 (nI wr91)) 64 (nI at86)) 65 (nI ne)) 66 (nI lk90)) (updA (stR X93 13 nd (nI r92)) 2 K)) := mW_D hD
          exact W.iret (v := (nI nd)) hx hb hr (fun t9 ht9 hW9 => ⟨⟨_, (at86, fa87, pl88, nd89, lk90, wr91, nd, (stR X93 13 nd (nI r92))), rfl, ⟨rfl, hz138, hz139, hz140, hz141, hz142, hz143, hz144, hz145, hz146, hz147, hz148, hz149, hz150, hz151⟩, by rw [ht9]; exact hP, hD⟩, hS.F ht9⟩) hS.2.2 dX12_local_44
    · have e44 := e44
      refine lv_istore_n (lv' := [(3, .int (nI at6)), (2, .int (nI r10)), (0, .ref h0), (1, .int (nI fi))]) hx hb dX12_local_9 rfl hl (by decide) rfl (fun ls hl => ?_)
      refine lv_aload_n hx hb dX12_local_10 rfl (lv_at hl 2 rfl) ?_
      refine lv_bipush (v := 30) hx hb dX12_local_11 (by decide) ?_
      refine lv_iload_n hx hb dX12_local_13 rfl (lv_at hl 3 rfl) ?_
      refine lv_iload_n hx hb dX12_local_14 rfl (lv_at hl 0 rfl) ?_
      refine lv_iload_n hx hb dX12_local_15 rfl (lv_at hl 1 rfl) ?_
      refine lv_iconst (v := (-1)) hx hb dX12_local_16 (by decide) ?_
      have hP : va_P G.1 pCl (mW G h0 a (upd (upd (upd (upd (upd (upd (upd (upd F 15 (nI fa34)) 16 pl35) 27 (nI nd)) 31 (nI wr9)) 64 (nI at33)) 65 (nI ne)) 66 (nI lk)) 27 (nI nd)) (updA (updA (updA B 19 yt11) 20 yr12) 2 K)) _ := mW_to (F := F) (l1 := [(15, (nI fa34)), (16, pl35), (27, (nI nd)), (31, (nI wr9)), (64, (nI at33)), (65, (nI ne)), (66, (nI lk))]) (l2 := [(15, (nI fa34)), (16, pl35), (27, (nI nd)), (31, (nI wr9)), (64, (nI at33)), (65, (nI ne)), (66, (nI lk)), (27, (nI nd))]) (V := [(nI fa34), pl35, (nI nd), (nI wr9), (nI at33), (nI ne), (nI lk), (nI fa34), pl35, (nI nd), (nI wr9), (nI at33), (nI ne), (nI lk), (nI nd)]) rfl rfl rfl hP
      have hD : va_D A (mW G h0 a (upd (upd (upd (upd (upd (upd (upd (upd F 15 (nI fa34)) 16 pl35) 27 (nI nd)) 31 (nI wr9)) 64 (nI at33)) 65 (nI ne)) 66 (nI lk)) 27 (nI nd)) (updA (updA (updA B 19 yt11) 20 yr12) 2 K)) := mW_D hD
      refine pc_V0 (G := G) (As := [.int 30, .int (nI fi), .int (nI at6), .int (nI r10), .int (-1)]) (rest := []) hx hb hml hown hq hE hX pX0_al hP hD hS hA hl.1 (R_nodeB l G h0 a (upd (upd (upd (upd (upd (upd (upd F 15 (nI fa34)) 16 pl35) 27 (nI nd)) 31 (nI wr9)) 64 (nI at33)) 65 (nI ne)) 66 (nI lk)) (updA (updA B 19 yt11) 20 yr12) 30 (nI fi) (nI at6) (nI r10) (-1) nd K (by omega)) (gV pw_1650 pw_1651 pw_1652 pw_1523 pw_1589) hV_X12_node 0 9 rfl rfl rfl rfl (Nat.le_of_ble_eq_true rfl) dX12_local_17 ⟨Nat.le_of_ble_eq_true rfl, Nat.le_of_ble_eq_true rfl⟩ ⟨(by show 2 + 1 ≤ (26 * n + 30); omega), (by show 8 + (7 + 11) + 60 ≤ (2000 * n + 3000); omega)⟩ (fun v154 u152 H locs hw153 hP hD hS => ?_)
      obtain ⟨X155, rfl⟩ : ∃ z, z = u152 := ⟨_, rfl⟩
      obtain ⟨hw153, h156⟩ := hw153
      have h156 : NewN (updA (updA B 19 yt11) 20 yr12) X155 nd 30 (nI fi) (nI at6) (nI r10) (-1) := h156
      obtain rfl : v154 = some (.int (nI nd)) := hw153
      have hP : va_P G.1 pCl (mW G h0 a (upd (upd (upd (upd (upd (upd (upd F 15 (nI fa34)) 16 pl35) 27 (nI (nd + 1))) 31 (nI wr9)) 64 (nI at33)) 65 (nI ne)) 66 (nI lk)) (updA X155 2 K)) _ := mW_to (F := F) (l1 := [(15, (nI fa34)), (16, pl35), (27, (nI nd)), (31, (nI wr9)), (64, (nI at33)), (65, (nI ne)), (66, (nI lk)), (27, (nI (nd + 1)))]) (l2 := [(15, (nI fa34)), (16, pl35), (27, (nI (nd + 1))), (31, (nI wr9)), (64, (nI at33)), (65, (nI ne)), (66, (nI lk))]) (V := [(nI fa34), pl35, (nI (nd + 1)), (nI wr9), (nI at33), (nI ne), (nI lk), (nI (nd + 1)), (nI fa34), pl35, (nI (nd + 1)), (nI wr9), (nI at33), (nI ne), (nI lk)]) rfl rfl rfl hP
      have hD : va_D A (mW G h0 a (upd (upd (upd (upd (upd (upd (upd F 15 (nI fa34)) 16 pl35) 27 (nI (nd + 1))) 31 (nI wr9)) 64 (nI at33)) 65 (nI ne)) 66 (nI lk)) (updA X155 2 K)) := mW_D hD
      refine W.widen (k := 0) (n := 0) (Nat.le_of_ble_eq_true rfl) (Nat.le_of_ble_eq_true rfl) ?_
      refine W.eq (g2 := F0 m 20 ls [.int (nI nd)]) rfl ?_
      have hkp157 : Kp B X155 wr9 T := (Kp.new hkp27 h156)
      refine lv_istore (lv' := [(4, .int (nI nd)), (3, .int (nI at6)), (2, .int (nI r10)), (0, .ref h0), (1, .int (nI fi))]) hx hb dX12_local_20 hl (by decide) rfl (fun ls hl => ?_)
      refine lv_aload_n hx hb dX12_local_22 rfl (lv_at hl 3 rfl) ?_
      refine lv_bipush (v := 61) hx hb dX12_local_23 (by decide) ?_
      have hP : va_P G.1 pCl (mW G h0 a (upd (upd (upd (upd (upd (upd (upd (upd (upd F 15 (nI fa34)) 16 pl35) 27 (nI (nd + 1))) 31 (nI wr9)) 64 (nI at33)) 65 (nI ne)) 66 (nI lk)) 15 (nI fa34)) 64 (nI at33)) (updA (updA X155 2 K) 2 K)) _ := mW_to (F := F) (l1 := [(15, (nI fa34)), (16, pl35), (27, (nI (nd + 1))), (31, (nI wr9)), (64, (nI at33)), (65, (nI ne)), (66, (nI lk))]) (l2 := [(15, (nI fa34)), (16, pl35), (27, (nI (nd + 1))), (31, (nI wr9)), (64, (nI at33)), (65, (nI ne)), (66, (nI lk)), (15, (nI fa34)), (64, (nI at33))]) (V := [(nI fa34), pl35, (nI (nd + 1)), (nI wr9), (nI at33), (nI ne), (nI lk), (nI fa34), pl35, (nI (nd + 1)), (nI wr9), (nI at33), (nI ne), (nI lk), (nI fa34), (nI at33)]) rfl rfl (show (updA X155 2 K) = (updA (updA X155 2 K) 2 K) from updsA_eq2 (F := X155) (l1 := [(2, K)]) (l2 := [(2, K), (2, K)]) (V := [K, K, K]) rfl rfl) hP
      have hD : va_D A (mW G h0 a (upd (upd (upd (upd (upd (upd (upd (upd (upd F 15 (nI fa34)) 16 pl35) 27 (nI (nd + 1))) 31 (nI wr9)) 64 (nI at33)) 65 (nI ne)) 66 (nI lk)) 15 (nI fa34)) 64 (nI at33)) (updA (updA X155 2 K) 2 K)) := mW_D hD
      refine pc_V0 (G := G) (As := [.int 61]) (rest := []) hx hb hml hown hq hE hX pX0_al hP hD hS hA hl.1 (R_may l G h0 a (upd (upd (upd (upd (upd (upd (upd F 15 (nI fa34)) 16 pl35) 27 (nI (nd + 1))) 31 (nI wr9)) 64 (nI at33)) 65 (nI ne)) 66 (nI lk)) (updA X155 2 K) at33 T fa34 K 61 (by omega) (by omega) hK (by omega) (by decide) (by decide)) (gV pw_1621 pw_1622 pw_1623 pw_1523 pw_1605) hV_X12_may 0 9 rfl rfl rfl rfl (Nat.le_of_ble_eq_true rfl) dX12_local_25 ⟨Nat.le_of_ble_eq_true rfl, Nat.le_of_ble_eq_true rfl⟩ ⟨(by show 3 + 1 ≤ (26 * n + 30); omega), (by show 8 + (3 + 11) + 81 ≤ (2000 * n + 3000); omega)⟩ (fun v160 u158 H locs hw159 hP hD hS => ?_)
      obtain ⟨at161, r162⟩ := u158
      obtain ⟨hw159, h163, h164, h165, h166, h167, h168⟩ := hw159
      have h163 : r162 ≤ 1 := h163
      have h164 : fa34 + 100 * r162 ≤ 100 := h164
      have h165 : at161 = at33 + r162 := h165
      have h166 : at161 ≤ T := h166
      have h167 : If (r162 = 1) (K at33 = 61) := h167
      have h168 : If (r162 = 0) (fa34 = 0 → ¬ K at33 = 61) := h168
      obtain rfl : v160 = some (.int (nI r162)) := hw159
      have hP : va_P G.1 pCl (mW G h0 a (upd (upd (upd (upd (upd (upd (upd F 15 (nI fa34)) 16 pl35) 27 (nI (nd + 1))) 31 (nI wr9)) 64 (nI at161)) 65 (nI ne)) 66 (nI lk)) (updA X155 2 K)) _ := mW_to (F := F) (l1 := [(15, (nI fa34)), (16, pl35), (27, (nI (nd + 1))), (31, (nI wr9)), (64, (nI at33)), (65, (nI ne)), (66, (nI lk)), (15, (nI fa34)), (64, (nI at161))]) (l2 := [(15, (nI fa34)), (16, pl35), (27, (nI (nd + 1))), (31, (nI wr9)), (64, (nI at161)), (65, (nI ne)), (66, (nI lk))]) (V := [(nI fa34), pl35, (nI (nd + 1)), (nI wr9), (nI at161), (nI ne), (nI lk), (nI fa34), (nI at161), (nI fa34), pl35, (nI (nd + 1)), (nI wr9), (nI at161), (nI ne), (nI lk)]) rfl rfl (show (updA (updA X155 2 K) 2 K) = (updA X155 2 K) from updsA_eq2 (F := X155) (l1 := [(2, K), (2, K)]) (l2 := [(2, K)]) (V := [K, K, K]) rfl rfl) hP
      have hD : va_D A (mW G h0 a (upd (upd (upd (upd (upd (upd (upd F 15 (nI fa34)) 16 pl35) 27 (nI (nd + 1))) 31 (nI wr9)) 64 (nI at161)) 65 (nI ne)) 66 (nI lk)) (updA X155 2 K)) := mW_D hD
      refine W.widen (k := 0) (n := 0) (Nat.le_of_ble_eq_true rfl) (Nat.le_of_ble_eq_true rfl) ?_
      refine W.eq (g2 := F0 m 28 ls [.int (nI r162)]) rfl ?_
      obtain rfl : at33 = at161 := (by omega)
      refine lv_if_eq (tgt := 42) hx hb dX12_local_28 (by decide) (fun c169 => ?_) (fun c169 => (by have n170 : ¬ (r162 = 0) := fun h9 => c169 ((nI_eq (a := r162) (b := 0) (by omega) (by omega)).mpr h9); omega))
      refine lv_iload hx hb dX12_local_42 (lv_at hl 0 rfl) ?_
      have hz171 : at0 ≤ at33 := (by omega)
      have hz172 : at33 ≤ T := (by omega)
      have hz173 : fa34 ≤ 100 := (by omega)
      have hz174 : nd ≤ (nd + 1) := (by omega)
      have hz175 : (nd + 1) + 2 * at0 ≤ nd + 2 * at33 + 100000 * fa34 := (by omega)
      have hz176 : (nd + 1) + 2 * at0 ≤ nd + 2 * at33 + (40 * (21 - ne) + 5) := (by omega)
      have hz177 : wr ≤ wr9 := (by omega)
      have hz178 : wr9 + at0 ≤ wr + at33 := (by omega)
      have hz179 : lk ≤ lk := (by omega)
      have hz180 : lk ≤ 60 + 100 * fa34 := (by omega)
      have hz181 : at0 + 1 ≤ at33 + fa34 := (by omega)
      have hz182 : nd ≤ (nd + 1) := (by omega)
      have hz183 : Kp B X155 wr9 T := hkp157
      have hz184 : If (fa34 = 0) (Low B X155 nd wr ∧ Frs K T wr9 X155 nd (nd + 1) 20000 [(nd, 280)] ∧ kcl 7 (X155 9 nd) = true) := (fun e => absurd e (by omega))
      have hP : va_P G.1 pCl (mW G h0 a (upd (upd (upd (upd (upd (upd (upd F 15 (nI fa34)) 16 pl35) 27 (nI (nd + 1))) 31 (nI wr9)) 64 (nI at33)) 65 (nI ne)) 66 (nI lk)) (updA X155 2 K)) _ := hP
      have hD : va_D A (mW G h0 a (upd (upd (upd (upd (upd (upd (upd F 15 (nI fa34)) 16 pl35) 27 (nI (nd + 1))) 31 (nI wr9)) 64 (nI at33)) 65 (nI ne)) 66 (nI lk)) (updA X155 2 K)) := mW_D hD
      exact W.iret (v := (nI nd)) hx hb hr (fun t9 ht9 hW9 => ⟨⟨_, (at33, fa34, pl35, (nd + 1), lk, wr9, nd, X155), rfl, ⟨rfl, hz171, hz172, hz173, hz174, hz175, hz176, hz177, hz178, hz179, hz180, hz181, hz182, hz183, hz184⟩, by rw [ht9]; exact hP, hD⟩, hS.F ht9⟩) hS.2.2 dX12_local_44
  · have e28 := e28
    refine lv_istore_n (lv' := [(2, .int (nI r10)), (0, .ref h0), (1, .int (nI fi))]) hx hb dX12_local_4 rfl hl (by decide) rfl (fun ls hl => ?_)
    refine lv_aload_n hx hb dX12_local_5 rfl (lv_at hl 1 rfl) ?_
    have hP : va_P G.1 pCl (mW G h0 a (upd (upd (upd (upd (upd (upd (upd (upd (upd F 15 (nI fa7)) 16 pl8) 27 (nI nd)) 31 (nI wr9)) 64 (nI at6)) 65 (nI ne)) 66 (nI lk)) 15 (nI fa7)) 64 (nI at6)) (updA (updA (updA (updA B 19 yt11) 20 yr12) 2 K) 2 K)) _ := mW_to (F := F) (l1 := [(15, (nI fa7)), (16, pl8), (27, (nI nd)), (31, (nI wr9)), (64, (nI at6)), (65, (nI ne)), (66, (nI lk))]) (l2 := [(15, (nI fa7)), (16, pl8), (27, (nI nd)), (31, (nI wr9)), (64, (nI at6)), (65, (nI ne)), (66, (nI lk)), (15, (nI fa7)), (64, (nI at6))]) (V := [(nI fa7), pl8, (nI nd), (nI wr9), (nI at6), (nI ne), (nI lk), (nI fa7), pl8, (nI nd), (nI wr9), (nI at6), (nI ne), (nI lk), (nI fa7), (nI at6)]) rfl rfl (show (updA (updA (updA B 19 yt11) 20 yr12) 2 K) = (updA (updA (updA (updA B 19 yt11) 20 yr12) 2 K) 2 K) from updsA_eq2 (F := B) (l1 := [(19, yt11), (20, yr12), (2, K)]) (l2 := [(19, yt11), (20, yr12), (2, K), (2, K)]) (V := [yt11, yr12, K, yt11, yr12, K, K]) rfl rfl) hP
    have hD : va_D A (mW G h0 a (upd (upd (upd (upd (upd (upd (upd (upd (upd F 15 (nI fa7)) 16 pl8) 27 (nI nd)) 31 (nI wr9)) 64 (nI at6)) 65 (nI ne)) 66 (nI lk)) 15 (nI fa7)) 64 (nI at6)) (updA (updA (updA (updA B 19 yt11) 20 yr12) 2 K) 2 K)) := mW_D hD
    refine pc_V0 (G := G) (As := []) (rest := []) hx hb hml hown hq hE hX pX0_al hP hD hS hA hl.1 (R_name l G h0 a (upd (upd (upd (upd (upd (upd (upd F 15 (nI fa7)) 16 pl8) 27 (nI nd)) 31 (nI wr9)) 64 (nI at6)) 65 (nI ne)) 66 (nI lk)) (updA (updA (updA B 19 yt11) 20 yr12) 2 K) at6 T fa7 K (by omega) (by omega) hK (by omega)) (gV pw_1618 pw_1619 pw_1620 pw_1523 pw_1613) hV_X12_name 0 9 rfl rfl rfl rfl (Nat.le_of_ble_eq_true rfl) dX12_local_6 ⟨Nat.le_of_ble_eq_true rfl, Nat.le_of_ble_eq_true rfl⟩ ⟨(by show 5 + 1 ≤ (26 * n + 30); omega), (by show 8 + (2 + 11) + 124 ≤ (2000 * n + 3000); omega)⟩ (fun v187 u185 H locs hw186 hP hD hS => ?_)
    obtain ⟨at188, fa189, pl190⟩ := u185
    obtain ⟨hw186, h191, h192, h193, h194, h195, h196, h197, h198⟩ := hw186
    have h191 : at6 ≤ at188 := h191
    have h192 : at188 ≤ T := h192
    have h193 : fa7 ≤ fa189 := h193
    have h194 : fa189 ≤ 100 := h194
    have h195 : If (0 < fa7) (at188 = at6 ∧ fa189 = fa7) := h195
    have h196 : at188 ≤ at6 + 1 := h196
    have h197 : at6 + 1 ≤ at188 + fa189 := h197
    have h198 : If (fa189 = 0) (K at6 = 1) := h198
    obtain rfl : v187 = some (.int (nI at6)) := hw186
    have hP : va_P G.1 pCl (mW G h0 a (upd (upd (upd (upd (upd (upd (upd F 15 (nI fa189)) 16 pl190) 27 (nI nd)) 31 (nI wr9)) 64 (nI at188)) 65 (nI ne)) 66 (nI lk)) (updA (updA (updA B 19 yt11) 20 yr12) 2 K)) _ := mW_to (F := F) (l1 := [(15, (nI fa7)), (16, pl8), (27, (nI nd)), (31, (nI wr9)), (64, (nI at6)), (65, (nI ne)), (66, (nI lk)), (15, (nI fa189)), (16, pl190), (64, (nI at188))]) (l2 := [(15, (nI fa189)), (16, pl190), (27, (nI nd)), (31, (nI wr9)), (64, (nI at188)), (65, (nI ne)), (66, (nI lk))]) (V := [(nI fa189), pl190, (nI nd), (nI wr9), (nI at188), (nI ne), (nI lk), (nI fa189), pl190, (nI at188), (nI fa189), pl190, (nI nd), (nI wr9), (nI at188), (nI ne), (nI lk)]) rfl rfl (show (updA (updA (updA (updA B 19 yt11) 20 yr12) 2 K) 2 K) = (updA (updA (updA B 19 yt11) 20 yr12) 2 K) from updsA_eq2 (F := B) (l1 := [(19, yt11), (20, yr12), (2, K), (2, K)]) (l2 := [(19, yt11), (20, yr12), (2, K)]) (V := [yt11, yr12, K, K, yt11, yr12, K]) rfl rfl) hP
    have hD : va_D A (mW G h0 a (upd (upd (upd (upd (upd (upd (upd F 15 (nI fa189)) 16 pl190) 27 (nI nd)) 31 (nI wr9)) 64 (nI at188)) 65 (nI ne)) 66 (nI lk)) (updA (updA (updA B 19 yt11) 20 yr12) 2 K)) := mW_D hD
    refine W.widen (k := 0) (n := 0) (Nat.le_of_ble_eq_true rfl) (Nat.le_of_ble_eq_true rfl) ?_
    refine W.eq (g2 := F0 m 9 ls [.int (nI at6)]) rfl ?_
    obtain ⟨n200, n199⟩ := h195 e28
    replace n200 := n200.symm
    subst n200
    replace n199 := n199.symm
    subst n199
    refine lv_istore_n (lv' := [(3, .int (nI at6)), (2, .int (nI r10)), (0, .ref h0), (1, .int (nI fi))]) hx hb dX12_local_9 rfl hl (by decide) rfl (fun ls hl => ?_)
    refine lv_aload_n hx hb dX12_local_10 rfl (lv_at hl 2 rfl) ?_
    refine lv_bipush (v := 30) hx hb dX12_local_11 (by decide) ?_
    refine lv_iload_n hx hb dX12_local_13 rfl (lv_at hl 3 rfl) ?_
    refine lv_iload_n hx hb dX12_local_14 rfl (lv_at hl 0 rfl) ?_
    refine lv_iload_n hx hb dX12_local_15 rfl (lv_at hl 1 rfl) ?_
    refine lv_iconst (v := (-1)) hx hb dX12_local_16 (by decide) ?_
    have hP : va_P G.1 pCl (mW G h0 a (upd (upd (upd (upd (upd (upd (upd (upd F 15 (nI fa7)) 16 pl190) 27 (nI nd)) 31 (nI wr9)) 64 (nI at6)) 65 (nI ne)) 66 (nI lk)) 27 (nI nd)) (updA (updA (updA B 19 yt11) 20 yr12) 2 K)) _ := hP
    have hD : va_D A (mW G h0 a (upd (upd (upd (upd (upd (upd (upd (upd F 15 (nI fa7)) 16 pl190) 27 (nI nd)) 31 (nI wr9)) 64 (nI at6)) 65 (nI ne)) 66 (nI lk)) 27 (nI nd)) (updA (updA (updA B 19 yt11) 20 yr12) 2 K)) := mW_D hD
    refine pc_V0 (G := G) (As := [.int 30, .int (nI fi), .int (nI at6), .int (nI r10), .int (-1)]) (rest := []) hx hb hml hown hq hE hX pX0_al hP hD hS hA hl.1 (R_nodeB l G h0 a (upd (upd (upd (upd (upd (upd (upd F 15 (nI fa7)) 16 pl190) 27 (nI nd)) 31 (nI wr9)) 64 (nI at6)) 65 (nI ne)) 66 (nI lk)) (updA (updA B 19 yt11) 20 yr12) 30 (nI fi) (nI at6) (nI r10) (-1) nd K (by omega)) (gV pw_1650 pw_1651 pw_1652 pw_1523 pw_1589) hV_X12_node 0 9 rfl rfl rfl rfl (Nat.le_of_ble_eq_true rfl) dX12_local_17 ⟨Nat.le_of_ble_eq_true rfl, Nat.le_of_ble_eq_true rfl⟩ ⟨(by show 2 + 1 ≤ (26 * n + 30); omega), (by show 8 + (7 + 11) + 60 ≤ (2000 * n + 3000); omega)⟩ (fun v203 u201 H locs hw202 hP hD hS => ?_)
    obtain ⟨X204, rfl⟩ : ∃ z, z = u201 := ⟨_, rfl⟩
    obtain ⟨hw202, h205⟩ := hw202
    have h205 : NewN (updA (updA B 19 yt11) 20 yr12) X204 nd 30 (nI fi) (nI at6) (nI r10) (-1) := h205
    obtain rfl : v203 = some (.int (nI nd)) := hw202
    have hP : va_P G.1 pCl (mW G h0 a (upd (upd (upd (upd (upd (upd (upd F 15 (nI fa7)) 16 pl190) 27 (nI (nd + 1))) 31 (nI wr9)) 64 (nI at6)) 65 (nI ne)) 66 (nI lk)) (updA X204 2 K)) _ := mW_to (F := F) (l1 := [(15, (nI fa7)), (16, pl190), (27, (nI nd)), (31, (nI wr9)), (64, (nI at6)), (65, (nI ne)), (66, (nI lk)), (27, (nI (nd + 1)))]) (l2 := [(15, (nI fa7)), (16, pl190), (27, (nI (nd + 1))), (31, (nI wr9)), (64, (nI at6)), (65, (nI ne)), (66, (nI lk))]) (V := [(nI fa7), pl190, (nI (nd + 1)), (nI wr9), (nI at6), (nI ne), (nI lk), (nI (nd + 1)), (nI fa7), pl190, (nI (nd + 1)), (nI wr9), (nI at6), (nI ne), (nI lk)]) rfl rfl rfl hP
    have hD : va_D A (mW G h0 a (upd (upd (upd (upd (upd (upd (upd F 15 (nI fa7)) 16 pl190) 27 (nI (nd + 1))) 31 (nI wr9)) 64 (nI at6)) 65 (nI ne)) 66 (nI lk)) (updA X204 2 K)) := mW_D hD
    refine W.widen (k := 0) (n := 0) (Nat.le_of_ble_eq_true rfl) (Nat.le_of_ble_eq_true rfl) ?_
    refine W.eq (g2 := F0 m 20 ls [.int (nI nd)]) rfl ?_
    have hkp206 : Kp B X204 wr9 T := (Kp.new hkp27 h205)
    refine lv_istore (lv' := [(4, .int (nI nd)), (3, .int (nI at6)), (2, .int (nI r10)), (0, .ref h0), (1, .int (nI fi))]) hx hb dX12_local_20 hl (by decide) rfl (fun ls hl => ?_)
    refine lv_aload_n hx hb dX12_local_22 rfl (lv_at hl 3 rfl) ?_
    refine lv_bipush (v := 61) hx hb dX12_local_23 (by decide) ?_
    have hP : va_P G.1 pCl (mW G h0 a (upd (upd (upd (upd (upd (upd (upd (upd (upd F 15 (nI fa7)) 16 pl190) 27 (nI (nd + 1))) 31 (nI wr9)) 64 (nI at6)) 65 (nI ne)) 66 (nI lk)) 15 (nI fa7)) 64 (nI at6)) (updA (updA X204 2 K) 2 K)) _ := mW_to (F := F) (l1 := [(15, (nI fa7)), (16, pl190), (27, (nI (nd + 1))), (31, (nI wr9)), (64, (nI at6)), (65, (nI ne)), (66, (nI lk))]) (l2 := [(15, (nI fa7)), (16, pl190), (27, (nI (nd + 1))), (31, (nI wr9)), (64, (nI at6)), (65, (nI ne)), (66, (nI lk)), (15, (nI fa7)), (64, (nI at6))]) (V := [(nI fa7), pl190, (nI (nd + 1)), (nI wr9), (nI at6), (nI ne), (nI lk), (nI fa7), pl190, (nI (nd + 1)), (nI wr9), (nI at6), (nI ne), (nI lk), (nI fa7), (nI at6)]) rfl rfl (show (updA X204 2 K) = (updA (updA X204 2 K) 2 K) from updsA_eq2 (F := X204) (l1 := [(2, K)]) (l2 := [(2, K), (2, K)]) (V := [K, K, K]) rfl rfl) hP
    have hD : va_D A (mW G h0 a (upd (upd (upd (upd (upd (upd (upd (upd (upd F 15 (nI fa7)) 16 pl190) 27 (nI (nd + 1))) 31 (nI wr9)) 64 (nI at6)) 65 (nI ne)) 66 (nI lk)) 15 (nI fa7)) 64 (nI at6)) (updA (updA X204 2 K) 2 K)) := mW_D hD
    refine pc_V0 (G := G) (As := [.int 61]) (rest := []) hx hb hml hown hq hE hX pX0_al hP hD hS hA hl.1 (R_may l G h0 a (upd (upd (upd (upd (upd (upd (upd F 15 (nI fa7)) 16 pl190) 27 (nI (nd + 1))) 31 (nI wr9)) 64 (nI at6)) 65 (nI ne)) 66 (nI lk)) (updA X204 2 K) at6 T fa7 K 61 (by omega) (by omega) hK (by omega) (by decide) (by decide)) (gV pw_1621 pw_1622 pw_1623 pw_1523 pw_1605) hV_X12_may 0 9 rfl rfl rfl rfl (Nat.le_of_ble_eq_true rfl) dX12_local_25 ⟨Nat.le_of_ble_eq_true rfl, Nat.le_of_ble_eq_true rfl⟩ ⟨(by show 3 + 1 ≤ (26 * n + 30); omega), (by show 8 + (3 + 11) + 81 ≤ (2000 * n + 3000); omega)⟩ (fun v209 u207 H locs hw208 hP hD hS => ?_)
    obtain ⟨at210, r211⟩ := u207
    obtain ⟨hw208, h212, h213, h214, h215, h216, h217⟩ := hw208
    have h212 : r211 ≤ 1 := h212
    have h213 : fa7 + 100 * r211 ≤ 100 := h213
    have h214 : at210 = at6 + r211 := h214
    have h215 : at210 ≤ T := h215
    have h216 : If (r211 = 1) (K at6 = 61) := h216
    have h217 : If (r211 = 0) (fa7 = 0 → ¬ K at6 = 61) := h217
    obtain rfl : v209 = some (.int (nI r211)) := hw208
    have hP : va_P G.1 pCl (mW G h0 a (upd (upd (upd (upd (upd (upd (upd F 15 (nI fa7)) 16 pl190) 27 (nI (nd + 1))) 31 (nI wr9)) 64 (nI at210)) 65 (nI ne)) 66 (nI lk)) (updA X204 2 K)) _ := mW_to (F := F) (l1 := [(15, (nI fa7)), (16, pl190), (27, (nI (nd + 1))), (31, (nI wr9)), (64, (nI at6)), (65, (nI ne)), (66, (nI lk)), (15, (nI fa7)), (64, (nI at210))]) (l2 := [(15, (nI fa7)), (16, pl190), (27, (nI (nd + 1))), (31, (nI wr9)), (64, (nI at210)), (65, (nI ne)), (66, (nI lk))]) (V := [(nI fa7), pl190, (nI (nd + 1)), (nI wr9), (nI at210), (nI ne), (nI lk), (nI fa7), (nI at210), (nI fa7), pl190, (nI (nd + 1)), (nI wr9), (nI at210), (nI ne), (nI lk)]) rfl rfl (show (updA (updA X204 2 K) 2 K) = (updA X204 2 K) from updsA_eq2 (F := X204) (l1 := [(2, K), (2, K)]) (l2 := [(2, K)]) (V := [K, K, K]) rfl rfl) hP
    have hD : va_D A (mW G h0 a (upd (upd (upd (upd (upd (upd (upd F 15 (nI fa7)) 16 pl190) 27 (nI (nd + 1))) 31 (nI wr9)) 64 (nI at210)) 65 (nI ne)) 66 (nI lk)) (updA X204 2 K)) := mW_D hD
    refine W.widen (k := 0) (n := 0) (Nat.le_of_ble_eq_true rfl) (Nat.le_of_ble_eq_true rfl) ?_
    refine W.eq (g2 := F0 m 28 ls [.int (nI r211)]) rfl ?_
    obtain rfl : at6 = at210 := (by omega)
    refine lv_if_eq (tgt := 42) hx hb dX12_local_28 (by decide) (fun c218 => ?_) (fun c218 => (by have n219 : ¬ (r211 = 0) := fun h9 => c218 ((nI_eq (a := r211) (b := 0) (by omega) (by omega)).mpr h9); omega))
    refine lv_iload hx hb dX12_local_42 (lv_at hl 0 rfl) ?_
    have hz220 : at0 ≤ at6 := (by omega)
    have hz221 : at6 ≤ T := (by omega)
    have hz222 : fa7 ≤ 100 := (by omega)
    have hz223 : nd ≤ (nd + 1) := (by omega)
    have hz224 : (nd + 1) + 2 * at0 ≤ nd + 2 * at6 + 100000 * fa7 := (by omega)
    have hz225 : (nd + 1) + 2 * at0 ≤ nd + 2 * at6 + (40 * (21 - ne) + 5) := (by omega)
    have hz226 : wr ≤ wr9 := (by omega)
    have hz227 : wr9 + at0 ≤ wr + at6 := (by omega)
    have hz228 : lk ≤ lk := (by omega)
    have hz229 : lk ≤ 60 + 100 * fa7 := (by omega)
    have hz230 : at0 + 1 ≤ at6 + fa7 := (by omega)
    have hz231 : nd ≤ (nd + 1) := (by omega)
    have hz232 : Kp B X204 wr9 T := hkp206
    have hz233 : If (fa7 = 0) (Low B X204 nd wr ∧ Frs K T wr9 X204 nd (nd + 1) 20000 [(nd, 280)] ∧ kcl 7 (X204 9 nd) = true) := (fun e => absurd e (by omega))
    have hP : va_P G.1 pCl (mW G h0 a (upd (upd (upd (upd (upd (upd (upd F 15 (nI fa7)) 16 pl190) 27 (nI (nd + 1))) 31 (nI wr9)) 64 (nI at6)) 65 (nI ne)) 66 (nI lk)) (updA X204 2 K)) _ := hP
    have hD : va_D A (mW G h0 a (upd (upd (upd (upd (upd (upd (upd F 15 (nI fa7)) 16 pl190) 27 (nI (nd + 1))) 31 (nI wr9)) 64 (nI at6)) 65 (nI ne)) 66 (nI lk)) (updA X204 2 K)) := mW_D hD
    exact W.iret (v := (nI nd)) hx hb hr (fun t9 ht9 hW9 => ⟨⟨_, (at6, fa7, pl190, (nd + 1), lk, wr9, nd, X204), rfl, ⟨rfl, hz220, hz221, hz222, hz223, hz224, hz225, hz226, hz227, hz228, hz229, hz230, hz231, hz232, hz233⟩, by rw [ht9]; exact hP, hD⟩, hS.F ht9⟩) hS.2.2 dX12_local_44
