/-- the model's fields behind its constructor, its rows at the addresses a -/
def mF (a : Nat → Nat) : List Value := [.int 0, .ref (a 0), .int 0, .ref (a 1), .int 0, .ref (a 2), .ref (a 3), .ref (a 4), .ref (a 5), .int 0, .ref (a 6), .ref (a 7), .ref (a 8), .int 0, .int 0, .int 0, .int 0, .ref (a 9), .ref (a 10), .ref (a 11), .ref (a 12), .ref (a 13), .ref (a 14), .ref (a 15), .ref (a 16), .ref (a 17), .ref (a 18), .int 0, .ref (a 19), .ref (a 20), .ref (a 21), .int 0, .ref (a 22), .ref (a 23), .int 0, .int 0, .ref (a 24), .ref (a 25), .ref (a 26), .ref (a 27), .ref (a 28), .ref (a 29), .ref (a 30), .ref (a 31), .int 0, .ref (a 32), .ref (a 33), .ref (a 34), .ref (a 35), .int 0, .ref (a 36), .ref (a 37), .ref (a 38), .ref (a 39), .ref (a 40), .ref (a 41), .ref (a 42), .ref (a 43), .ref (a 44), .int 0, .int 0, .ref (a 45), .ref (a 46), .ref (a 47), .int 0, .int 0, .int 0, .int 0, .int 0, .int 0, .int 0, .ref (a 48), .ref (a 49), .int 0, .int 0, .int 0, .int 0, .int 0, .int 0, .int 0, .int 0, .int 0, .int 0, .int 0, .ref (a 50), .int 0, .ref (a 51), .int 0, .ref (a 52), .ref (a 53), .ref (a 54), .ref (a 55), .ref (a 56), .ref (a 57), .ref (a 58), .ref (a 59), .ref (a 60), .int 0, .int 0, .int 0, .ref (a 61), .int 0, .int 0, .ref (a 62), .ref (a 63), .ref (a 64), .ref (a 65), .ref (a 66), .ref (a 67), .ref (a 68), .ref (a 69), .int 0, .ref (a 70), .ref (a 71), .ref (a 72), .int 0, .int (-1), .int 0, .int 0, .int 0, .int 0, .int 0, .int 0, .int 0, .int 0, .int 0, .int 0, .ref (a 73), .int 0, .ref (a 74), .int 0, .ref (a 75), .ref (a 76), .ref (a 77)]
def mArr (G : pT) (a : Nat → Nat) : va_W := [(a 0, .inl (G.2.1 0, 5000, .inl (fun _ => 0))), (a 1, .inl (G.2.1 0, 5000, .inl (fun _ => 0))), (a 2, .inl (G.2.1 0, 5001, .inl (fun _ => 0))), (a 3, .inl (G.2.1 0, 5001, .inl (fun _ => 0))), (a 4, .inl (G.2.1 0, 5001, .inl (fun _ => 0))), (a 5, .inl (G.2.1 0, 5001, .inl (fun _ => 0))), (a 6, .inl (G.2.1 0, 5100, .inl (fun _ => 0))), (a 7, .inl (G.2.1 0, 5100, .inl (fun _ => 0))), (a 8, .inl (G.2.1 1, 5100, .inl (fun _ => 0))), (a 9, .inl (G.2.1 0, 12000, .inl (fun _ => 0))), (a 10, .inl (G.2.1 0, 12000, .inl (fun _ => 0))), (a 11, .inl (G.2.1 0, 12000, .inl (fun _ => 0))), (a 12, .inl (G.2.1 0, 12000, .inl (fun _ => 0))), (a 13, .inl (G.2.1 0, 12000, .inl (fun _ => 0))), (a 14, .inl (G.2.1 0, 12000, .inl (fun _ => 0))), (a 15, .inl (G.2.1 0, 12000, .inl (fun _ => 0))), (a 16, .inl (G.2.1 0, 12000, .inl (fun _ => 0))), (a 17, .inl (G.2.1 0, 12000, .inl (fun _ => 0))), (a 18, .inl (G.2.1 0, 12000, .inl (fun _ => 0))), (a 19, .inl (G.2.1 0, 5000, .inl (fun _ => 0))), (a 20, .inl (G.2.1 3, 5000, .inl (fun _ => 0))), (a 21, .inl (G.2.1 0, 5000, .inl (fun _ => 0))), (a 22, .inl (G.2.1 0, 5000, .inl (fun _ => 0))), (a 23, .inl (G.2.1 0, 5000, .inl (fun _ => 0))), (a 24, .inl (G.2.1 0, 40, .inl (fun _ => 0))), (a 25, .inl (G.2.1 0, 40, .inl (fun _ => 0))), (a 26, .inl (G.2.1 3, 40, .inl (fun _ => 0))), (a 27, .inl (G.2.1 0, 40, .inl (fun _ => 0))), (a 28, .inl (G.2.1 0, 40, .inl (fun _ => 0))), (a 29, .inl (G.2.1 0, 40, .inl (fun _ => 0))), (a 30, .inl (G.2.1 0, 40, .inl (fun _ => 0))), (a 31, .inl (G.2.1 3, 1600, .inl (fun _ => 0))), (a 32, .inl (G.2.1 0, 620, .inl (fun _ => 0))), (a 33, .inl (G.2.1 0, 620, .inl (fun _ => 0))), (a 34, .inl (G.2.1 0, 620, .inl (fun _ => 0))), (a 35, .inl (G.2.1 0, 620, .inl (fun _ => 0))), (a 36, .inl (G.2.1 0, 920, .inl (fun _ => 0))), (a 37, .inl (G.2.1 0, 920, .inl (fun _ => 0))), (a 38, .inl (G.2.1 0, 920, .inl (fun _ => 0))), (a 39, .inl (G.2.1 0, 920, .inl (fun _ => 0))), (a 40, .inl (G.2.1 0, 920, .inl (fun _ => 0))), (a 41, .inl (G.2.1 0, 920, .inl (fun _ => 0))), (a 42, .inl (G.2.1 0, 920, .inl (fun _ => 0))), (a 43, .inl (G.2.1 0, 920, .inl (fun _ => 0))), (a 44, .inl (G.2.1 0, 920, .inl (fun _ => 0))), (a 45, .inl (G.2.1 0, 5000, .inl (fun _ => 0))), (a 46, .inl (G.2.1 0, 5000, .inl (fun _ => 0))), (a 47, .inl (G.2.1 0, 5000, .inl (fun _ => 0))), (a 48, .inl (G.2.1 0, 40, .inl (fun _ => 0))), (a 49, .inl (G.2.1 0, 40, .inl (fun _ => 0))), (a 50, .inl (G.2.1 0, 200, .inl (fun _ => 0))), (a 51, .inl (G.2.1 0, 400, .inl (fun _ => 0))), (a 52, .inl (G.2.1 0, 12000, .inl (fun _ => 0))), (a 53, .inl (G.2.1 0, 620, .inl (fun _ => 0))), (a 54, .inl (G.2.1 0, 204000, .inl (fun _ => 0))), (a 55, .inl (G.2.1 0, 3000, .inl (fun _ => 0))), (a 56, .inl (G.2.1 0, 3000, .inl (fun _ => 0))), (a 57, .inl (G.2.1 0, 3000, .inl (fun _ => 0))), (a 58, .inl (G.2.1 0, 3000, .inl (fun _ => 0))), (a 59, .inl (G.2.1 3, 3000, .inl (fun _ => 0))), (a 60, .inl (G.2.1 0, 3100, .inl (fun _ => 0))), (a 61, .inl (G.2.1 0, 3000, .inl (fun _ => 0))), (a 62, .inl (G.2.1 0, 100, .inl (fun _ => 0))), (a 63, .inl (G.2.1 0, 100, .inl (fun _ => 0))), (a 64, .inl (G.2.1 0, 100, .inl (fun _ => 0))), (a 65, .inl (G.2.1 0, 100, .inl (fun _ => 0))), (a 66, .inl (G.2.1 0, 3200, .inl (fun _ => 0))), (a 67, .inl (G.2.1 3, 3200, .inl (fun _ => 0))), (a 68, .inl (G.2.1 0, 40000, .inl (fun _ => 0))), (a 69, .inl (G.2.1 3, 40000, .inl (fun _ => 0))), (a 70, .inl (G.2.1 0, 2100, .inl (fun _ => 0))), (a 71, .inl (G.2.1 0, 2100, .inl (fun _ => 0))), (a 72, .inl (G.2.1 3, 2100, .inl (fun _ => 0))), (a 73, .inl (G.2.1 0, 3000, .inl (fun _ => 0))), (a 74, .inl (G.2.1 0, 3000, .inl (fun _ => 0))), (a 75, .inl (G.2.1 0, 40, .inl (fun _ => 0))), (a 76, .inl (G.2.1 0, 40, .inl (fun _ => 0))), (a 77, .inl (G.2.1 0, 23000, .inl (fun _ => 0)))]
set_option maxHeartbeats 4000000 in
set_option maxRecDepth 100000 in
/-- JinjaTongueModel() -/
theorem c_Model_init (l : Launch) (G : pT) (h0 : Nat) : PM l G pX0 yX12_init cX12_init 1 none ({ frames := 2, cells := 78, slots := 578524, locals := 60 }) [.ref h0] [(h0, .inr (9, [.int 0, .null, .int 0, .null, .int 0, .null, .null, .null, .null, .int 0, .null, .null, .null, .int 0, .int 0, .int 0, .int 0, .null, .null, .null, .null, .null, .null, .null, .null, .null, .null, .int 0, .null, .null, .null, .int 0, .null, .null, .int 0, .int 0, .null, .null, .null, .null, .null, .null, .null, .null, .int 0, .null, .null, .null, .null, .int 0, .null, .null, .null, .null, .null, .null, .null, .null, .null, .int 0, .int 0, .null, .null, .null, .int 0, .int 0, .int 0, .int 0, .int 0, .int 0, .int 0, .null, .null, .int 0, .int 0, .int 0, .int 0, .int 0, .int 0, .int 0, .int 0, .int 0, .int 0, .int 0, .null, .int 0, .null, .int 0, .null, .null, .null, .null, .null, .null, .null, .null, .null, .int 0, .int 0, .int 0, .null, .int 0, .int 0, .null, .null, .null, .null, .null, .null, .null, .null, .int 0, .null, .null, .null, .int 0, .int 0, .int 0, .int 0, .int 0, .int 0, .int 0, .int 0, .int 0, .int 0, .int 0, .int 0, .null, .int 0, .null, .int 0, .null, .null, .null]))] (fun (v : Option Value) (_ : Nat → Nat) => v = none) (fun a => (h0, .inr (9, mF a)) :: mArr G a) := by
  intro sz
  refine Met.ofW (cc := cX12_init) (maxL := 1) (ret := none) (by decide) rfl ?_
  intro p e s m args below meth c s₁ B hml hv
  obtain ⟨rfl, hsz, hP, hD0, hE, hX⟩ := hv
  have hx := B.exec
  have hb := B.bytes
  have hr := B.returns
  have hts := atoms_spec (ws := Cond.code yX12_init cX12_init 1 none :: pw) B.pre
  have hq : ∀ w ∈ pw, w.before _ s = true := fun w h => hts w (List.mem_cons_of_mem _ h)
  have hown : s.vm.findClass RX12 = some m.cls := findClass_of_methodNamed B.named
  have hlocks := B.notSynchronized
  have hin : meth.name = "<init>" := (name_of_methodNamed B.named B.method).1
  subst hsz
  have hD := hD0.self (sz := s.heap.size)
  have hA : ∀ q : Nat, s.heap.size ≤ q → va_A [(h0, .inr (9, [.int 0, .null, .int 0, .null, .int 0, .null, .null, .null, .null, .int 0, .null, .null, .null, .int 0, .int 0, .int 0, .int 0, .null, .null, .null, .null, .null, .null, .null, .null, .null, .null, .int 0, .null, .null, .null, .int 0, .null, .null, .int 0, .int 0, .null, .null, .null, .null, .null, .null, .null, .null, .int 0, .null, .null, .null, .null, .int 0, .null, .null, .null, .null, .null, .null, .null, .null, .null, .int 0, .int 0, .null, .null, .null, .int 0, .int 0, .int 0, .int 0, .int 0, .int 0, .int 0, .null, .null, .int 0, .int 0, .int 0, .int 0, .int 0, .int 0, .int 0, .int 0, .int 0, .int 0, .int 0, .null, .int 0, .null, .int 0, .null, .null, .null, .null, .null, .null, .null, .null, .null, .int 0, .int 0, .int 0, .null, .int 0, .int 0, .null, .null, .null, .null, .null, .null, .null, .null, .int 0, .null, .null, .null, .int 0, .int 0, .int 0, .int 0, .int 0, .int 0, .int 0, .int 0, .int 0, .int 0, .int 0, .int 0, .null, .int 0, .null, .int 0, .null, .null, .null]))] s.heap.size q := fun q h => Or.inr h
  have hP : va_P G.1 pCl [(h0, .inr (9, [.int 0, .null, .int 0, .null, .int 0, .null, .null, .null, .null, .int 0, .null, .null, .null, .int 0, .int 0, .int 0, .int 0, .null, .null, .null, .null, .null, .null, .null, .null, .null, .null, .int 0, .null, .null, .null, .int 0, .null, .null, .int 0, .int 0, .null, .null, .null, .null, .null, .null, .null, .null, .int 0, .null, .null, .null, .null, .int 0, .null, .null, .null, .null, .null, .null, .null, .null, .null, .int 0, .int 0, .null, .null, .null, .int 0, .int 0, .int 0, .int 0, .int 0, .int 0, .int 0, .null, .null, .int 0, .int 0, .int 0, .int 0, .int 0, .int 0, .int 0, .int 0, .int 0, .int 0, .int 0, .null, .int 0, .null, .int 0, .null, .null, .null, .null, .null, .null, .null, .null, .null, .int 0, .int 0, .int 0, .null, .int 0, .int 0, .null, .null, .null, .null, .null, .null, .null, .null, .int 0, .null, .null, .null, .int 0, .int 0, .int 0, .int 0, .int 0, .int 0, .int 0, .int 0, .int 0, .int 0, .int 0, .int 0, .null, .int 0, .null, .int 0, .null, .null, .null]))] s.heap := hP
  generalize va_A [(h0, .inr (9, [.int 0, .null, .int 0, .null, .int 0, .null, .null, .null, .null, .int 0, .null, .null, .null, .int 0, .int 0, .int 0, .int 0, .null, .null, .null, .null, .null, .null, .null, .null, .null, .null, .int 0, .null, .null, .null, .int 0, .null, .null, .int 0, .int 0, .null, .null, .null, .null, .null, .null, .null, .null, .int 0, .null, .null, .null, .null, .int 0, .null, .null, .null, .null, .null, .null, .null, .null, .null, .int 0, .int 0, .null, .null, .null, .int 0, .int 0, .int 0, .int 0, .int 0, .int 0, .int 0, .null, .null, .int 0, .int 0, .int 0, .int 0, .int 0, .int 0, .int 0, .int 0, .int 0, .int 0, .int 0, .null, .int 0, .null, .int 0, .null, .null, .null, .null, .null, .null, .null, .null, .null, .int 0, .int 0, .int 0, .null, .int 0, .int 0, .null, .null, .null, .null, .null, .null, .null, .null, .int 0, .null, .null, .null, .int 0, .int 0, .int 0, .int 0, .int 0, .int 0, .int 0, .int 0, .int 0, .int 0, .int 0, .int 0, .null, .int 0, .null, .int 0, .null, .null, .null]))] s.heap.size = A at hD hE hA ⊢
  have hS : va_S A s.heap s.heap [] := va_S.rf
  have hl := lv_entry ([.ref h0]) (n := 1) (Nat.le_of_ble_eq_true rfl)
  rw [lg_entry_eq]
  generalize (lg_sl ([.ref h0]) ++ List.replicate (1 - (lg_sl ([.ref h0])).length) Slot.unset).toArray = ls at hl ⊢
  have hl : lv_has ls 1 [(0, .ref h0)] := hl
  obtain ⟨fs, e0⟩ : ∃ z : List Value, z = [.int 0, .null, .int 0, .null, .int 0, .null, .null, .null, .null, .int 0, .null, .null, .null, .int 0, .int 0, .int 0, .int 0, .null, .null, .null, .null, .null, .null, .null, .null, .null, .null, .int 0, .null, .null, .null, .int 0, .null, .null, .int 0, .int 0, .null, .null, .null, .null, .null, .null, .null, .null, .int 0, .null, .null, .null, .null, .int 0, .null, .null, .null, .null, .null, .null, .null, .null, .null, .int 0, .int 0, .null, .null, .null, .int 0, .int 0, .int 0, .int 0, .int 0, .int 0, .int 0, .null, .null, .int 0, .int 0, .int 0, .int 0, .int 0, .int 0, .int 0, .int 0, .int 0, .int 0, .int 0, .null, .int 0, .null, .int 0, .null, .null, .null, .null, .null, .null, .null, .null, .null, .int 0, .int 0, .int 0, .null, .int 0, .int 0, .null, .null, .null, .null, .null, .null, .null, .null, .int 0, .null, .null, .null, .int 0, .int 0, .int 0, .int 0, .int 0, .int 0, .int 0, .int 0, .int 0, .int 0, .int 0, .int 0, .null, .int 0, .null, .int 0, .null, .null, .null] := ⟨_, rfl⟩
  have hn : fs.length = 134 := by rw [e0]; rfl
  obtain ⟨wa, ew0⟩ : ∃ z : va_W, z = [] := ⟨_, rfl⟩
  have hP : va_P G.1 pCl ((h0, .inr (9, fs)) :: wa) s.heap := by rw [e0, ew0]; exact hP
  have hD : va_D A ((h0, .inr (9, fs)) :: wa) := by rw [e0, ew0]; exact hD
  refine lv_aload_n hx hb dX12_init_0 rfl (lv_at hl 0 rfl) ?_
  refine W.objInit hx hb hown (hq _ pw_1429) (hq _ pw_2) (hq _ pw_3) rfl (by rw [hml]; exact hl.1) rfl dX12_init_1 (Nat.le_of_ble_eq_true rfl) (Nat.le_of_ble_eq_true rfl) ?_
  refine W.eq (g2 := F0 m 4 ls []) rfl ?_
  refine lv_aload_n hx hb dX12_init_4 rfl (lv_at hl 0 rfl) ?_
  refine lv_sipush (v := 5000) hx hb dX12_init_5 (by decide) ?_
  refine pn_newa (G := G) (atype := .int) (a0 := (5000, .inl (fun _ => 0))) (N' := 5000) hx hb (hq _ pw_6) rfl hE.1.2.1 hP hD hS hA (fun _ => rfl) (by decide) (by decide) (by decide) (Nat.le_of_ble_eq_true rfl) (Nat.le_of_ble_eq_true rfl) dX12_init_8 (fun q1 H hP hD hS => ?_)
  obtain ⟨wa2, ew3⟩ : ∃ z : va_W, z = wa ++ [(q1, .inl (G.2.1 0, 5000, .inl (fun _ => 0)))] := ⟨_, rfl⟩
  have hP : va_P G.1 pCl ((h0, .inr (9, fs)) :: wa2) H := by rw [ew3]; exact hP
  have hD : va_D A ((h0, .inr (9, fs)) :: wa2) := by rw [ew3]; exact hD
  refine W.widen (k := 1) (n := 5000) (Nat.le_of_ble_eq_true rfl) (Nat.le_of_ble_eq_true rfl) ?_
  refine va_putF (D := G.1) (ci := 9) (v := .ref q1) (ty := (.array .int)) (C := RX12) (T := TX12) (N := 134) hx hb hq pin_wsX120 tyX12 tyX12_ok nmX12 hown hE.1.1 hP hD hS 0 rfl rfl 1 (by decide) (by rw [tFX12_1]; exact hq _ pw_1430) (fun _ h9 => h9) (by rw [tFX12_1]) hin (by rw [tFX12_1]; rfl) (by rw [tFX12_1]; decide +kernel) rfl rfl (by rw [hn]; decide) dX12_init_10 (fun H locs hP hD hS => ?_)
  obtain ⟨fs4, e5⟩ : ∃ z : List Value, z = fs.set 1 (.ref q1) := ⟨_, rfl⟩
  have hn6 : fs4.length = 134 := by rw [e5, List.length_set]; exact hn
  have hP : va_P G.1 pCl ((h0, .inr (9, fs4)) :: wa2) H := by rw [e5]; exact hP
  have hD : va_D A ((h0, .inr (9, fs4)) :: wa2) := by rw [e5]; exact hD
  refine lv_aload_n hx hb dX12_init_13 rfl (lv_at hl 0 rfl) ?_
  refine lv_sipush (v := 5000) hx hb dX12_init_14 (by decide) ?_
  refine pn_newa (G := G) (atype := .int) (a0 := (5000, .inl (fun _ => 0))) (N' := 5000) hx hb (hq _ pw_6) rfl hE.1.2.1 hP hD hS hA (fun _ => rfl) (by decide) (by decide) (by decide) (Nat.le_of_ble_eq_true rfl) (Nat.le_of_ble_eq_true rfl) dX12_init_17 (fun q7 H hP hD hS => ?_)
  obtain ⟨wa8, ew9⟩ : ∃ z : va_W, z = wa2 ++ [(q7, .inl (G.2.1 0, 5000, .inl (fun _ => 0)))] := ⟨_, rfl⟩
  have hP : va_P G.1 pCl ((h0, .inr (9, fs4)) :: wa8) H := by rw [ew9]; exact hP
  have hD : va_D A ((h0, .inr (9, fs4)) :: wa8) := by rw [ew9]; exact hD
  refine W.widen (k := 2) (n := 10000) (Nat.le_of_ble_eq_true rfl) (Nat.le_of_ble_eq_true rfl) ?_
  refine va_putF (D := G.1) (ci := 9) (v := .ref q7) (ty := (.array .int)) (C := RX12) (T := TX12) (N := 134) hx hb hq pin_wsX120 tyX12 tyX12_ok nmX12 hown hE.1.1 hP hD hS 0 rfl rfl 3 (by decide) (by rw [tFX12_3]; exact hq _ pw_1431) (fun _ h9 => h9) (by rw [tFX12_3]) hin (by rw [tFX12_3]; rfl) (by rw [tFX12_3]; decide +kernel) rfl rfl (by rw [hn6]; decide) dX12_init_19 (fun H locs hP hD hS => ?_)
  obtain ⟨fs10, e11⟩ : ∃ z : List Value, z = fs4.set 3 (.ref q7) := ⟨_, rfl⟩
  have hn12 : fs10.length = 134 := by rw [e11, List.length_set]; exact hn6
  have hP : va_P G.1 pCl ((h0, .inr (9, fs10)) :: wa8) H := by rw [e11]; exact hP
  have hD : va_D A ((h0, .inr (9, fs10)) :: wa8) := by rw [e11]; exact hD
  refine lv_aload_n hx hb dX12_init_22 rfl (lv_at hl 0 rfl) ?_
  refine lv_sipush (v := 5001) hx hb dX12_init_23 (by decide) ?_
  refine pn_newa (G := G) (atype := .int) (a0 := (5001, .inl (fun _ => 0))) (N' := 5001) hx hb (hq _ pw_6) rfl hE.1.2.1 hP hD hS hA (fun _ => rfl) (by decide) (by decide) (by decide) (Nat.le_of_ble_eq_true rfl) (Nat.le_of_ble_eq_true rfl) dX12_init_26 (fun q13 H hP hD hS => ?_)
  obtain ⟨wa14, ew15⟩ : ∃ z : va_W, z = wa8 ++ [(q13, .inl (G.2.1 0, 5001, .inl (fun _ => 0)))] := ⟨_, rfl⟩
  have hP : va_P G.1 pCl ((h0, .inr (9, fs10)) :: wa14) H := by rw [ew15]; exact hP
  have hD : va_D A ((h0, .inr (9, fs10)) :: wa14) := by rw [ew15]; exact hD
  refine W.widen (k := 3) (n := 15001) (Nat.le_of_ble_eq_true rfl) (Nat.le_of_ble_eq_true rfl) ?_
  refine va_putF (D := G.1) (ci := 9) (v := .ref q13) (ty := (.array .int)) (C := RX12) (T := TX12) (N := 134) hx hb hq pin_wsX120 tyX12 tyX12_ok nmX12 hown hE.1.1 hP hD hS 0 rfl rfl 5 (by decide) (by rw [tFX12_5]; exact hq _ pw_1432) (fun _ h9 => h9) (by rw [tFX12_5]) hin (by rw [tFX12_5]; rfl) (by rw [tFX12_5]; decide +kernel) rfl rfl (by rw [hn12]; decide) dX12_init_28 (fun H locs hP hD hS => ?_)
  obtain ⟨fs16, e17⟩ : ∃ z : List Value, z = fs10.set 5 (.ref q13) := ⟨_, rfl⟩
  have hn18 : fs16.length = 134 := by rw [e17, List.length_set]; exact hn12
  have hP : va_P G.1 pCl ((h0, .inr (9, fs16)) :: wa14) H := by rw [e17]; exact hP
  have hD : va_D A ((h0, .inr (9, fs16)) :: wa14) := by rw [e17]; exact hD
  refine lv_aload_n hx hb dX12_init_31 rfl (lv_at hl 0 rfl) ?_
  refine lv_sipush (v := 5001) hx hb dX12_init_32 (by decide) ?_
  refine pn_newa (G := G) (atype := .int) (a0 := (5001, .inl (fun _ => 0))) (N' := 5001) hx hb (hq _ pw_6) rfl hE.1.2.1 hP hD hS hA (fun _ => rfl) (by decide) (by decide) (by decide) (Nat.le_of_ble_eq_true rfl) (Nat.le_of_ble_eq_true rfl) dX12_init_35 (fun q19 H hP hD hS => ?_)
  obtain ⟨wa20, ew21⟩ : ∃ z : va_W, z = wa14 ++ [(q19, .inl (G.2.1 0, 5001, .inl (fun _ => 0)))] := ⟨_, rfl⟩
  have hP : va_P G.1 pCl ((h0, .inr (9, fs16)) :: wa20) H := by rw [ew21]; exact hP
  have hD : va_D A ((h0, .inr (9, fs16)) :: wa20) := by rw [ew21]; exact hD
  refine W.widen (k := 4) (n := 20002) (Nat.le_of_ble_eq_true rfl) (Nat.le_of_ble_eq_true rfl) ?_
  refine va_putF (D := G.1) (ci := 9) (v := .ref q19) (ty := (.array .int)) (C := RX12) (T := TX12) (N := 134) hx hb hq pin_wsX120 tyX12 tyX12_ok nmX12 hown hE.1.1 hP hD hS 0 rfl rfl 6 (by decide) (by rw [tFX12_6]; exact hq _ pw_1433) (fun _ h9 => h9) (by rw [tFX12_6]) hin (by rw [tFX12_6]; rfl) (by rw [tFX12_6]; decide +kernel) rfl rfl (by rw [hn18]; decide) dX12_init_37 (fun H locs hP hD hS => ?_)
  obtain ⟨fs22, e23⟩ : ∃ z : List Value, z = fs16.set 6 (.ref q19) := ⟨_, rfl⟩
  have hn24 : fs22.length = 134 := by rw [e23, List.length_set]; exact hn18
  have hP : va_P G.1 pCl ((h0, .inr (9, fs22)) :: wa20) H := by rw [e23]; exact hP
  have hD : va_D A ((h0, .inr (9, fs22)) :: wa20) := by rw [e23]; exact hD
  refine lv_aload_n hx hb dX12_init_40 rfl (lv_at hl 0 rfl) ?_
  refine lv_sipush (v := 5001) hx hb dX12_init_41 (by decide) ?_
  refine pn_newa (G := G) (atype := .int) (a0 := (5001, .inl (fun _ => 0))) (N' := 5001) hx hb (hq _ pw_6) rfl hE.1.2.1 hP hD hS hA (fun _ => rfl) (by decide) (by decide) (by decide) (Nat.le_of_ble_eq_true rfl) (Nat.le_of_ble_eq_true rfl) dX12_init_44 (fun q25 H hP hD hS => ?_)
  obtain ⟨wa26, ew27⟩ : ∃ z : va_W, z = wa20 ++ [(q25, .inl (G.2.1 0, 5001, .inl (fun _ => 0)))] := ⟨_, rfl⟩
  have hP : va_P G.1 pCl ((h0, .inr (9, fs22)) :: wa26) H := by rw [ew27]; exact hP
  have hD : va_D A ((h0, .inr (9, fs22)) :: wa26) := by rw [ew27]; exact hD
  refine W.widen (k := 5) (n := 25003) (Nat.le_of_ble_eq_true rfl) (Nat.le_of_ble_eq_true rfl) ?_
  refine va_putF (D := G.1) (ci := 9) (v := .ref q25) (ty := (.array .int)) (C := RX12) (T := TX12) (N := 134) hx hb hq pin_wsX120 tyX12 tyX12_ok nmX12 hown hE.1.1 hP hD hS 0 rfl rfl 7 (by decide) (by rw [tFX12_7]; exact hq _ pw_1434) (fun _ h9 => h9) (by rw [tFX12_7]) hin (by rw [tFX12_7]; rfl) (by rw [tFX12_7]; decide +kernel) rfl rfl (by rw [hn24]; decide) dX12_init_46 (fun H locs hP hD hS => ?_)
  obtain ⟨fs28, e29⟩ : ∃ z : List Value, z = fs22.set 7 (.ref q25) := ⟨_, rfl⟩
  have hn30 : fs28.length = 134 := by rw [e29, List.length_set]; exact hn24
  have hP : va_P G.1 pCl ((h0, .inr (9, fs28)) :: wa26) H := by rw [e29]; exact hP
  have hD : va_D A ((h0, .inr (9, fs28)) :: wa26) := by rw [e29]; exact hD
  refine lv_aload_n hx hb dX12_init_49 rfl (lv_at hl 0 rfl) ?_
  refine lv_sipush (v := 5001) hx hb dX12_init_50 (by decide) ?_
  refine pn_newa (G := G) (atype := .int) (a0 := (5001, .inl (fun _ => 0))) (N' := 5001) hx hb (hq _ pw_6) rfl hE.1.2.1 hP hD hS hA (fun _ => rfl) (by decide) (by decide) (by decide) (Nat.le_of_ble_eq_true rfl) (Nat.le_of_ble_eq_true rfl) dX12_init_53 (fun q31 H hP hD hS => ?_)
  obtain ⟨wa32, ew33⟩ : ∃ z : va_W, z = wa26 ++ [(q31, .inl (G.2.1 0, 5001, .inl (fun _ => 0)))] := ⟨_, rfl⟩
  have hP : va_P G.1 pCl ((h0, .inr (9, fs28)) :: wa32) H := by rw [ew33]; exact hP
  have hD : va_D A ((h0, .inr (9, fs28)) :: wa32) := by rw [ew33]; exact hD
  refine W.widen (k := 6) (n := 30004) (Nat.le_of_ble_eq_true rfl) (Nat.le_of_ble_eq_true rfl) ?_
  refine va_putF (D := G.1) (ci := 9) (v := .ref q31) (ty := (.array .int)) (C := RX12) (T := TX12) (N := 134) hx hb hq pin_wsX120 tyX12 tyX12_ok nmX12 hown hE.1.1 hP hD hS 0 rfl rfl 8 (by decide) (by rw [tFX12_8]; exact hq _ pw_1435) (fun _ h9 => h9) (by rw [tFX12_8]) hin (by rw [tFX12_8]; rfl) (by rw [tFX12_8]; decide +kernel) rfl rfl (by rw [hn30]; decide) dX12_init_55 (fun H locs hP hD hS => ?_)
  obtain ⟨fs34, e35⟩ : ∃ z : List Value, z = fs28.set 8 (.ref q31) := ⟨_, rfl⟩
  have hn36 : fs34.length = 134 := by rw [e35, List.length_set]; exact hn30
  have hP : va_P G.1 pCl ((h0, .inr (9, fs34)) :: wa32) H := by rw [e35]; exact hP
  have hD : va_D A ((h0, .inr (9, fs34)) :: wa32) := by rw [e35]; exact hD
  refine lv_aload_n hx hb dX12_init_58 rfl (lv_at hl 0 rfl) ?_
  refine lv_sipush (v := 5100) hx hb dX12_init_59 (by decide) ?_
  refine pn_newa (G := G) (atype := .int) (a0 := (5100, .inl (fun _ => 0))) (N' := 5100) hx hb (hq _ pw_6) rfl hE.1.2.1 hP hD hS hA (fun _ => rfl) (by decide) (by decide) (by decide) (Nat.le_of_ble_eq_true rfl) (Nat.le_of_ble_eq_true rfl) dX12_init_62 (fun q37 H hP hD hS => ?_)
  have en38 : fs34 = [.int 0, .ref q1, .int 0, .ref q7, .int 0, .ref q13, .ref q19, .ref q25, .ref q31, .int 0, .null, .null, .null, .int 0, .int 0, .int 0, .int 0, .null, .null, .null, .null, .null, .null, .null, .null, .null, .null, .int 0, .null, .null, .null, .int 0, .null, .null, .int 0, .int 0, .null, .null, .null, .null, .null, .null, .null, .null, .int 0, .null, .null, .null, .null, .int 0, .null, .null, .null, .null, .null, .null, .null, .null, .null, .int 0, .int 0, .null, .null, .null, .int 0, .int 0, .int 0, .int 0, .int 0, .int 0, .int 0, .null, .null, .int 0, .int 0, .int 0, .int 0, .int 0, .int 0, .int 0, .int 0, .int 0, .int 0, .int 0, .null, .int 0, .null, .int 0, .null, .null, .null, .null, .null, .null, .null, .null, .null, .int 0, .int 0, .int 0, .null, .int 0, .int 0, .null, .null, .null, .null, .null, .null, .null, .null, .int 0, .null, .null, .null, .int 0, .int 0, .int 0, .int 0, .int 0, .int 0, .int 0, .int 0, .int 0, .int 0, .int 0, .int 0, .null, .int 0, .null, .int 0, .null, .null, .null] := by rw [e35, e29, e23, e17, e11, e5, e0]; rfl
  have en39 : wa32 = [(q1, .inl (G.2.1 0, 5000, .inl (fun _ => 0))), (q7, .inl (G.2.1 0, 5000, .inl (fun _ => 0))), (q13, .inl (G.2.1 0, 5001, .inl (fun _ => 0))), (q19, .inl (G.2.1 0, 5001, .inl (fun _ => 0))), (q25, .inl (G.2.1 0, 5001, .inl (fun _ => 0))), (q31, .inl (G.2.1 0, 5001, .inl (fun _ => 0)))] := by rw [ew33, ew27, ew21, ew15, ew9, ew3, ew0]; rfl
  obtain ⟨wa40, ew41⟩ : ∃ z : va_W, z = wa32 ++ [(q37, .inl (G.2.1 0, 5100, .inl (fun _ => 0)))] := ⟨_, rfl⟩
  have hP : va_P G.1 pCl ((h0, .inr (9, fs34)) :: wa40) H := by rw [ew41]; exact hP
  have hD : va_D A ((h0, .inr (9, fs34)) :: wa40) := by rw [ew41]; exact hD
  refine W.widen (k := 7) (n := 35104) (Nat.le_of_ble_eq_true rfl) (Nat.le_of_ble_eq_true rfl) ?_
  refine va_putF (D := G.1) (ci := 9) (v := .ref q37) (ty := (.array .int)) (C := RX12) (T := TX12) (N := 134) hx hb hq pin_wsX120 tyX12 tyX12_ok nmX12 hown hE.1.1 hP hD hS 0 rfl rfl 10 (by decide) (by rw [tFX12_10]; exact hq _ pw_1436) (fun _ h9 => h9) (by rw [tFX12_10]) hin (by rw [tFX12_10]; rfl) (by rw [tFX12_10]; decide +kernel) rfl rfl (by rw [hn36]; decide) dX12_init_64 (fun H locs hP hD hS => ?_)
  obtain ⟨fs42, e43⟩ : ∃ z : List Value, z = fs34.set 10 (.ref q37) := ⟨_, rfl⟩
  have hn44 : fs42.length = 134 := by rw [e43, List.length_set]; exact hn36
  have hP : va_P G.1 pCl ((h0, .inr (9, fs42)) :: wa40) H := by rw [e43]; exact hP
  have hD : va_D A ((h0, .inr (9, fs42)) :: wa40) := by rw [e43]; exact hD
  refine lv_aload_n hx hb dX12_init_67 rfl (lv_at hl 0 rfl) ?_
  refine lv_sipush (v := 5100) hx hb dX12_init_68 (by decide) ?_
  refine pn_newa (G := G) (atype := .int) (a0 := (5100, .inl (fun _ => 0))) (N' := 5100) hx hb (hq _ pw_6) rfl hE.1.2.1 hP hD hS hA (fun _ => rfl) (by decide) (by decide) (by decide) (Nat.le_of_ble_eq_true rfl) (Nat.le_of_ble_eq_true rfl) dX12_init_71 (fun q45 H hP hD hS => ?_)
  obtain ⟨wa46, ew47⟩ : ∃ z : va_W, z = wa40 ++ [(q45, .inl (G.2.1 0, 5100, .inl (fun _ => 0)))] := ⟨_, rfl⟩
  have hP : va_P G.1 pCl ((h0, .inr (9, fs42)) :: wa46) H := by rw [ew47]; exact hP
  have hD : va_D A ((h0, .inr (9, fs42)) :: wa46) := by rw [ew47]; exact hD
  refine W.widen (k := 8) (n := 40204) (Nat.le_of_ble_eq_true rfl) (Nat.le_of_ble_eq_true rfl) ?_
  refine va_putF (D := G.1) (ci := 9) (v := .ref q45) (ty := (.array .int)) (C := RX12) (T := TX12) (N := 134) hx hb hq pin_wsX120 tyX12 tyX12_ok nmX12 hown hE.1.1 hP hD hS 0 rfl rfl 11 (by decide) (by rw [tFX12_11]; exact hq _ pw_1437) (fun _ h9 => h9) (by rw [tFX12_11]) hin (by rw [tFX12_11]; rfl) (by rw [tFX12_11]; decide +kernel) rfl rfl (by rw [hn44]; decide) dX12_init_73 (fun H locs hP hD hS => ?_)
  obtain ⟨fs48, e49⟩ : ∃ z : List Value, z = fs42.set 11 (.ref q45) := ⟨_, rfl⟩
  have hn50 : fs48.length = 134 := by rw [e49, List.length_set]; exact hn44
  have hP : va_P G.1 pCl ((h0, .inr (9, fs48)) :: wa46) H := by rw [e49]; exact hP
  have hD : va_D A ((h0, .inr (9, fs48)) :: wa46) := by rw [e49]; exact hD
  refine lv_aload_n hx hb dX12_init_76 rfl (lv_at hl 0 rfl) ?_
  refine lv_sipush (v := 5100) hx hb dX12_init_77 (by decide) ?_
  refine pn_newa (G := G) (atype := .byte) (a0 := (5100, .inl (fun _ => 0))) (N' := 5100) hx hb (hq _ pw_1244) rfl hE.1.2.2.1 hP hD hS hA (fun _ => rfl) (by decide) (by decide) (by decide) (Nat.le_of_ble_eq_true rfl) (Nat.le_of_ble_eq_true rfl) dX12_init_80 (fun q51 H hP hD hS => ?_)
  obtain ⟨wa52, ew53⟩ : ∃ z : va_W, z = wa46 ++ [(q51, .inl (G.2.1 1, 5100, .inl (fun _ => 0)))] := ⟨_, rfl⟩
  have hP : va_P G.1 pCl ((h0, .inr (9, fs48)) :: wa52) H := by rw [ew53]; exact hP
  have hD : va_D A ((h0, .inr (9, fs48)) :: wa52) := by rw [ew53]; exact hD
  refine W.widen (k := 9) (n := 45304) (Nat.le_of_ble_eq_true rfl) (Nat.le_of_ble_eq_true rfl) ?_
  refine va_putF (D := G.1) (ci := 9) (v := .ref q51) (ty := (.array .byte)) (C := RX12) (T := TX12) (N := 134) hx hb hq pin_wsX120 tyX12 tyX12_ok nmX12 hown hE.1.1 hP hD hS 0 rfl rfl 12 (by decide) (by rw [tFX12_12]; exact hq _ pw_1438) (fun _ h9 => h9) (by rw [tFX12_12]) hin (by rw [tFX12_12]; rfl) (by rw [tFX12_12]; decide +kernel) rfl rfl (by rw [hn50]; decide) dX12_init_82 (fun H locs hP hD hS => ?_)
  obtain ⟨fs54, e55⟩ : ∃ z : List Value, z = fs48.set 12 (.ref q51) := ⟨_, rfl⟩
  have hn56 : fs54.length = 134 := by rw [e55, List.length_set]; exact hn50
  have hP : va_P G.1 pCl ((h0, .inr (9, fs54)) :: wa52) H := by rw [e55]; exact hP
  have hD : va_D A ((h0, .inr (9, fs54)) :: wa52) := by rw [e55]; exact hD
  refine lv_aload_n hx hb dX12_init_85 rfl (lv_at hl 0 rfl) ?_
  refine lv_sipush (v := 12000) hx hb dX12_init_86 (by decide) ?_
  refine pn_newa (G := G) (atype := .int) (a0 := (12000, .inl (fun _ => 0))) (N' := 12000) hx hb (hq _ pw_6) rfl hE.1.2.1 hP hD hS hA (fun _ => rfl) (by decide) (by decide) (by decide) (Nat.le_of_ble_eq_true rfl) (Nat.le_of_ble_eq_true rfl) dX12_init_89 (fun q57 H hP hD hS => ?_)
  obtain ⟨wa58, ew59⟩ : ∃ z : va_W, z = wa52 ++ [(q57, .inl (G.2.1 0, 12000, .inl (fun _ => 0)))] := ⟨_, rfl⟩
  have hP : va_P G.1 pCl ((h0, .inr (9, fs54)) :: wa58) H := by rw [ew59]; exact hP
  have hD : va_D A ((h0, .inr (9, fs54)) :: wa58) := by rw [ew59]; exact hD
  refine W.widen (k := 10) (n := 57304) (Nat.le_of_ble_eq_true rfl) (Nat.le_of_ble_eq_true rfl) ?_
  refine va_putF (D := G.1) (ci := 9) (v := .ref q57) (ty := (.array .int)) (C := RX12) (T := TX12) (N := 134) hx hb hq pin_wsX120 tyX12 tyX12_ok nmX12 hown hE.1.1 hP hD hS 0 rfl rfl 17 (by decide) (by rw [tFX12_17]; exact hq _ pw_1439) (fun _ h9 => h9) (by rw [tFX12_17]) hin (by rw [tFX12_17]; rfl) (by rw [tFX12_17]; decide +kernel) rfl rfl (by rw [hn56]; decide) dX12_init_91 (fun H locs hP hD hS => ?_)
  obtain ⟨fs60, e61⟩ : ∃ z : List Value, z = fs54.set 17 (.ref q57) := ⟨_, rfl⟩
  have hn62 : fs60.length = 134 := by rw [e61, List.length_set]; exact hn56
  have hP : va_P G.1 pCl ((h0, .inr (9, fs60)) :: wa58) H := by rw [e61]; exact hP
  have hD : va_D A ((h0, .inr (9, fs60)) :: wa58) := by rw [e61]; exact hD
  refine lv_aload_n hx hb dX12_init_94 rfl (lv_at hl 0 rfl) ?_
  refine lv_sipush (v := 12000) hx hb dX12_init_95 (by decide) ?_
  refine pn_newa (G := G) (atype := .int) (a0 := (12000, .inl (fun _ => 0))) (N' := 12000) hx hb (hq _ pw_6) rfl hE.1.2.1 hP hD hS hA (fun _ => rfl) (by decide) (by decide) (by decide) (Nat.le_of_ble_eq_true rfl) (Nat.le_of_ble_eq_true rfl) dX12_init_98 (fun q63 H hP hD hS => ?_)
  obtain ⟨wa64, ew65⟩ : ∃ z : va_W, z = wa58 ++ [(q63, .inl (G.2.1 0, 12000, .inl (fun _ => 0)))] := ⟨_, rfl⟩
  have hP : va_P G.1 pCl ((h0, .inr (9, fs60)) :: wa64) H := by rw [ew65]; exact hP
  have hD : va_D A ((h0, .inr (9, fs60)) :: wa64) := by rw [ew65]; exact hD
  refine W.widen (k := 11) (n := 69304) (Nat.le_of_ble_eq_true rfl) (Nat.le_of_ble_eq_true rfl) ?_
  refine va_putF (D := G.1) (ci := 9) (v := .ref q63) (ty := (.array .int)) (C := RX12) (T := TX12) (N := 134) hx hb hq pin_wsX120 tyX12 tyX12_ok nmX12 hown hE.1.1 hP hD hS 0 rfl rfl 18 (by decide) (by rw [tFX12_18]; exact hq _ pw_1440) (fun _ h9 => h9) (by rw [tFX12_18]) hin (by rw [tFX12_18]; rfl) (by rw [tFX12_18]; decide +kernel) rfl rfl (by rw [hn62]; decide) dX12_init_100 (fun H locs hP hD hS => ?_)
  obtain ⟨fs66, e67⟩ : ∃ z : List Value, z = fs60.set 18 (.ref q63) := ⟨_, rfl⟩
  have hn68 : fs66.length = 134 := by rw [e67, List.length_set]; exact hn62
  have hP : va_P G.1 pCl ((h0, .inr (9, fs66)) :: wa64) H := by rw [e67]; exact hP
  have hD : va_D A ((h0, .inr (9, fs66)) :: wa64) := by rw [e67]; exact hD
  refine lv_aload_n hx hb dX12_init_103 rfl (lv_at hl 0 rfl) ?_
  refine lv_sipush (v := 12000) hx hb dX12_init_104 (by decide) ?_
  refine pn_newa (G := G) (atype := .int) (a0 := (12000, .inl (fun _ => 0))) (N' := 12000) hx hb (hq _ pw_6) rfl hE.1.2.1 hP hD hS hA (fun _ => rfl) (by decide) (by decide) (by decide) (Nat.le_of_ble_eq_true rfl) (Nat.le_of_ble_eq_true rfl) dX12_init_107 (fun q69 H hP hD hS => ?_)
  obtain ⟨wa70, ew71⟩ : ∃ z : va_W, z = wa64 ++ [(q69, .inl (G.2.1 0, 12000, .inl (fun _ => 0)))] := ⟨_, rfl⟩
  have hP : va_P G.1 pCl ((h0, .inr (9, fs66)) :: wa70) H := by rw [ew71]; exact hP
  have hD : va_D A ((h0, .inr (9, fs66)) :: wa70) := by rw [ew71]; exact hD
  refine W.widen (k := 12) (n := 81304) (Nat.le_of_ble_eq_true rfl) (Nat.le_of_ble_eq_true rfl) ?_
  refine va_putF (D := G.1) (ci := 9) (v := .ref q69) (ty := (.array .int)) (C := RX12) (T := TX12) (N := 134) hx hb hq pin_wsX120 tyX12 tyX12_ok nmX12 hown hE.1.1 hP hD hS 0 rfl rfl 19 (by decide) (by rw [tFX12_19]; exact hq _ pw_1441) (fun _ h9 => h9) (by rw [tFX12_19]) hin (by rw [tFX12_19]; rfl) (by rw [tFX12_19]; decide +kernel) rfl rfl (by rw [hn68]; decide) dX12_init_109 (fun H locs hP hD hS => ?_)
  obtain ⟨fs72, e73⟩ : ∃ z : List Value, z = fs66.set 19 (.ref q69) := ⟨_, rfl⟩
  have hn74 : fs72.length = 134 := by rw [e73, List.length_set]; exact hn68
  have hP : va_P G.1 pCl ((h0, .inr (9, fs72)) :: wa70) H := by rw [e73]; exact hP
  have hD : va_D A ((h0, .inr (9, fs72)) :: wa70) := by rw [e73]; exact hD
  refine lv_aload_n hx hb dX12_init_112 rfl (lv_at hl 0 rfl) ?_
  refine lv_sipush (v := 12000) hx hb dX12_init_113 (by decide) ?_
  refine pn_newa (G := G) (atype := .int) (a0 := (12000, .inl (fun _ => 0))) (N' := 12000) hx hb (hq _ pw_6) rfl hE.1.2.1 hP hD hS hA (fun _ => rfl) (by decide) (by decide) (by decide) (Nat.le_of_ble_eq_true rfl) (Nat.le_of_ble_eq_true rfl) dX12_init_116 (fun q75 H hP hD hS => ?_)
  have en76 : fs72 = [.int 0, .ref q1, .int 0, .ref q7, .int 0, .ref q13, .ref q19, .ref q25, .ref q31, .int 0, .ref q37, .ref q45, .ref q51, .int 0, .int 0, .int 0, .int 0, .ref q57, .ref q63, .ref q69, .null, .null, .null, .null, .null, .null, .null, .int 0, .null, .null, .null, .int 0, .null, .null, .int 0, .int 0, .null, .null, .null, .null, .null, .null, .null, .null, .int 0, .null, .null, .null, .null, .int 0, .null, .null, .null, .null, .null, .null, .null, .null, .null, .int 0, .int 0, .null, .null, .null, .int 0, .int 0, .int 0, .int 0, .int 0, .int 0, .int 0, .null, .null, .int 0, .int 0, .int 0, .int 0, .int 0, .int 0, .int 0, .int 0, .int 0, .int 0, .int 0, .null, .int 0, .null, .int 0, .null, .null, .null, .null, .null, .null, .null, .null, .null, .int 0, .int 0, .int 0, .null, .int 0, .int 0, .null, .null, .null, .null, .null, .null, .null, .null, .int 0, .null, .null, .null, .int 0, .int 0, .int 0, .int 0, .int 0, .int 0, .int 0, .int 0, .int 0, .int 0, .int 0, .int 0, .null, .int 0, .null, .int 0, .null, .null, .null] := by rw [e73, e67, e61, e55, e49, e43, en38]; rfl
  have en77 : wa70 = [(q1, .inl (G.2.1 0, 5000, .inl (fun _ => 0))), (q7, .inl (G.2.1 0, 5000, .inl (fun _ => 0))), (q13, .inl (G.2.1 0, 5001, .inl (fun _ => 0))), (q19, .inl (G.2.1 0, 5001, .inl (fun _ => 0))), (q25, .inl (G.2.1 0, 5001, .inl (fun _ => 0))), (q31, .inl (G.2.1 0, 5001, .inl (fun _ => 0))), (q37, .inl (G.2.1 0, 5100, .inl (fun _ => 0))), (q45, .inl (G.2.1 0, 5100, .inl (fun _ => 0))), (q51, .inl (G.2.1 1, 5100, .inl (fun _ => 0))), (q57, .inl (G.2.1 0, 12000, .inl (fun _ => 0))), (q63, .inl (G.2.1 0, 12000, .inl (fun _ => 0))), (q69, .inl (G.2.1 0, 12000, .inl (fun _ => 0)))] := by rw [ew71, ew65, ew59, ew53, ew47, ew41, en39]; rfl
  obtain ⟨wa78, ew79⟩ : ∃ z : va_W, z = wa70 ++ [(q75, .inl (G.2.1 0, 12000, .inl (fun _ => 0)))] := ⟨_, rfl⟩
  have hP : va_P G.1 pCl ((h0, .inr (9, fs72)) :: wa78) H := by rw [ew79]; exact hP
  have hD : va_D A ((h0, .inr (9, fs72)) :: wa78) := by rw [ew79]; exact hD
  refine W.widen (k := 13) (n := 93304) (Nat.le_of_ble_eq_true rfl) (Nat.le_of_ble_eq_true rfl) ?_
  refine va_putF (D := G.1) (ci := 9) (v := .ref q75) (ty := (.array .int)) (C := RX12) (T := TX12) (N := 134) hx hb hq pin_wsX120 tyX12 tyX12_ok nmX12 hown hE.1.1 hP hD hS 0 rfl rfl 20 (by decide) (by rw [tFX12_20]; exact hq _ pw_1442) (fun _ h9 => h9) (by rw [tFX12_20]) hin (by rw [tFX12_20]; rfl) (by rw [tFX12_20]; decide +kernel) rfl rfl (by rw [hn74]; decide) dX12_init_118 (fun H locs hP hD hS => ?_)
  obtain ⟨fs80, e81⟩ : ∃ z : List Value, z = fs72.set 20 (.ref q75) := ⟨_, rfl⟩
  have hn82 : fs80.length = 134 := by rw [e81, List.length_set]; exact hn74
  have hP : va_P G.1 pCl ((h0, .inr (9, fs80)) :: wa78) H := by rw [e81]; exact hP
  have hD : va_D A ((h0, .inr (9, fs80)) :: wa78) := by rw [e81]; exact hD
  refine lv_aload_n hx hb dX12_init_121 rfl (lv_at hl 0 rfl) ?_
  refine lv_sipush (v := 12000) hx hb dX12_init_122 (by decide) ?_
  refine pn_newa (G := G) (atype := .int) (a0 := (12000, .inl (fun _ => 0))) (N' := 12000) hx hb (hq _ pw_6) rfl hE.1.2.1 hP hD hS hA (fun _ => rfl) (by decide) (by decide) (by decide) (Nat.le_of_ble_eq_true rfl) (Nat.le_of_ble_eq_true rfl) dX12_init_125 (fun q83 H hP hD hS => ?_)
  obtain ⟨wa84, ew85⟩ : ∃ z : va_W, z = wa78 ++ [(q83, .inl (G.2.1 0, 12000, .inl (fun _ => 0)))] := ⟨_, rfl⟩
  have hP : va_P G.1 pCl ((h0, .inr (9, fs80)) :: wa84) H := by rw [ew85]; exact hP
  have hD : va_D A ((h0, .inr (9, fs80)) :: wa84) := by rw [ew85]; exact hD
  refine W.widen (k := 14) (n := 105304) (Nat.le_of_ble_eq_true rfl) (Nat.le_of_ble_eq_true rfl) ?_
  refine va_putF (D := G.1) (ci := 9) (v := .ref q83) (ty := (.array .int)) (C := RX12) (T := TX12) (N := 134) hx hb hq pin_wsX120 tyX12 tyX12_ok nmX12 hown hE.1.1 hP hD hS 0 rfl rfl 21 (by decide) (by rw [tFX12_21]; exact hq _ pw_1443) (fun _ h9 => h9) (by rw [tFX12_21]) hin (by rw [tFX12_21]; rfl) (by rw [tFX12_21]; decide +kernel) rfl rfl (by rw [hn82]; decide) dX12_init_127 (fun H locs hP hD hS => ?_)
  obtain ⟨fs86, e87⟩ : ∃ z : List Value, z = fs80.set 21 (.ref q83) := ⟨_, rfl⟩
  have hn88 : fs86.length = 134 := by rw [e87, List.length_set]; exact hn82
  have hP : va_P G.1 pCl ((h0, .inr (9, fs86)) :: wa84) H := by rw [e87]; exact hP
  have hD : va_D A ((h0, .inr (9, fs86)) :: wa84) := by rw [e87]; exact hD
  refine lv_aload_n hx hb dX12_init_130 rfl (lv_at hl 0 rfl) ?_
  refine lv_sipush (v := 12000) hx hb dX12_init_131 (by decide) ?_
  refine pn_newa (G := G) (atype := .int) (a0 := (12000, .inl (fun _ => 0))) (N' := 12000) hx hb (hq _ pw_6) rfl hE.1.2.1 hP hD hS hA (fun _ => rfl) (by decide) (by decide) (by decide) (Nat.le_of_ble_eq_true rfl) (Nat.le_of_ble_eq_true rfl) dX12_init_134 (fun q89 H hP hD hS => ?_)
  obtain ⟨wa90, ew91⟩ : ∃ z : va_W, z = wa84 ++ [(q89, .inl (G.2.1 0, 12000, .inl (fun _ => 0)))] := ⟨_, rfl⟩
  have hP : va_P G.1 pCl ((h0, .inr (9, fs86)) :: wa90) H := by rw [ew91]; exact hP
  have hD : va_D A ((h0, .inr (9, fs86)) :: wa90) := by rw [ew91]; exact hD
  refine W.widen (k := 15) (n := 117304) (Nat.le_of_ble_eq_true rfl) (Nat.le_of_ble_eq_true rfl) ?_
  refine va_putF (D := G.1) (ci := 9) (v := .ref q89) (ty := (.array .int)) (C := RX12) (T := TX12) (N := 134) hx hb hq pin_wsX120 tyX12 tyX12_ok nmX12 hown hE.1.1 hP hD hS 0 rfl rfl 22 (by decide) (by rw [tFX12_22]; exact hq _ pw_1444) (fun _ h9 => h9) (by rw [tFX12_22]) hin (by rw [tFX12_22]; rfl) (by rw [tFX12_22]; decide +kernel) rfl rfl (by rw [hn88]; decide) dX12_init_136 (fun H locs hP hD hS => ?_)
  obtain ⟨fs92, e93⟩ : ∃ z : List Value, z = fs86.set 22 (.ref q89) := ⟨_, rfl⟩
  have hn94 : fs92.length = 134 := by rw [e93, List.length_set]; exact hn88
  have hP : va_P G.1 pCl ((h0, .inr (9, fs92)) :: wa90) H := by rw [e93]; exact hP
  have hD : va_D A ((h0, .inr (9, fs92)) :: wa90) := by rw [e93]; exact hD
  refine lv_aload_n hx hb dX12_init_139 rfl (lv_at hl 0 rfl) ?_
  refine lv_sipush (v := 12000) hx hb dX12_init_140 (by decide) ?_
  refine pn_newa (G := G) (atype := .int) (a0 := (12000, .inl (fun _ => 0))) (N' := 12000) hx hb (hq _ pw_6) rfl hE.1.2.1 hP hD hS hA (fun _ => rfl) (by decide) (by decide) (by decide) (Nat.le_of_ble_eq_true rfl) (Nat.le_of_ble_eq_true rfl) dX12_init_143 (fun q95 H hP hD hS => ?_)
  obtain ⟨wa96, ew97⟩ : ∃ z : va_W, z = wa90 ++ [(q95, .inl (G.2.1 0, 12000, .inl (fun _ => 0)))] := ⟨_, rfl⟩
  have hP : va_P G.1 pCl ((h0, .inr (9, fs92)) :: wa96) H := by rw [ew97]; exact hP
  have hD : va_D A ((h0, .inr (9, fs92)) :: wa96) := by rw [ew97]; exact hD
  refine W.widen (k := 16) (n := 129304) (Nat.le_of_ble_eq_true rfl) (Nat.le_of_ble_eq_true rfl) ?_
  refine va_putF (D := G.1) (ci := 9) (v := .ref q95) (ty := (.array .int)) (C := RX12) (T := TX12) (N := 134) hx hb hq pin_wsX120 tyX12 tyX12_ok nmX12 hown hE.1.1 hP hD hS 0 rfl rfl 23 (by decide) (by rw [tFX12_23]; exact hq _ pw_1445) (fun _ h9 => h9) (by rw [tFX12_23]) hin (by rw [tFX12_23]; rfl) (by rw [tFX12_23]; decide +kernel) rfl rfl (by rw [hn94]; decide) dX12_init_145 (fun H locs hP hD hS => ?_)
  obtain ⟨fs98, e99⟩ : ∃ z : List Value, z = fs92.set 23 (.ref q95) := ⟨_, rfl⟩
  have hn100 : fs98.length = 134 := by rw [e99, List.length_set]; exact hn94
  have hP : va_P G.1 pCl ((h0, .inr (9, fs98)) :: wa96) H := by rw [e99]; exact hP
  have hD : va_D A ((h0, .inr (9, fs98)) :: wa96) := by rw [e99]; exact hD
  refine lv_aload_n hx hb dX12_init_148 rfl (lv_at hl 0 rfl) ?_
  refine lv_sipush (v := 12000) hx hb dX12_init_149 (by decide) ?_
  refine pn_newa (G := G) (atype := .int) (a0 := (12000, .inl (fun _ => 0))) (N' := 12000) hx hb (hq _ pw_6) rfl hE.1.2.1 hP hD hS hA (fun _ => rfl) (by decide) (by decide) (by decide) (Nat.le_of_ble_eq_true rfl) (Nat.le_of_ble_eq_true rfl) dX12_init_152 (fun q101 H hP hD hS => ?_)
  obtain ⟨wa102, ew103⟩ : ∃ z : va_W, z = wa96 ++ [(q101, .inl (G.2.1 0, 12000, .inl (fun _ => 0)))] := ⟨_, rfl⟩
  have hP : va_P G.1 pCl ((h0, .inr (9, fs98)) :: wa102) H := by rw [ew103]; exact hP
  have hD : va_D A ((h0, .inr (9, fs98)) :: wa102) := by rw [ew103]; exact hD
  refine W.widen (k := 17) (n := 141304) (Nat.le_of_ble_eq_true rfl) (Nat.le_of_ble_eq_true rfl) ?_
  refine va_putF (D := G.1) (ci := 9) (v := .ref q101) (ty := (.array .int)) (C := RX12) (T := TX12) (N := 134) hx hb hq pin_wsX120 tyX12 tyX12_ok nmX12 hown hE.1.1 hP hD hS 0 rfl rfl 24 (by decide) (by rw [tFX12_24]; exact hq _ pw_1446) (fun _ h9 => h9) (by rw [tFX12_24]) hin (by rw [tFX12_24]; rfl) (by rw [tFX12_24]; decide +kernel) rfl rfl (by rw [hn100]; decide) dX12_init_154 (fun H locs hP hD hS => ?_)
  obtain ⟨fs104, e105⟩ : ∃ z : List Value, z = fs98.set 24 (.ref q101) := ⟨_, rfl⟩
  have hn106 : fs104.length = 134 := by rw [e105, List.length_set]; exact hn100
  have hP : va_P G.1 pCl ((h0, .inr (9, fs104)) :: wa102) H := by rw [e105]; exact hP
  have hD : va_D A ((h0, .inr (9, fs104)) :: wa102) := by rw [e105]; exact hD
  refine lv_aload_n hx hb dX12_init_157 rfl (lv_at hl 0 rfl) ?_
  refine lv_sipush (v := 12000) hx hb dX12_init_158 (by decide) ?_
  refine pn_newa (G := G) (atype := .int) (a0 := (12000, .inl (fun _ => 0))) (N' := 12000) hx hb (hq _ pw_6) rfl hE.1.2.1 hP hD hS hA (fun _ => rfl) (by decide) (by decide) (by decide) (Nat.le_of_ble_eq_true rfl) (Nat.le_of_ble_eq_true rfl) dX12_init_161 (fun q107 H hP hD hS => ?_)
  obtain ⟨wa108, ew109⟩ : ∃ z : va_W, z = wa102 ++ [(q107, .inl (G.2.1 0, 12000, .inl (fun _ => 0)))] := ⟨_, rfl⟩
  have hP : va_P G.1 pCl ((h0, .inr (9, fs104)) :: wa108) H := by rw [ew109]; exact hP
  have hD : va_D A ((h0, .inr (9, fs104)) :: wa108) := by rw [ew109]; exact hD
  refine W.widen (k := 18) (n := 153304) (Nat.le_of_ble_eq_true rfl) (Nat.le_of_ble_eq_true rfl) ?_
  refine va_putF (D := G.1) (ci := 9) (v := .ref q107) (ty := (.array .int)) (C := RX12) (T := TX12) (N := 134) hx hb hq pin_wsX120 tyX12 tyX12_ok nmX12 hown hE.1.1 hP hD hS 0 rfl rfl 25 (by decide) (by rw [tFX12_25]; exact hq _ pw_1447) (fun _ h9 => h9) (by rw [tFX12_25]) hin (by rw [tFX12_25]; rfl) (by rw [tFX12_25]; decide +kernel) rfl rfl (by rw [hn106]; decide) dX12_init_163 (fun H locs hP hD hS => ?_)
  obtain ⟨fs110, e111⟩ : ∃ z : List Value, z = fs104.set 25 (.ref q107) := ⟨_, rfl⟩
  have hn112 : fs110.length = 134 := by rw [e111, List.length_set]; exact hn106
  have hP : va_P G.1 pCl ((h0, .inr (9, fs110)) :: wa108) H := by rw [e111]; exact hP
  have hD : va_D A ((h0, .inr (9, fs110)) :: wa108) := by rw [e111]; exact hD
  refine lv_aload_n hx hb dX12_init_166 rfl (lv_at hl 0 rfl) ?_
  refine lv_sipush (v := 12000) hx hb dX12_init_167 (by decide) ?_
  refine pn_newa (G := G) (atype := .int) (a0 := (12000, .inl (fun _ => 0))) (N' := 12000) hx hb (hq _ pw_6) rfl hE.1.2.1 hP hD hS hA (fun _ => rfl) (by decide) (by decide) (by decide) (Nat.le_of_ble_eq_true rfl) (Nat.le_of_ble_eq_true rfl) dX12_init_170 (fun q113 H hP hD hS => ?_)
  have en114 : fs110 = [.int 0, .ref q1, .int 0, .ref q7, .int 0, .ref q13, .ref q19, .ref q25, .ref q31, .int 0, .ref q37, .ref q45, .ref q51, .int 0, .int 0, .int 0, .int 0, .ref q57, .ref q63, .ref q69, .ref q75, .ref q83, .ref q89, .ref q95, .ref q101, .ref q107, .null, .int 0, .null, .null, .null, .int 0, .null, .null, .int 0, .int 0, .null, .null, .null, .null, .null, .null, .null, .null, .int 0, .null, .null, .null, .null, .int 0, .null, .null, .null, .null, .null, .null, .null, .null, .null, .int 0, .int 0, .null, .null, .null, .int 0, .int 0, .int 0, .int 0, .int 0, .int 0, .int 0, .null, .null, .int 0, .int 0, .int 0, .int 0, .int 0, .int 0, .int 0, .int 0, .int 0, .int 0, .int 0, .null, .int 0, .null, .int 0, .null, .null, .null, .null, .null, .null, .null, .null, .null, .int 0, .int 0, .int 0, .null, .int 0, .int 0, .null, .null, .null, .null, .null, .null, .null, .null, .int 0, .null, .null, .null, .int 0, .int 0, .int 0, .int 0, .int 0, .int 0, .int 0, .int 0, .int 0, .int 0, .int 0, .int 0, .null, .int 0, .null, .int 0, .null, .null, .null] := by rw [e111, e105, e99, e93, e87, e81, en76]; rfl
  have en115 : wa108 = [(q1, .inl (G.2.1 0, 5000, .inl (fun _ => 0))), (q7, .inl (G.2.1 0, 5000, .inl (fun _ => 0))), (q13, .inl (G.2.1 0, 5001, .inl (fun _ => 0))), (q19, .inl (G.2.1 0, 5001, .inl (fun _ => 0))), (q25, .inl (G.2.1 0, 5001, .inl (fun _ => 0))), (q31, .inl (G.2.1 0, 5001, .inl (fun _ => 0))), (q37, .inl (G.2.1 0, 5100, .inl (fun _ => 0))), (q45, .inl (G.2.1 0, 5100, .inl (fun _ => 0))), (q51, .inl (G.2.1 1, 5100, .inl (fun _ => 0))), (q57, .inl (G.2.1 0, 12000, .inl (fun _ => 0))), (q63, .inl (G.2.1 0, 12000, .inl (fun _ => 0))), (q69, .inl (G.2.1 0, 12000, .inl (fun _ => 0))), (q75, .inl (G.2.1 0, 12000, .inl (fun _ => 0))), (q83, .inl (G.2.1 0, 12000, .inl (fun _ => 0))), (q89, .inl (G.2.1 0, 12000, .inl (fun _ => 0))), (q95, .inl (G.2.1 0, 12000, .inl (fun _ => 0))), (q101, .inl (G.2.1 0, 12000, .inl (fun _ => 0))), (q107, .inl (G.2.1 0, 12000, .inl (fun _ => 0)))] := by rw [ew109, ew103, ew97, ew91, ew85, ew79, en77]; rfl
  obtain ⟨wa116, ew117⟩ : ∃ z : va_W, z = wa108 ++ [(q113, .inl (G.2.1 0, 12000, .inl (fun _ => 0)))] := ⟨_, rfl⟩
  have hP : va_P G.1 pCl ((h0, .inr (9, fs110)) :: wa116) H := by rw [ew117]; exact hP
  have hD : va_D A ((h0, .inr (9, fs110)) :: wa116) := by rw [ew117]; exact hD
  refine W.widen (k := 19) (n := 165304) (Nat.le_of_ble_eq_true rfl) (Nat.le_of_ble_eq_true rfl) ?_
  refine va_putF (D := G.1) (ci := 9) (v := .ref q113) (ty := (.array .int)) (C := RX12) (T := TX12) (N := 134) hx hb hq pin_wsX120 tyX12 tyX12_ok nmX12 hown hE.1.1 hP hD hS 0 rfl rfl 26 (by decide) (by rw [tFX12_26]; exact hq _ pw_1448) (fun _ h9 => h9) (by rw [tFX12_26]) hin (by rw [tFX12_26]; rfl) (by rw [tFX12_26]; decide +kernel) rfl rfl (by rw [hn112]; decide) dX12_init_172 (fun H locs hP hD hS => ?_)
  obtain ⟨fs118, e119⟩ : ∃ z : List Value, z = fs110.set 26 (.ref q113) := ⟨_, rfl⟩
  have hn120 : fs118.length = 134 := by rw [e119, List.length_set]; exact hn112
  have hP : va_P G.1 pCl ((h0, .inr (9, fs118)) :: wa116) H := by rw [e119]; exact hP
  have hD : va_D A ((h0, .inr (9, fs118)) :: wa116) := by rw [e119]; exact hD
  refine lv_aload_n hx hb dX12_init_175 rfl (lv_at hl 0 rfl) ?_
  refine lv_sipush (v := 5000) hx hb dX12_init_176 (by decide) ?_
  refine pn_newa (G := G) (atype := .int) (a0 := (5000, .inl (fun _ => 0))) (N' := 5000) hx hb (hq _ pw_6) rfl hE.1.2.1 hP hD hS hA (fun _ => rfl) (by decide) (by decide) (by decide) (Nat.le_of_ble_eq_true rfl) (Nat.le_of_ble_eq_true rfl) dX12_init_179 (fun q121 H hP hD hS => ?_)
  obtain ⟨wa122, ew123⟩ : ∃ z : va_W, z = wa116 ++ [(q121, .inl (G.2.1 0, 5000, .inl (fun _ => 0)))] := ⟨_, rfl⟩
  have hP : va_P G.1 pCl ((h0, .inr (9, fs118)) :: wa122) H := by rw [ew123]; exact hP
  have hD : va_D A ((h0, .inr (9, fs118)) :: wa122) := by rw [ew123]; exact hD
  refine W.widen (k := 20) (n := 170304) (Nat.le_of_ble_eq_true rfl) (Nat.le_of_ble_eq_true rfl) ?_
  refine va_putF (D := G.1) (ci := 9) (v := .ref q121) (ty := (.array .int)) (C := RX12) (T := TX12) (N := 134) hx hb hq pin_wsX120 tyX12 tyX12_ok nmX12 hown hE.1.1 hP hD hS 0 rfl rfl 28 (by decide) (by rw [tFX12_28]; exact hq _ pw_1449) (fun _ h9 => h9) (by rw [tFX12_28]) hin (by rw [tFX12_28]; rfl) (by rw [tFX12_28]; decide +kernel) rfl rfl (by rw [hn120]; decide) dX12_init_181 (fun H locs hP hD hS => ?_)
  obtain ⟨fs124, e125⟩ : ∃ z : List Value, z = fs118.set 28 (.ref q121) := ⟨_, rfl⟩
  have hn126 : fs124.length = 134 := by rw [e125, List.length_set]; exact hn120
  have hP : va_P G.1 pCl ((h0, .inr (9, fs124)) :: wa122) H := by rw [e125]; exact hP
  have hD : va_D A ((h0, .inr (9, fs124)) :: wa122) := by rw [e125]; exact hD
  refine lv_aload_n hx hb dX12_init_184 rfl (lv_at hl 0 rfl) ?_
  refine lv_sipush (v := 5000) hx hb dX12_init_185 (by decide) ?_
  refine pn_newa (G := G) (atype := .boolean) (a0 := (5000, .inl (fun _ => 0))) (N' := 5000) hx hb (hq _ pw_1450) rfl hE.1.2.2.2.2.1 hP hD hS hA (fun _ => rfl) (by decide) (by decide) (by decide) (Nat.le_of_ble_eq_true rfl) (Nat.le_of_ble_eq_true rfl) dX12_init_188 (fun q127 H hP hD hS => ?_)
  obtain ⟨wa128, ew129⟩ : ∃ z : va_W, z = wa122 ++ [(q127, .inl (G.2.1 3, 5000, .inl (fun _ => 0)))] := ⟨_, rfl⟩
  have hP : va_P G.1 pCl ((h0, .inr (9, fs124)) :: wa128) H := by rw [ew129]; exact hP
  have hD : va_D A ((h0, .inr (9, fs124)) :: wa128) := by rw [ew129]; exact hD
  refine W.widen (k := 21) (n := 175304) (Nat.le_of_ble_eq_true rfl) (Nat.le_of_ble_eq_true rfl) ?_
  refine va_putF (D := G.1) (ci := 9) (v := .ref q127) (ty := (.array .boolean)) (C := RX12) (T := TX12) (N := 134) hx hb hq pin_wsX120 tyX12 tyX12_ok nmX12 hown hE.1.1 hP hD hS 0 rfl rfl 29 (by decide) (by rw [tFX12_29]; exact hq _ pw_1451) (fun _ h9 => h9) (by rw [tFX12_29]) hin (by rw [tFX12_29]; rfl) (by rw [tFX12_29]; decide +kernel) rfl rfl (by rw [hn126]; decide) dX12_init_190 (fun H locs hP hD hS => ?_)
  obtain ⟨fs130, e131⟩ : ∃ z : List Value, z = fs124.set 29 (.ref q127) := ⟨_, rfl⟩
  have hn132 : fs130.length = 134 := by rw [e131, List.length_set]; exact hn126
  have hP : va_P G.1 pCl ((h0, .inr (9, fs130)) :: wa128) H := by rw [e131]; exact hP
  have hD : va_D A ((h0, .inr (9, fs130)) :: wa128) := by rw [e131]; exact hD
  refine lv_aload_n hx hb dX12_init_193 rfl (lv_at hl 0 rfl) ?_
  refine lv_sipush (v := 5000) hx hb dX12_init_194 (by decide) ?_
  refine pn_newa (G := G) (atype := .int) (a0 := (5000, .inl (fun _ => 0))) (N' := 5000) hx hb (hq _ pw_6) rfl hE.1.2.1 hP hD hS hA (fun _ => rfl) (by decide) (by decide) (by decide) (Nat.le_of_ble_eq_true rfl) (Nat.le_of_ble_eq_true rfl) dX12_init_197 (fun q133 H hP hD hS => ?_)
  obtain ⟨wa134, ew135⟩ : ∃ z : va_W, z = wa128 ++ [(q133, .inl (G.2.1 0, 5000, .inl (fun _ => 0)))] := ⟨_, rfl⟩
  have hP : va_P G.1 pCl ((h0, .inr (9, fs130)) :: wa134) H := by rw [ew135]; exact hP
  have hD : va_D A ((h0, .inr (9, fs130)) :: wa134) := by rw [ew135]; exact hD
  refine W.widen (k := 22) (n := 180304) (Nat.le_of_ble_eq_true rfl) (Nat.le_of_ble_eq_true rfl) ?_
  refine va_putF (D := G.1) (ci := 9) (v := .ref q133) (ty := (.array .int)) (C := RX12) (T := TX12) (N := 134) hx hb hq pin_wsX120 tyX12 tyX12_ok nmX12 hown hE.1.1 hP hD hS 0 rfl rfl 30 (by decide) (by rw [tFX12_30]; exact hq _ pw_1452) (fun _ h9 => h9) (by rw [tFX12_30]) hin (by rw [tFX12_30]; rfl) (by rw [tFX12_30]; decide +kernel) rfl rfl (by rw [hn132]; decide) dX12_init_199 (fun H locs hP hD hS => ?_)
  obtain ⟨fs136, e137⟩ : ∃ z : List Value, z = fs130.set 30 (.ref q133) := ⟨_, rfl⟩
  have hn138 : fs136.length = 134 := by rw [e137, List.length_set]; exact hn132
  have hP : va_P G.1 pCl ((h0, .inr (9, fs136)) :: wa134) H := by rw [e137]; exact hP
  have hD : va_D A ((h0, .inr (9, fs136)) :: wa134) := by rw [e137]; exact hD
  refine lv_aload_n hx hb dX12_init_202 rfl (lv_at hl 0 rfl) ?_
  refine lv_sipush (v := 5000) hx hb dX12_init_203 (by decide) ?_
  refine pn_newa (G := G) (atype := .int) (a0 := (5000, .inl (fun _ => 0))) (N' := 5000) hx hb (hq _ pw_6) rfl hE.1.2.1 hP hD hS hA (fun _ => rfl) (by decide) (by decide) (by decide) (Nat.le_of_ble_eq_true rfl) (Nat.le_of_ble_eq_true rfl) dX12_init_206 (fun q139 H hP hD hS => ?_)
  obtain ⟨wa140, ew141⟩ : ∃ z : va_W, z = wa134 ++ [(q139, .inl (G.2.1 0, 5000, .inl (fun _ => 0)))] := ⟨_, rfl⟩
  have hP : va_P G.1 pCl ((h0, .inr (9, fs136)) :: wa140) H := by rw [ew141]; exact hP
  have hD : va_D A ((h0, .inr (9, fs136)) :: wa140) := by rw [ew141]; exact hD
  refine W.widen (k := 23) (n := 185304) (Nat.le_of_ble_eq_true rfl) (Nat.le_of_ble_eq_true rfl) ?_
  refine va_putF (D := G.1) (ci := 9) (v := .ref q139) (ty := (.array .int)) (C := RX12) (T := TX12) (N := 134) hx hb hq pin_wsX120 tyX12 tyX12_ok nmX12 hown hE.1.1 hP hD hS 0 rfl rfl 32 (by decide) (by rw [tFX12_32]; exact hq _ pw_1453) (fun _ h9 => h9) (by rw [tFX12_32]) hin (by rw [tFX12_32]; rfl) (by rw [tFX12_32]; decide +kernel) rfl rfl (by rw [hn138]; decide) dX12_init_208 (fun H locs hP hD hS => ?_)
  obtain ⟨fs142, e143⟩ : ∃ z : List Value, z = fs136.set 32 (.ref q139) := ⟨_, rfl⟩
  have hn144 : fs142.length = 134 := by rw [e143, List.length_set]; exact hn138
  have hP : va_P G.1 pCl ((h0, .inr (9, fs142)) :: wa140) H := by rw [e143]; exact hP
  have hD : va_D A ((h0, .inr (9, fs142)) :: wa140) := by rw [e143]; exact hD
  refine lv_aload_n hx hb dX12_init_211 rfl (lv_at hl 0 rfl) ?_
  refine lv_sipush (v := 5000) hx hb dX12_init_212 (by decide) ?_
  refine pn_newa (G := G) (atype := .int) (a0 := (5000, .inl (fun _ => 0))) (N' := 5000) hx hb (hq _ pw_6) rfl hE.1.2.1 hP hD hS hA (fun _ => rfl) (by decide) (by decide) (by decide) (Nat.le_of_ble_eq_true rfl) (Nat.le_of_ble_eq_true rfl) dX12_init_215 (fun q145 H hP hD hS => ?_)
  obtain ⟨wa146, ew147⟩ : ∃ z : va_W, z = wa140 ++ [(q145, .inl (G.2.1 0, 5000, .inl (fun _ => 0)))] := ⟨_, rfl⟩
  have hP : va_P G.1 pCl ((h0, .inr (9, fs142)) :: wa146) H := by rw [ew147]; exact hP
  have hD : va_D A ((h0, .inr (9, fs142)) :: wa146) := by rw [ew147]; exact hD
  refine W.widen (k := 24) (n := 190304) (Nat.le_of_ble_eq_true rfl) (Nat.le_of_ble_eq_true rfl) ?_
  refine va_putF (D := G.1) (ci := 9) (v := .ref q145) (ty := (.array .int)) (C := RX12) (T := TX12) (N := 134) hx hb hq pin_wsX120 tyX12 tyX12_ok nmX12 hown hE.1.1 hP hD hS 0 rfl rfl 33 (by decide) (by rw [tFX12_33]; exact hq _ pw_1454) (fun _ h9 => h9) (by rw [tFX12_33]) hin (by rw [tFX12_33]; rfl) (by rw [tFX12_33]; decide +kernel) rfl rfl (by rw [hn144]; decide) dX12_init_217 (fun H locs hP hD hS => ?_)
  obtain ⟨fs148, e149⟩ : ∃ z : List Value, z = fs142.set 33 (.ref q145) := ⟨_, rfl⟩
  have hn150 : fs148.length = 134 := by rw [e149, List.length_set]; exact hn144
  have hP : va_P G.1 pCl ((h0, .inr (9, fs148)) :: wa146) H := by rw [e149]; exact hP
  have hD : va_D A ((h0, .inr (9, fs148)) :: wa146) := by rw [e149]; exact hD
  refine lv_aload_n hx hb dX12_init_220 rfl (lv_at hl 0 rfl) ?_
  refine lv_bipush (v := 40) hx hb dX12_init_221 (by decide) ?_
  refine pn_newa (G := G) (atype := .int) (a0 := (40, .inl (fun _ => 0))) (N' := 40) hx hb (hq _ pw_6) rfl hE.1.2.1 hP hD hS hA (fun _ => rfl) (by decide) (by decide) (by decide) (Nat.le_of_ble_eq_true rfl) (Nat.le_of_ble_eq_true rfl) dX12_init_223 (fun q151 H hP hD hS => ?_)
  have en152 : fs148 = [.int 0, .ref q1, .int 0, .ref q7, .int 0, .ref q13, .ref q19, .ref q25, .ref q31, .int 0, .ref q37, .ref q45, .ref q51, .int 0, .int 0, .int 0, .int 0, .ref q57, .ref q63, .ref q69, .ref q75, .ref q83, .ref q89, .ref q95, .ref q101, .ref q107, .ref q113, .int 0, .ref q121, .ref q127, .ref q133, .int 0, .ref q139, .ref q145, .int 0, .int 0, .null, .null, .null, .null, .null, .null, .null, .null, .int 0, .null, .null, .null, .null, .int 0, .null, .null, .null, .null, .null, .null, .null, .null, .null, .int 0, .int 0, .null, .null, .null, .int 0, .int 0, .int 0, .int 0, .int 0, .int 0, .int 0, .null, .null, .int 0, .int 0, .int 0, .int 0, .int 0, .int 0, .int 0, .int 0, .int 0, .int 0, .int 0, .null, .int 0, .null, .int 0, .null, .null, .null, .null, .null, .null, .null, .null, .null, .int 0, .int 0, .int 0, .null, .int 0, .int 0, .null, .null, .null, .null, .null, .null, .null, .null, .int 0, .null, .null, .null, .int 0, .int 0, .int 0, .int 0, .int 0, .int 0, .int 0, .int 0, .int 0, .int 0, .int 0, .int 0, .null, .int 0, .null, .int 0, .null, .null, .null] := by rw [e149, e143, e137, e131, e125, e119, en114]; rfl
  have en153 : wa146 = [(q1, .inl (G.2.1 0, 5000, .inl (fun _ => 0))), (q7, .inl (G.2.1 0, 5000, .inl (fun _ => 0))), (q13, .inl (G.2.1 0, 5001, .inl (fun _ => 0))), (q19, .inl (G.2.1 0, 5001, .inl (fun _ => 0))), (q25, .inl (G.2.1 0, 5001, .inl (fun _ => 0))), (q31, .inl (G.2.1 0, 5001, .inl (fun _ => 0))), (q37, .inl (G.2.1 0, 5100, .inl (fun _ => 0))), (q45, .inl (G.2.1 0, 5100, .inl (fun _ => 0))), (q51, .inl (G.2.1 1, 5100, .inl (fun _ => 0))), (q57, .inl (G.2.1 0, 12000, .inl (fun _ => 0))), (q63, .inl (G.2.1 0, 12000, .inl (fun _ => 0))), (q69, .inl (G.2.1 0, 12000, .inl (fun _ => 0))), (q75, .inl (G.2.1 0, 12000, .inl (fun _ => 0))), (q83, .inl (G.2.1 0, 12000, .inl (fun _ => 0))), (q89, .inl (G.2.1 0, 12000, .inl (fun _ => 0))), (q95, .inl (G.2.1 0, 12000, .inl (fun _ => 0))), (q101, .inl (G.2.1 0, 12000, .inl (fun _ => 0))), (q107, .inl (G.2.1 0, 12000, .inl (fun _ => 0))), (q113, .inl (G.2.1 0, 12000, .inl (fun _ => 0))), (q121, .inl (G.2.1 0, 5000, .inl (fun _ => 0))), (q127, .inl (G.2.1 3, 5000, .inl (fun _ => 0))), (q133, .inl (G.2.1 0, 5000, .inl (fun _ => 0))), (q139, .inl (G.2.1 0, 5000, .inl (fun _ => 0))), (q145, .inl (G.2.1 0, 5000, .inl (fun _ => 0)))] := by rw [ew147, ew141, ew135, ew129, ew123, ew117, en115]; rfl
  obtain ⟨wa154, ew155⟩ : ∃ z : va_W, z = wa146 ++ [(q151, .inl (G.2.1 0, 40, .inl (fun _ => 0)))] := ⟨_, rfl⟩
  have hP : va_P G.1 pCl ((h0, .inr (9, fs148)) :: wa154) H := by rw [ew155]; exact hP
  have hD : va_D A ((h0, .inr (9, fs148)) :: wa154) := by rw [ew155]; exact hD
  refine W.widen (k := 25) (n := 190344) (Nat.le_of_ble_eq_true rfl) (Nat.le_of_ble_eq_true rfl) ?_
  refine va_putF (D := G.1) (ci := 9) (v := .ref q151) (ty := (.array .int)) (C := RX12) (T := TX12) (N := 134) hx hb hq pin_wsX120 tyX12 tyX12_ok nmX12 hown hE.1.1 hP hD hS 0 rfl rfl 36 (by decide) (by rw [tFX12_36]; exact hq _ pw_1455) (fun _ h9 => h9) (by rw [tFX12_36]) hin (by rw [tFX12_36]; rfl) (by rw [tFX12_36]; decide +kernel) rfl rfl (by rw [hn150]; decide) dX12_init_225 (fun H locs hP hD hS => ?_)
  obtain ⟨fs156, e157⟩ : ∃ z : List Value, z = fs148.set 36 (.ref q151) := ⟨_, rfl⟩
  have hn158 : fs156.length = 134 := by rw [e157, List.length_set]; exact hn150
  have hP : va_P G.1 pCl ((h0, .inr (9, fs156)) :: wa154) H := by rw [e157]; exact hP
  have hD : va_D A ((h0, .inr (9, fs156)) :: wa154) := by rw [e157]; exact hD
  refine lv_aload_n hx hb dX12_init_228 rfl (lv_at hl 0 rfl) ?_
  refine lv_bipush (v := 40) hx hb dX12_init_229 (by decide) ?_
  refine pn_newa (G := G) (atype := .int) (a0 := (40, .inl (fun _ => 0))) (N' := 40) hx hb (hq _ pw_6) rfl hE.1.2.1 hP hD hS hA (fun _ => rfl) (by decide) (by decide) (by decide) (Nat.le_of_ble_eq_true rfl) (Nat.le_of_ble_eq_true rfl) dX12_init_231 (fun q159 H hP hD hS => ?_)
  obtain ⟨wa160, ew161⟩ : ∃ z : va_W, z = wa154 ++ [(q159, .inl (G.2.1 0, 40, .inl (fun _ => 0)))] := ⟨_, rfl⟩
  have hP : va_P G.1 pCl ((h0, .inr (9, fs156)) :: wa160) H := by rw [ew161]; exact hP
  have hD : va_D A ((h0, .inr (9, fs156)) :: wa160) := by rw [ew161]; exact hD
  refine W.widen (k := 26) (n := 190384) (Nat.le_of_ble_eq_true rfl) (Nat.le_of_ble_eq_true rfl) ?_
  refine va_putF (D := G.1) (ci := 9) (v := .ref q159) (ty := (.array .int)) (C := RX12) (T := TX12) (N := 134) hx hb hq pin_wsX120 tyX12 tyX12_ok nmX12 hown hE.1.1 hP hD hS 0 rfl rfl 37 (by decide) (by rw [tFX12_37]; exact hq _ pw_1456) (fun _ h9 => h9) (by rw [tFX12_37]) hin (by rw [tFX12_37]; rfl) (by rw [tFX12_37]; decide +kernel) rfl rfl (by rw [hn158]; decide) dX12_init_233 (fun H locs hP hD hS => ?_)
  obtain ⟨fs162, e163⟩ : ∃ z : List Value, z = fs156.set 37 (.ref q159) := ⟨_, rfl⟩
  have hn164 : fs162.length = 134 := by rw [e163, List.length_set]; exact hn158
  have hP : va_P G.1 pCl ((h0, .inr (9, fs162)) :: wa160) H := by rw [e163]; exact hP
  have hD : va_D A ((h0, .inr (9, fs162)) :: wa160) := by rw [e163]; exact hD
  refine lv_aload_n hx hb dX12_init_236 rfl (lv_at hl 0 rfl) ?_
  refine lv_bipush (v := 40) hx hb dX12_init_237 (by decide) ?_
  refine pn_newa (G := G) (atype := .boolean) (a0 := (40, .inl (fun _ => 0))) (N' := 40) hx hb (hq _ pw_1450) rfl hE.1.2.2.2.2.1 hP hD hS hA (fun _ => rfl) (by decide) (by decide) (by decide) (Nat.le_of_ble_eq_true rfl) (Nat.le_of_ble_eq_true rfl) dX12_init_239 (fun q165 H hP hD hS => ?_)
  obtain ⟨wa166, ew167⟩ : ∃ z : va_W, z = wa160 ++ [(q165, .inl (G.2.1 3, 40, .inl (fun _ => 0)))] := ⟨_, rfl⟩
  have hP : va_P G.1 pCl ((h0, .inr (9, fs162)) :: wa166) H := by rw [ew167]; exact hP
  have hD : va_D A ((h0, .inr (9, fs162)) :: wa166) := by rw [ew167]; exact hD
  refine W.widen (k := 27) (n := 190424) (Nat.le_of_ble_eq_true rfl) (Nat.le_of_ble_eq_true rfl) ?_
  refine va_putF (D := G.1) (ci := 9) (v := .ref q165) (ty := (.array .boolean)) (C := RX12) (T := TX12) (N := 134) hx hb hq pin_wsX120 tyX12 tyX12_ok nmX12 hown hE.1.1 hP hD hS 0 rfl rfl 38 (by decide) (by rw [tFX12_38]; exact hq _ pw_1457) (fun _ h9 => h9) (by rw [tFX12_38]) hin (by rw [tFX12_38]; rfl) (by rw [tFX12_38]; decide +kernel) rfl rfl (by rw [hn164]; decide) dX12_init_241 (fun H locs hP hD hS => ?_)
  obtain ⟨fs168, e169⟩ : ∃ z : List Value, z = fs162.set 38 (.ref q165) := ⟨_, rfl⟩
  have hn170 : fs168.length = 134 := by rw [e169, List.length_set]; exact hn164
  have hP : va_P G.1 pCl ((h0, .inr (9, fs168)) :: wa166) H := by rw [e169]; exact hP
  have hD : va_D A ((h0, .inr (9, fs168)) :: wa166) := by rw [e169]; exact hD
  refine lv_aload_n hx hb dX12_init_244 rfl (lv_at hl 0 rfl) ?_
  refine lv_bipush (v := 40) hx hb dX12_init_245 (by decide) ?_
  refine pn_newa (G := G) (atype := .int) (a0 := (40, .inl (fun _ => 0))) (N' := 40) hx hb (hq _ pw_6) rfl hE.1.2.1 hP hD hS hA (fun _ => rfl) (by decide) (by decide) (by decide) (Nat.le_of_ble_eq_true rfl) (Nat.le_of_ble_eq_true rfl) dX12_init_247 (fun q171 H hP hD hS => ?_)
  obtain ⟨wa172, ew173⟩ : ∃ z : va_W, z = wa166 ++ [(q171, .inl (G.2.1 0, 40, .inl (fun _ => 0)))] := ⟨_, rfl⟩
  have hP : va_P G.1 pCl ((h0, .inr (9, fs168)) :: wa172) H := by rw [ew173]; exact hP
  have hD : va_D A ((h0, .inr (9, fs168)) :: wa172) := by rw [ew173]; exact hD
  refine W.widen (k := 28) (n := 190464) (Nat.le_of_ble_eq_true rfl) (Nat.le_of_ble_eq_true rfl) ?_
  refine va_putF (D := G.1) (ci := 9) (v := .ref q171) (ty := (.array .int)) (C := RX12) (T := TX12) (N := 134) hx hb hq pin_wsX120 tyX12 tyX12_ok nmX12 hown hE.1.1 hP hD hS 0 rfl rfl 39 (by decide) (by rw [tFX12_39]; exact hq _ pw_1458) (fun _ h9 => h9) (by rw [tFX12_39]) hin (by rw [tFX12_39]; rfl) (by rw [tFX12_39]; decide +kernel) rfl rfl (by rw [hn170]; decide) dX12_init_249 (fun H locs hP hD hS => ?_)
  obtain ⟨fs174, e175⟩ : ∃ z : List Value, z = fs168.set 39 (.ref q171) := ⟨_, rfl⟩
  have hn176 : fs174.length = 134 := by rw [e175, List.length_set]; exact hn170
  have hP : va_P G.1 pCl ((h0, .inr (9, fs174)) :: wa172) H := by rw [e175]; exact hP
  have hD : va_D A ((h0, .inr (9, fs174)) :: wa172) := by rw [e175]; exact hD
  refine lv_aload_n hx hb dX12_init_252 rfl (lv_at hl 0 rfl) ?_
  refine lv_bipush (v := 40) hx hb dX12_init_253 (by decide) ?_
  refine pn_newa (G := G) (atype := .int) (a0 := (40, .inl (fun _ => 0))) (N' := 40) hx hb (hq _ pw_6) rfl hE.1.2.1 hP hD hS hA (fun _ => rfl) (by decide) (by decide) (by decide) (Nat.le_of_ble_eq_true rfl) (Nat.le_of_ble_eq_true rfl) dX12_init_255 (fun q177 H hP hD hS => ?_)
  obtain ⟨wa178, ew179⟩ : ∃ z : va_W, z = wa172 ++ [(q177, .inl (G.2.1 0, 40, .inl (fun _ => 0)))] := ⟨_, rfl⟩
  have hP : va_P G.1 pCl ((h0, .inr (9, fs174)) :: wa178) H := by rw [ew179]; exact hP
  have hD : va_D A ((h0, .inr (9, fs174)) :: wa178) := by rw [ew179]; exact hD
  refine W.widen (k := 29) (n := 190504) (Nat.le_of_ble_eq_true rfl) (Nat.le_of_ble_eq_true rfl) ?_
  refine va_putF (D := G.1) (ci := 9) (v := .ref q177) (ty := (.array .int)) (C := RX12) (T := TX12) (N := 134) hx hb hq pin_wsX120 tyX12 tyX12_ok nmX12 hown hE.1.1 hP hD hS 0 rfl rfl 40 (by decide) (by rw [tFX12_40]; exact hq _ pw_1459) (fun _ h9 => h9) (by rw [tFX12_40]) hin (by rw [tFX12_40]; rfl) (by rw [tFX12_40]; decide +kernel) rfl rfl (by rw [hn176]; decide) dX12_init_257 (fun H locs hP hD hS => ?_)
  obtain ⟨fs180, e181⟩ : ∃ z : List Value, z = fs174.set 40 (.ref q177) := ⟨_, rfl⟩
  have hn182 : fs180.length = 134 := by rw [e181, List.length_set]; exact hn176
  have hP : va_P G.1 pCl ((h0, .inr (9, fs180)) :: wa178) H := by rw [e181]; exact hP
  have hD : va_D A ((h0, .inr (9, fs180)) :: wa178) := by rw [e181]; exact hD
  refine lv_aload_n hx hb dX12_init_260 rfl (lv_at hl 0 rfl) ?_
  refine lv_bipush (v := 40) hx hb dX12_init_261 (by decide) ?_
  refine pn_newa (G := G) (atype := .int) (a0 := (40, .inl (fun _ => 0))) (N' := 40) hx hb (hq _ pw_6) rfl hE.1.2.1 hP hD hS hA (fun _ => rfl) (by decide) (by decide) (by decide) (Nat.le_of_ble_eq_true rfl) (Nat.le_of_ble_eq_true rfl) dX12_init_263 (fun q183 H hP hD hS => ?_)
  obtain ⟨wa184, ew185⟩ : ∃ z : va_W, z = wa178 ++ [(q183, .inl (G.2.1 0, 40, .inl (fun _ => 0)))] := ⟨_, rfl⟩
  have hP : va_P G.1 pCl ((h0, .inr (9, fs180)) :: wa184) H := by rw [ew185]; exact hP
  have hD : va_D A ((h0, .inr (9, fs180)) :: wa184) := by rw [ew185]; exact hD
  refine W.widen (k := 30) (n := 190544) (Nat.le_of_ble_eq_true rfl) (Nat.le_of_ble_eq_true rfl) ?_
  refine va_putF (D := G.1) (ci := 9) (v := .ref q183) (ty := (.array .int)) (C := RX12) (T := TX12) (N := 134) hx hb hq pin_wsX120 tyX12 tyX12_ok nmX12 hown hE.1.1 hP hD hS 0 rfl rfl 41 (by decide) (by rw [tFX12_41]; exact hq _ pw_1460) (fun _ h9 => h9) (by rw [tFX12_41]) hin (by rw [tFX12_41]; rfl) (by rw [tFX12_41]; decide +kernel) rfl rfl (by rw [hn182]; decide) dX12_init_265 (fun H locs hP hD hS => ?_)
  obtain ⟨fs186, e187⟩ : ∃ z : List Value, z = fs180.set 41 (.ref q183) := ⟨_, rfl⟩
  have hn188 : fs186.length = 134 := by rw [e187, List.length_set]; exact hn182
  have hP : va_P G.1 pCl ((h0, .inr (9, fs186)) :: wa184) H := by rw [e187]; exact hP
  have hD : va_D A ((h0, .inr (9, fs186)) :: wa184) := by rw [e187]; exact hD
  refine lv_aload_n hx hb dX12_init_268 rfl (lv_at hl 0 rfl) ?_
  refine lv_bipush (v := 40) hx hb dX12_init_269 (by decide) ?_
  refine pn_newa (G := G) (atype := .int) (a0 := (40, .inl (fun _ => 0))) (N' := 40) hx hb (hq _ pw_6) rfl hE.1.2.1 hP hD hS hA (fun _ => rfl) (by decide) (by decide) (by decide) (Nat.le_of_ble_eq_true rfl) (Nat.le_of_ble_eq_true rfl) dX12_init_271 (fun q189 H hP hD hS => ?_)
  have en190 : fs186 = [.int 0, .ref q1, .int 0, .ref q7, .int 0, .ref q13, .ref q19, .ref q25, .ref q31, .int 0, .ref q37, .ref q45, .ref q51, .int 0, .int 0, .int 0, .int 0, .ref q57, .ref q63, .ref q69, .ref q75, .ref q83, .ref q89, .ref q95, .ref q101, .ref q107, .ref q113, .int 0, .ref q121, .ref q127, .ref q133, .int 0, .ref q139, .ref q145, .int 0, .int 0, .ref q151, .ref q159, .ref q165, .ref q171, .ref q177, .ref q183, .null, .null, .int 0, .null, .null, .null, .null, .int 0, .null, .null, .null, .null, .null, .null, .null, .null, .null, .int 0, .int 0, .null, .null, .null, .int 0, .int 0, .int 0, .int 0, .int 0, .int 0, .int 0, .null, .null, .int 0, .int 0, .int 0, .int 0, .int 0, .int 0, .int 0, .int 0, .int 0, .int 0, .int 0, .null, .int 0, .null, .int 0, .null, .null, .null, .null, .null, .null, .null, .null, .null, .int 0, .int 0, .int 0, .null, .int 0, .int 0, .null, .null, .null, .null, .null, .null, .null, .null, .int 0, .null, .null, .null, .int 0, .int 0, .int 0, .int 0, .int 0, .int 0, .int 0, .int 0, .int 0, .int 0, .int 0, .int 0, .null, .int 0, .null, .int 0, .null, .null, .null] := by rw [e187, e181, e175, e169, e163, e157, en152]; rfl
  have en191 : wa184 = [(q1, .inl (G.2.1 0, 5000, .inl (fun _ => 0))), (q7, .inl (G.2.1 0, 5000, .inl (fun _ => 0))), (q13, .inl (G.2.1 0, 5001, .inl (fun _ => 0))), (q19, .inl (G.2.1 0, 5001, .inl (fun _ => 0))), (q25, .inl (G.2.1 0, 5001, .inl (fun _ => 0))), (q31, .inl (G.2.1 0, 5001, .inl (fun _ => 0))), (q37, .inl (G.2.1 0, 5100, .inl (fun _ => 0))), (q45, .inl (G.2.1 0, 5100, .inl (fun _ => 0))), (q51, .inl (G.2.1 1, 5100, .inl (fun _ => 0))), (q57, .inl (G.2.1 0, 12000, .inl (fun _ => 0))), (q63, .inl (G.2.1 0, 12000, .inl (fun _ => 0))), (q69, .inl (G.2.1 0, 12000, .inl (fun _ => 0))), (q75, .inl (G.2.1 0, 12000, .inl (fun _ => 0))), (q83, .inl (G.2.1 0, 12000, .inl (fun _ => 0))), (q89, .inl (G.2.1 0, 12000, .inl (fun _ => 0))), (q95, .inl (G.2.1 0, 12000, .inl (fun _ => 0))), (q101, .inl (G.2.1 0, 12000, .inl (fun _ => 0))), (q107, .inl (G.2.1 0, 12000, .inl (fun _ => 0))), (q113, .inl (G.2.1 0, 12000, .inl (fun _ => 0))), (q121, .inl (G.2.1 0, 5000, .inl (fun _ => 0))), (q127, .inl (G.2.1 3, 5000, .inl (fun _ => 0))), (q133, .inl (G.2.1 0, 5000, .inl (fun _ => 0))), (q139, .inl (G.2.1 0, 5000, .inl (fun _ => 0))), (q145, .inl (G.2.1 0, 5000, .inl (fun _ => 0))), (q151, .inl (G.2.1 0, 40, .inl (fun _ => 0))), (q159, .inl (G.2.1 0, 40, .inl (fun _ => 0))), (q165, .inl (G.2.1 3, 40, .inl (fun _ => 0))), (q171, .inl (G.2.1 0, 40, .inl (fun _ => 0))), (q177, .inl (G.2.1 0, 40, .inl (fun _ => 0))), (q183, .inl (G.2.1 0, 40, .inl (fun _ => 0)))] := by rw [ew185, ew179, ew173, ew167, ew161, ew155, en153]; rfl
  obtain ⟨wa192, ew193⟩ : ∃ z : va_W, z = wa184 ++ [(q189, .inl (G.2.1 0, 40, .inl (fun _ => 0)))] := ⟨_, rfl⟩
  have hP : va_P G.1 pCl ((h0, .inr (9, fs186)) :: wa192) H := by rw [ew193]; exact hP
  have hD : va_D A ((h0, .inr (9, fs186)) :: wa192) := by rw [ew193]; exact hD
  refine W.widen (k := 31) (n := 190584) (Nat.le_of_ble_eq_true rfl) (Nat.le_of_ble_eq_true rfl) ?_
  refine va_putF (D := G.1) (ci := 9) (v := .ref q189) (ty := (.array .int)) (C := RX12) (T := TX12) (N := 134) hx hb hq pin_wsX120 tyX12 tyX12_ok nmX12 hown hE.1.1 hP hD hS 0 rfl rfl 42 (by decide) (by rw [tFX12_42]; exact hq _ pw_1461) (fun _ h9 => h9) (by rw [tFX12_42]) hin (by rw [tFX12_42]; rfl) (by rw [tFX12_42]; decide +kernel) rfl rfl (by rw [hn188]; decide) dX12_init_273 (fun H locs hP hD hS => ?_)
  obtain ⟨fs194, e195⟩ : ∃ z : List Value, z = fs186.set 42 (.ref q189) := ⟨_, rfl⟩
  have hn196 : fs194.length = 134 := by rw [e195, List.length_set]; exact hn188
  have hP : va_P G.1 pCl ((h0, .inr (9, fs194)) :: wa192) H := by rw [e195]; exact hP
  have hD : va_D A ((h0, .inr (9, fs194)) :: wa192) := by rw [e195]; exact hD
  refine lv_aload_n hx hb dX12_init_276 rfl (lv_at hl 0 rfl) ?_
  refine lv_sipush (v := 1600) hx hb dX12_init_277 (by decide) ?_
  refine pn_newa (G := G) (atype := .boolean) (a0 := (1600, .inl (fun _ => 0))) (N' := 1600) hx hb (hq _ pw_1450) rfl hE.1.2.2.2.2.1 hP hD hS hA (fun _ => rfl) (by decide) (by decide) (by decide) (Nat.le_of_ble_eq_true rfl) (Nat.le_of_ble_eq_true rfl) dX12_init_280 (fun q197 H hP hD hS => ?_)
  obtain ⟨wa198, ew199⟩ : ∃ z : va_W, z = wa192 ++ [(q197, .inl (G.2.1 3, 1600, .inl (fun _ => 0)))] := ⟨_, rfl⟩
  have hP : va_P G.1 pCl ((h0, .inr (9, fs194)) :: wa198) H := by rw [ew199]; exact hP
  have hD : va_D A ((h0, .inr (9, fs194)) :: wa198) := by rw [ew199]; exact hD
  refine W.widen (k := 32) (n := 192184) (Nat.le_of_ble_eq_true rfl) (Nat.le_of_ble_eq_true rfl) ?_
  refine va_putF (D := G.1) (ci := 9) (v := .ref q197) (ty := (.array .boolean)) (C := RX12) (T := TX12) (N := 134) hx hb hq pin_wsX120 tyX12 tyX12_ok nmX12 hown hE.1.1 hP hD hS 0 rfl rfl 43 (by decide) (by rw [tFX12_43]; exact hq _ pw_1462) (fun _ h9 => h9) (by rw [tFX12_43]) hin (by rw [tFX12_43]; rfl) (by rw [tFX12_43]; decide +kernel) rfl rfl (by rw [hn196]; decide) dX12_init_282 (fun H locs hP hD hS => ?_)
  obtain ⟨fs200, e201⟩ : ∃ z : List Value, z = fs194.set 43 (.ref q197) := ⟨_, rfl⟩
  have hn202 : fs200.length = 134 := by rw [e201, List.length_set]; exact hn196
  have hP : va_P G.1 pCl ((h0, .inr (9, fs200)) :: wa198) H := by rw [e201]; exact hP
  have hD : va_D A ((h0, .inr (9, fs200)) :: wa198) := by rw [e201]; exact hD
  refine lv_aload_n hx hb dX12_init_285 rfl (lv_at hl 0 rfl) ?_
  refine lv_sipush (v := 620) hx hb dX12_init_286 (by decide) ?_
  refine pn_newa (G := G) (atype := .int) (a0 := (620, .inl (fun _ => 0))) (N' := 620) hx hb (hq _ pw_6) rfl hE.1.2.1 hP hD hS hA (fun _ => rfl) (by decide) (by decide) (by decide) (Nat.le_of_ble_eq_true rfl) (Nat.le_of_ble_eq_true rfl) dX12_init_289 (fun q203 H hP hD hS => ?_)
  obtain ⟨wa204, ew205⟩ : ∃ z : va_W, z = wa198 ++ [(q203, .inl (G.2.1 0, 620, .inl (fun _ => 0)))] := ⟨_, rfl⟩
  have hP : va_P G.1 pCl ((h0, .inr (9, fs200)) :: wa204) H := by rw [ew205]; exact hP
  have hD : va_D A ((h0, .inr (9, fs200)) :: wa204) := by rw [ew205]; exact hD
  refine W.widen (k := 33) (n := 192804) (Nat.le_of_ble_eq_true rfl) (Nat.le_of_ble_eq_true rfl) ?_
  refine va_putF (D := G.1) (ci := 9) (v := .ref q203) (ty := (.array .int)) (C := RX12) (T := TX12) (N := 134) hx hb hq pin_wsX120 tyX12 tyX12_ok nmX12 hown hE.1.1 hP hD hS 0 rfl rfl 45 (by decide) (by rw [tFX12_45]; exact hq _ pw_1463) (fun _ h9 => h9) (by rw [tFX12_45]) hin (by rw [tFX12_45]; rfl) (by rw [tFX12_45]; decide +kernel) rfl rfl (by rw [hn202]; decide) dX12_init_291 (fun H locs hP hD hS => ?_)
  obtain ⟨fs206, e207⟩ : ∃ z : List Value, z = fs200.set 45 (.ref q203) := ⟨_, rfl⟩
  have hn208 : fs206.length = 134 := by rw [e207, List.length_set]; exact hn202
  have hP : va_P G.1 pCl ((h0, .inr (9, fs206)) :: wa204) H := by rw [e207]; exact hP
  have hD : va_D A ((h0, .inr (9, fs206)) :: wa204) := by rw [e207]; exact hD
  refine lv_aload_n hx hb dX12_init_294 rfl (lv_at hl 0 rfl) ?_
  refine lv_sipush (v := 620) hx hb dX12_init_295 (by decide) ?_
  refine pn_newa (G := G) (atype := .int) (a0 := (620, .inl (fun _ => 0))) (N' := 620) hx hb (hq _ pw_6) rfl hE.1.2.1 hP hD hS hA (fun _ => rfl) (by decide) (by decide) (by decide) (Nat.le_of_ble_eq_true rfl) (Nat.le_of_ble_eq_true rfl) dX12_init_298 (fun q209 H hP hD hS => ?_)
  obtain ⟨wa210, ew211⟩ : ∃ z : va_W, z = wa204 ++ [(q209, .inl (G.2.1 0, 620, .inl (fun _ => 0)))] := ⟨_, rfl⟩
  have hP : va_P G.1 pCl ((h0, .inr (9, fs206)) :: wa210) H := by rw [ew211]; exact hP
  have hD : va_D A ((h0, .inr (9, fs206)) :: wa210) := by rw [ew211]; exact hD
  refine W.widen (k := 34) (n := 193424) (Nat.le_of_ble_eq_true rfl) (Nat.le_of_ble_eq_true rfl) ?_
  refine va_putF (D := G.1) (ci := 9) (v := .ref q209) (ty := (.array .int)) (C := RX12) (T := TX12) (N := 134) hx hb hq pin_wsX120 tyX12 tyX12_ok nmX12 hown hE.1.1 hP hD hS 0 rfl rfl 46 (by decide) (by rw [tFX12_46]; exact hq _ pw_1464) (fun _ h9 => h9) (by rw [tFX12_46]) hin (by rw [tFX12_46]; rfl) (by rw [tFX12_46]; decide +kernel) rfl rfl (by rw [hn208]; decide) dX12_init_300 (fun H locs hP hD hS => ?_)
  obtain ⟨fs212, e213⟩ : ∃ z : List Value, z = fs206.set 46 (.ref q209) := ⟨_, rfl⟩
  have hn214 : fs212.length = 134 := by rw [e213, List.length_set]; exact hn208
  have hP : va_P G.1 pCl ((h0, .inr (9, fs212)) :: wa210) H := by rw [e213]; exact hP
  have hD : va_D A ((h0, .inr (9, fs212)) :: wa210) := by rw [e213]; exact hD
  refine lv_aload_n hx hb dX12_init_303 rfl (lv_at hl 0 rfl) ?_
  refine lv_sipush (v := 620) hx hb dX12_init_304 (by decide) ?_
  refine pn_newa (G := G) (atype := .int) (a0 := (620, .inl (fun _ => 0))) (N' := 620) hx hb (hq _ pw_6) rfl hE.1.2.1 hP hD hS hA (fun _ => rfl) (by decide) (by decide) (by decide) (Nat.le_of_ble_eq_true rfl) (Nat.le_of_ble_eq_true rfl) dX12_init_307 (fun q215 H hP hD hS => ?_)
  obtain ⟨wa216, ew217⟩ : ∃ z : va_W, z = wa210 ++ [(q215, .inl (G.2.1 0, 620, .inl (fun _ => 0)))] := ⟨_, rfl⟩
  have hP : va_P G.1 pCl ((h0, .inr (9, fs212)) :: wa216) H := by rw [ew217]; exact hP
  have hD : va_D A ((h0, .inr (9, fs212)) :: wa216) := by rw [ew217]; exact hD
  refine W.widen (k := 35) (n := 194044) (Nat.le_of_ble_eq_true rfl) (Nat.le_of_ble_eq_true rfl) ?_
  refine va_putF (D := G.1) (ci := 9) (v := .ref q215) (ty := (.array .int)) (C := RX12) (T := TX12) (N := 134) hx hb hq pin_wsX120 tyX12 tyX12_ok nmX12 hown hE.1.1 hP hD hS 0 rfl rfl 47 (by decide) (by rw [tFX12_47]; exact hq _ pw_1465) (fun _ h9 => h9) (by rw [tFX12_47]) hin (by rw [tFX12_47]; rfl) (by rw [tFX12_47]; decide +kernel) rfl rfl (by rw [hn214]; decide) dX12_init_309 (fun H locs hP hD hS => ?_)
  obtain ⟨fs218, e219⟩ : ∃ z : List Value, z = fs212.set 47 (.ref q215) := ⟨_, rfl⟩
  have hn220 : fs218.length = 134 := by rw [e219, List.length_set]; exact hn214
  have hP : va_P G.1 pCl ((h0, .inr (9, fs218)) :: wa216) H := by rw [e219]; exact hP
  have hD : va_D A ((h0, .inr (9, fs218)) :: wa216) := by rw [e219]; exact hD
  refine lv_aload_n hx hb dX12_init_312 rfl (lv_at hl 0 rfl) ?_
  refine lv_sipush (v := 620) hx hb dX12_init_313 (by decide) ?_
  refine pn_newa (G := G) (atype := .int) (a0 := (620, .inl (fun _ => 0))) (N' := 620) hx hb (hq _ pw_6) rfl hE.1.2.1 hP hD hS hA (fun _ => rfl) (by decide) (by decide) (by decide) (Nat.le_of_ble_eq_true rfl) (Nat.le_of_ble_eq_true rfl) dX12_init_316 (fun q221 H hP hD hS => ?_)
  obtain ⟨wa222, ew223⟩ : ∃ z : va_W, z = wa216 ++ [(q221, .inl (G.2.1 0, 620, .inl (fun _ => 0)))] := ⟨_, rfl⟩
  have hP : va_P G.1 pCl ((h0, .inr (9, fs218)) :: wa222) H := by rw [ew223]; exact hP
  have hD : va_D A ((h0, .inr (9, fs218)) :: wa222) := by rw [ew223]; exact hD
  refine W.widen (k := 36) (n := 194664) (Nat.le_of_ble_eq_true rfl) (Nat.le_of_ble_eq_true rfl) ?_
  refine va_putF (D := G.1) (ci := 9) (v := .ref q221) (ty := (.array .int)) (C := RX12) (T := TX12) (N := 134) hx hb hq pin_wsX120 tyX12 tyX12_ok nmX12 hown hE.1.1 hP hD hS 0 rfl rfl 48 (by decide) (by rw [tFX12_48]; exact hq _ pw_1466) (fun _ h9 => h9) (by rw [tFX12_48]) hin (by rw [tFX12_48]; rfl) (by rw [tFX12_48]; decide +kernel) rfl rfl (by rw [hn220]; decide) dX12_init_318 (fun H locs hP hD hS => ?_)
  obtain ⟨fs224, e225⟩ : ∃ z : List Value, z = fs218.set 48 (.ref q221) := ⟨_, rfl⟩
  have hn226 : fs224.length = 134 := by rw [e225, List.length_set]; exact hn220
  have hP : va_P G.1 pCl ((h0, .inr (9, fs224)) :: wa222) H := by rw [e225]; exact hP
  have hD : va_D A ((h0, .inr (9, fs224)) :: wa222) := by rw [e225]; exact hD
  refine lv_aload_n hx hb dX12_init_321 rfl (lv_at hl 0 rfl) ?_
  refine lv_sipush (v := 920) hx hb dX12_init_322 (by decide) ?_
  refine pn_newa (G := G) (atype := .int) (a0 := (920, .inl (fun _ => 0))) (N' := 920) hx hb (hq _ pw_6) rfl hE.1.2.1 hP hD hS hA (fun _ => rfl) (by decide) (by decide) (by decide) (Nat.le_of_ble_eq_true rfl) (Nat.le_of_ble_eq_true rfl) dX12_init_325 (fun q227 H hP hD hS => ?_)
  have en228 : fs224 = [.int 0, .ref q1, .int 0, .ref q7, .int 0, .ref q13, .ref q19, .ref q25, .ref q31, .int 0, .ref q37, .ref q45, .ref q51, .int 0, .int 0, .int 0, .int 0, .ref q57, .ref q63, .ref q69, .ref q75, .ref q83, .ref q89, .ref q95, .ref q101, .ref q107, .ref q113, .int 0, .ref q121, .ref q127, .ref q133, .int 0, .ref q139, .ref q145, .int 0, .int 0, .ref q151, .ref q159, .ref q165, .ref q171, .ref q177, .ref q183, .ref q189, .ref q197, .int 0, .ref q203, .ref q209, .ref q215, .ref q221, .int 0, .null, .null, .null, .null, .null, .null, .null, .null, .null, .int 0, .int 0, .null, .null, .null, .int 0, .int 0, .int 0, .int 0, .int 0, .int 0, .int 0, .null, .null, .int 0, .int 0, .int 0, .int 0, .int 0, .int 0, .int 0, .int 0, .int 0, .int 0, .int 0, .null, .int 0, .null, .int 0, .null, .null, .null, .null, .null, .null, .null, .null, .null, .int 0, .int 0, .int 0, .null, .int 0, .int 0, .null, .null, .null, .null, .null, .null, .null, .null, .int 0, .null, .null, .null, .int 0, .int 0, .int 0, .int 0, .int 0, .int 0, .int 0, .int 0, .int 0, .int 0, .int 0, .int 0, .null, .int 0, .null, .int 0, .null, .null, .null] := by rw [e225, e219, e213, e207, e201, e195, en190]; rfl
  have en229 : wa222 = [(q1, .inl (G.2.1 0, 5000, .inl (fun _ => 0))), (q7, .inl (G.2.1 0, 5000, .inl (fun _ => 0))), (q13, .inl (G.2.1 0, 5001, .inl (fun _ => 0))), (q19, .inl (G.2.1 0, 5001, .inl (fun _ => 0))), (q25, .inl (G.2.1 0, 5001, .inl (fun _ => 0))), (q31, .inl (G.2.1 0, 5001, .inl (fun _ => 0))), (q37, .inl (G.2.1 0, 5100, .inl (fun _ => 0))), (q45, .inl (G.2.1 0, 5100, .inl (fun _ => 0))), (q51, .inl (G.2.1 1, 5100, .inl (fun _ => 0))), (q57, .inl (G.2.1 0, 12000, .inl (fun _ => 0))), (q63, .inl (G.2.1 0, 12000, .inl (fun _ => 0))), (q69, .inl (G.2.1 0, 12000, .inl (fun _ => 0))), (q75, .inl (G.2.1 0, 12000, .inl (fun _ => 0))), (q83, .inl (G.2.1 0, 12000, .inl (fun _ => 0))), (q89, .inl (G.2.1 0, 12000, .inl (fun _ => 0))), (q95, .inl (G.2.1 0, 12000, .inl (fun _ => 0))), (q101, .inl (G.2.1 0, 12000, .inl (fun _ => 0))), (q107, .inl (G.2.1 0, 12000, .inl (fun _ => 0))), (q113, .inl (G.2.1 0, 12000, .inl (fun _ => 0))), (q121, .inl (G.2.1 0, 5000, .inl (fun _ => 0))), (q127, .inl (G.2.1 3, 5000, .inl (fun _ => 0))), (q133, .inl (G.2.1 0, 5000, .inl (fun _ => 0))), (q139, .inl (G.2.1 0, 5000, .inl (fun _ => 0))), (q145, .inl (G.2.1 0, 5000, .inl (fun _ => 0))), (q151, .inl (G.2.1 0, 40, .inl (fun _ => 0))), (q159, .inl (G.2.1 0, 40, .inl (fun _ => 0))), (q165, .inl (G.2.1 3, 40, .inl (fun _ => 0))), (q171, .inl (G.2.1 0, 40, .inl (fun _ => 0))), (q177, .inl (G.2.1 0, 40, .inl (fun _ => 0))), (q183, .inl (G.2.1 0, 40, .inl (fun _ => 0))), (q189, .inl (G.2.1 0, 40, .inl (fun _ => 0))), (q197, .inl (G.2.1 3, 1600, .inl (fun _ => 0))), (q203, .inl (G.2.1 0, 620, .inl (fun _ => 0))), (q209, .inl (G.2.1 0, 620, .inl (fun _ => 0))), (q215, .inl (G.2.1 0, 620, .inl (fun _ => 0))), (q221, .inl (G.2.1 0, 620, .inl (fun _ => 0)))] := by rw [ew223, ew217, ew211, ew205, ew199, ew193, en191]; rfl
  obtain ⟨wa230, ew231⟩ : ∃ z : va_W, z = wa222 ++ [(q227, .inl (G.2.1 0, 920, .inl (fun _ => 0)))] := ⟨_, rfl⟩
  have hP : va_P G.1 pCl ((h0, .inr (9, fs224)) :: wa230) H := by rw [ew231]; exact hP
  have hD : va_D A ((h0, .inr (9, fs224)) :: wa230) := by rw [ew231]; exact hD
  refine W.widen (k := 37) (n := 195584) (Nat.le_of_ble_eq_true rfl) (Nat.le_of_ble_eq_true rfl) ?_
  refine va_putF (D := G.1) (ci := 9) (v := .ref q227) (ty := (.array .int)) (C := RX12) (T := TX12) (N := 134) hx hb hq pin_wsX120 tyX12 tyX12_ok nmX12 hown hE.1.1 hP hD hS 0 rfl rfl 50 (by decide) (by rw [tFX12_50]; exact hq _ pw_1467) (fun _ h9 => h9) (by rw [tFX12_50]) hin (by rw [tFX12_50]; rfl) (by rw [tFX12_50]; decide +kernel) rfl rfl (by rw [hn226]; decide) dX12_init_327 (fun H locs hP hD hS => ?_)
  obtain ⟨fs232, e233⟩ : ∃ z : List Value, z = fs224.set 50 (.ref q227) := ⟨_, rfl⟩
  have hn234 : fs232.length = 134 := by rw [e233, List.length_set]; exact hn226
  have hP : va_P G.1 pCl ((h0, .inr (9, fs232)) :: wa230) H := by rw [e233]; exact hP
  have hD : va_D A ((h0, .inr (9, fs232)) :: wa230) := by rw [e233]; exact hD
  refine lv_aload_n hx hb dX12_init_330 rfl (lv_at hl 0 rfl) ?_
  refine lv_sipush (v := 920) hx hb dX12_init_331 (by decide) ?_
  refine pn_newa (G := G) (atype := .int) (a0 := (920, .inl (fun _ => 0))) (N' := 920) hx hb (hq _ pw_6) rfl hE.1.2.1 hP hD hS hA (fun _ => rfl) (by decide) (by decide) (by decide) (Nat.le_of_ble_eq_true rfl) (Nat.le_of_ble_eq_true rfl) dX12_init_334 (fun q235 H hP hD hS => ?_)
  obtain ⟨wa236, ew237⟩ : ∃ z : va_W, z = wa230 ++ [(q235, .inl (G.2.1 0, 920, .inl (fun _ => 0)))] := ⟨_, rfl⟩
  have hP : va_P G.1 pCl ((h0, .inr (9, fs232)) :: wa236) H := by rw [ew237]; exact hP
  have hD : va_D A ((h0, .inr (9, fs232)) :: wa236) := by rw [ew237]; exact hD
  refine W.widen (k := 38) (n := 196504) (Nat.le_of_ble_eq_true rfl) (Nat.le_of_ble_eq_true rfl) ?_
  refine va_putF (D := G.1) (ci := 9) (v := .ref q235) (ty := (.array .int)) (C := RX12) (T := TX12) (N := 134) hx hb hq pin_wsX120 tyX12 tyX12_ok nmX12 hown hE.1.1 hP hD hS 0 rfl rfl 51 (by decide) (by rw [tFX12_51]; exact hq _ pw_1468) (fun _ h9 => h9) (by rw [tFX12_51]) hin (by rw [tFX12_51]; rfl) (by rw [tFX12_51]; decide +kernel) rfl rfl (by rw [hn234]; decide) dX12_init_336 (fun H locs hP hD hS => ?_)
  obtain ⟨fs238, e239⟩ : ∃ z : List Value, z = fs232.set 51 (.ref q235) := ⟨_, rfl⟩
  have hn240 : fs238.length = 134 := by rw [e239, List.length_set]; exact hn234
  have hP : va_P G.1 pCl ((h0, .inr (9, fs238)) :: wa236) H := by rw [e239]; exact hP
  have hD : va_D A ((h0, .inr (9, fs238)) :: wa236) := by rw [e239]; exact hD
  refine lv_aload_n hx hb dX12_init_339 rfl (lv_at hl 0 rfl) ?_
  refine lv_sipush (v := 920) hx hb dX12_init_340 (by decide) ?_
  refine pn_newa (G := G) (atype := .int) (a0 := (920, .inl (fun _ => 0))) (N' := 920) hx hb (hq _ pw_6) rfl hE.1.2.1 hP hD hS hA (fun _ => rfl) (by decide) (by decide) (by decide) (Nat.le_of_ble_eq_true rfl) (Nat.le_of_ble_eq_true rfl) dX12_init_343 (fun q241 H hP hD hS => ?_)
  obtain ⟨wa242, ew243⟩ : ∃ z : va_W, z = wa236 ++ [(q241, .inl (G.2.1 0, 920, .inl (fun _ => 0)))] := ⟨_, rfl⟩
  have hP : va_P G.1 pCl ((h0, .inr (9, fs238)) :: wa242) H := by rw [ew243]; exact hP
  have hD : va_D A ((h0, .inr (9, fs238)) :: wa242) := by rw [ew243]; exact hD
  refine W.widen (k := 39) (n := 197424) (Nat.le_of_ble_eq_true rfl) (Nat.le_of_ble_eq_true rfl) ?_
  refine va_putF (D := G.1) (ci := 9) (v := .ref q241) (ty := (.array .int)) (C := RX12) (T := TX12) (N := 134) hx hb hq pin_wsX120 tyX12 tyX12_ok nmX12 hown hE.1.1 hP hD hS 0 rfl rfl 52 (by decide) (by rw [tFX12_52]; exact hq _ pw_1469) (fun _ h9 => h9) (by rw [tFX12_52]) hin (by rw [tFX12_52]; rfl) (by rw [tFX12_52]; decide +kernel) rfl rfl (by rw [hn240]; decide) dX12_init_345 (fun H locs hP hD hS => ?_)
  obtain ⟨fs244, e245⟩ : ∃ z : List Value, z = fs238.set 52 (.ref q241) := ⟨_, rfl⟩
  have hn246 : fs244.length = 134 := by rw [e245, List.length_set]; exact hn240
  have hP : va_P G.1 pCl ((h0, .inr (9, fs244)) :: wa242) H := by rw [e245]; exact hP
  have hD : va_D A ((h0, .inr (9, fs244)) :: wa242) := by rw [e245]; exact hD
  refine lv_aload_n hx hb dX12_init_348 rfl (lv_at hl 0 rfl) ?_
  refine lv_sipush (v := 920) hx hb dX12_init_349 (by decide) ?_
  refine pn_newa (G := G) (atype := .int) (a0 := (920, .inl (fun _ => 0))) (N' := 920) hx hb (hq _ pw_6) rfl hE.1.2.1 hP hD hS hA (fun _ => rfl) (by decide) (by decide) (by decide) (Nat.le_of_ble_eq_true rfl) (Nat.le_of_ble_eq_true rfl) dX12_init_352 (fun q247 H hP hD hS => ?_)
  obtain ⟨wa248, ew249⟩ : ∃ z : va_W, z = wa242 ++ [(q247, .inl (G.2.1 0, 920, .inl (fun _ => 0)))] := ⟨_, rfl⟩
  have hP : va_P G.1 pCl ((h0, .inr (9, fs244)) :: wa248) H := by rw [ew249]; exact hP
  have hD : va_D A ((h0, .inr (9, fs244)) :: wa248) := by rw [ew249]; exact hD
  refine W.widen (k := 40) (n := 198344) (Nat.le_of_ble_eq_true rfl) (Nat.le_of_ble_eq_true rfl) ?_
  refine va_putF (D := G.1) (ci := 9) (v := .ref q247) (ty := (.array .int)) (C := RX12) (T := TX12) (N := 134) hx hb hq pin_wsX120 tyX12 tyX12_ok nmX12 hown hE.1.1 hP hD hS 0 rfl rfl 53 (by decide) (by rw [tFX12_53]; exact hq _ pw_1470) (fun _ h9 => h9) (by rw [tFX12_53]) hin (by rw [tFX12_53]; rfl) (by rw [tFX12_53]; decide +kernel) rfl rfl (by rw [hn246]; decide) dX12_init_354 (fun H locs hP hD hS => ?_)
  obtain ⟨fs250, e251⟩ : ∃ z : List Value, z = fs244.set 53 (.ref q247) := ⟨_, rfl⟩
  have hn252 : fs250.length = 134 := by rw [e251, List.length_set]; exact hn246
  have hP : va_P G.1 pCl ((h0, .inr (9, fs250)) :: wa248) H := by rw [e251]; exact hP
  have hD : va_D A ((h0, .inr (9, fs250)) :: wa248) := by rw [e251]; exact hD
  refine lv_aload_n hx hb dX12_init_357 rfl (lv_at hl 0 rfl) ?_
  refine lv_sipush (v := 920) hx hb dX12_init_358 (by decide) ?_
  refine pn_newa (G := G) (atype := .int) (a0 := (920, .inl (fun _ => 0))) (N' := 920) hx hb (hq _ pw_6) rfl hE.1.2.1 hP hD hS hA (fun _ => rfl) (by decide) (by decide) (by decide) (Nat.le_of_ble_eq_true rfl) (Nat.le_of_ble_eq_true rfl) dX12_init_361 (fun q253 H hP hD hS => ?_)
  obtain ⟨wa254, ew255⟩ : ∃ z : va_W, z = wa248 ++ [(q253, .inl (G.2.1 0, 920, .inl (fun _ => 0)))] := ⟨_, rfl⟩
  have hP : va_P G.1 pCl ((h0, .inr (9, fs250)) :: wa254) H := by rw [ew255]; exact hP
  have hD : va_D A ((h0, .inr (9, fs250)) :: wa254) := by rw [ew255]; exact hD
  refine W.widen (k := 41) (n := 199264) (Nat.le_of_ble_eq_true rfl) (Nat.le_of_ble_eq_true rfl) ?_
  refine va_putF (D := G.1) (ci := 9) (v := .ref q253) (ty := (.array .int)) (C := RX12) (T := TX12) (N := 134) hx hb hq pin_wsX120 tyX12 tyX12_ok nmX12 hown hE.1.1 hP hD hS 0 rfl rfl 54 (by decide) (by rw [tFX12_54]; exact hq _ pw_1471) (fun _ h9 => h9) (by rw [tFX12_54]) hin (by rw [tFX12_54]; rfl) (by rw [tFX12_54]; decide +kernel) rfl rfl (by rw [hn252]; decide) dX12_init_363 (fun H locs hP hD hS => ?_)
  obtain ⟨fs256, e257⟩ : ∃ z : List Value, z = fs250.set 54 (.ref q253) := ⟨_, rfl⟩
  have hn258 : fs256.length = 134 := by rw [e257, List.length_set]; exact hn252
  have hP : va_P G.1 pCl ((h0, .inr (9, fs256)) :: wa254) H := by rw [e257]; exact hP
  have hD : va_D A ((h0, .inr (9, fs256)) :: wa254) := by rw [e257]; exact hD
  refine lv_aload_n hx hb dX12_init_366 rfl (lv_at hl 0 rfl) ?_
  refine lv_sipush (v := 920) hx hb dX12_init_367 (by decide) ?_
  refine pn_newa (G := G) (atype := .int) (a0 := (920, .inl (fun _ => 0))) (N' := 920) hx hb (hq _ pw_6) rfl hE.1.2.1 hP hD hS hA (fun _ => rfl) (by decide) (by decide) (by decide) (Nat.le_of_ble_eq_true rfl) (Nat.le_of_ble_eq_true rfl) dX12_init_370 (fun q259 H hP hD hS => ?_)
  obtain ⟨wa260, ew261⟩ : ∃ z : va_W, z = wa254 ++ [(q259, .inl (G.2.1 0, 920, .inl (fun _ => 0)))] := ⟨_, rfl⟩
  have hP : va_P G.1 pCl ((h0, .inr (9, fs256)) :: wa260) H := by rw [ew261]; exact hP
  have hD : va_D A ((h0, .inr (9, fs256)) :: wa260) := by rw [ew261]; exact hD
  refine W.widen (k := 42) (n := 200184) (Nat.le_of_ble_eq_true rfl) (Nat.le_of_ble_eq_true rfl) ?_
  refine va_putF (D := G.1) (ci := 9) (v := .ref q259) (ty := (.array .int)) (C := RX12) (T := TX12) (N := 134) hx hb hq pin_wsX120 tyX12 tyX12_ok nmX12 hown hE.1.1 hP hD hS 0 rfl rfl 55 (by decide) (by rw [tFX12_55]; exact hq _ pw_1472) (fun _ h9 => h9) (by rw [tFX12_55]) hin (by rw [tFX12_55]; rfl) (by rw [tFX12_55]; decide +kernel) rfl rfl (by rw [hn258]; decide) dX12_init_372 (fun H locs hP hD hS => ?_)
  obtain ⟨fs262, e263⟩ : ∃ z : List Value, z = fs256.set 55 (.ref q259) := ⟨_, rfl⟩
  have hn264 : fs262.length = 134 := by rw [e263, List.length_set]; exact hn258
  have hP : va_P G.1 pCl ((h0, .inr (9, fs262)) :: wa260) H := by rw [e263]; exact hP
  have hD : va_D A ((h0, .inr (9, fs262)) :: wa260) := by rw [e263]; exact hD
  refine lv_aload_n hx hb dX12_init_375 rfl (lv_at hl 0 rfl) ?_
  refine lv_sipush (v := 920) hx hb dX12_init_376 (by decide) ?_
  refine pn_newa (G := G) (atype := .int) (a0 := (920, .inl (fun _ => 0))) (N' := 920) hx hb (hq _ pw_6) rfl hE.1.2.1 hP hD hS hA (fun _ => rfl) (by decide) (by decide) (by decide) (Nat.le_of_ble_eq_true rfl) (Nat.le_of_ble_eq_true rfl) dX12_init_379 (fun q265 H hP hD hS => ?_)
  have en266 : fs262 = [.int 0, .ref q1, .int 0, .ref q7, .int 0, .ref q13, .ref q19, .ref q25, .ref q31, .int 0, .ref q37, .ref q45, .ref q51, .int 0, .int 0, .int 0, .int 0, .ref q57, .ref q63, .ref q69, .ref q75, .ref q83, .ref q89, .ref q95, .ref q101, .ref q107, .ref q113, .int 0, .ref q121, .ref q127, .ref q133, .int 0, .ref q139, .ref q145, .int 0, .int 0, .ref q151, .ref q159, .ref q165, .ref q171, .ref q177, .ref q183, .ref q189, .ref q197, .int 0, .ref q203, .ref q209, .ref q215, .ref q221, .int 0, .ref q227, .ref q235, .ref q241, .ref q247, .ref q253, .ref q259, .null, .null, .null, .int 0, .int 0, .null, .null, .null, .int 0, .int 0, .int 0, .int 0, .int 0, .int 0, .int 0, .null, .null, .int 0, .int 0, .int 0, .int 0, .int 0, .int 0, .int 0, .int 0, .int 0, .int 0, .int 0, .null, .int 0, .null, .int 0, .null, .null, .null, .null, .null, .null, .null, .null, .null, .int 0, .int 0, .int 0, .null, .int 0, .int 0, .null, .null, .null, .null, .null, .null, .null, .null, .int 0, .null, .null, .null, .int 0, .int 0, .int 0, .int 0, .int 0, .int 0, .int 0, .int 0, .int 0, .int 0, .int 0, .int 0, .null, .int 0, .null, .int 0, .null, .null, .null] := by rw [e263, e257, e251, e245, e239, e233, en228]; rfl
  have en267 : wa260 = [(q1, .inl (G.2.1 0, 5000, .inl (fun _ => 0))), (q7, .inl (G.2.1 0, 5000, .inl (fun _ => 0))), (q13, .inl (G.2.1 0, 5001, .inl (fun _ => 0))), (q19, .inl (G.2.1 0, 5001, .inl (fun _ => 0))), (q25, .inl (G.2.1 0, 5001, .inl (fun _ => 0))), (q31, .inl (G.2.1 0, 5001, .inl (fun _ => 0))), (q37, .inl (G.2.1 0, 5100, .inl (fun _ => 0))), (q45, .inl (G.2.1 0, 5100, .inl (fun _ => 0))), (q51, .inl (G.2.1 1, 5100, .inl (fun _ => 0))), (q57, .inl (G.2.1 0, 12000, .inl (fun _ => 0))), (q63, .inl (G.2.1 0, 12000, .inl (fun _ => 0))), (q69, .inl (G.2.1 0, 12000, .inl (fun _ => 0))), (q75, .inl (G.2.1 0, 12000, .inl (fun _ => 0))), (q83, .inl (G.2.1 0, 12000, .inl (fun _ => 0))), (q89, .inl (G.2.1 0, 12000, .inl (fun _ => 0))), (q95, .inl (G.2.1 0, 12000, .inl (fun _ => 0))), (q101, .inl (G.2.1 0, 12000, .inl (fun _ => 0))), (q107, .inl (G.2.1 0, 12000, .inl (fun _ => 0))), (q113, .inl (G.2.1 0, 12000, .inl (fun _ => 0))), (q121, .inl (G.2.1 0, 5000, .inl (fun _ => 0))), (q127, .inl (G.2.1 3, 5000, .inl (fun _ => 0))), (q133, .inl (G.2.1 0, 5000, .inl (fun _ => 0))), (q139, .inl (G.2.1 0, 5000, .inl (fun _ => 0))), (q145, .inl (G.2.1 0, 5000, .inl (fun _ => 0))), (q151, .inl (G.2.1 0, 40, .inl (fun _ => 0))), (q159, .inl (G.2.1 0, 40, .inl (fun _ => 0))), (q165, .inl (G.2.1 3, 40, .inl (fun _ => 0))), (q171, .inl (G.2.1 0, 40, .inl (fun _ => 0))), (q177, .inl (G.2.1 0, 40, .inl (fun _ => 0))), (q183, .inl (G.2.1 0, 40, .inl (fun _ => 0))), (q189, .inl (G.2.1 0, 40, .inl (fun _ => 0))), (q197, .inl (G.2.1 3, 1600, .inl (fun _ => 0))), (q203, .inl (G.2.1 0, 620, .inl (fun _ => 0))), (q209, .inl (G.2.1 0, 620, .inl (fun _ => 0))), (q215, .inl (G.2.1 0, 620, .inl (fun _ => 0))), (q221, .inl (G.2.1 0, 620, .inl (fun _ => 0))), (q227, .inl (G.2.1 0, 920, .inl (fun _ => 0))), (q235, .inl (G.2.1 0, 920, .inl (fun _ => 0))), (q241, .inl (G.2.1 0, 920, .inl (fun _ => 0))), (q247, .inl (G.2.1 0, 920, .inl (fun _ => 0))), (q253, .inl (G.2.1 0, 920, .inl (fun _ => 0))), (q259, .inl (G.2.1 0, 920, .inl (fun _ => 0)))] := by rw [ew261, ew255, ew249, ew243, ew237, ew231, en229]; rfl
  obtain ⟨wa268, ew269⟩ : ∃ z : va_W, z = wa260 ++ [(q265, .inl (G.2.1 0, 920, .inl (fun _ => 0)))] := ⟨_, rfl⟩
  have hP : va_P G.1 pCl ((h0, .inr (9, fs262)) :: wa268) H := by rw [ew269]; exact hP
  have hD : va_D A ((h0, .inr (9, fs262)) :: wa268) := by rw [ew269]; exact hD
  refine W.widen (k := 43) (n := 201104) (Nat.le_of_ble_eq_true rfl) (Nat.le_of_ble_eq_true rfl) ?_
  refine va_putF (D := G.1) (ci := 9) (v := .ref q265) (ty := (.array .int)) (C := RX12) (T := TX12) (N := 134) hx hb hq pin_wsX120 tyX12 tyX12_ok nmX12 hown hE.1.1 hP hD hS 0 rfl rfl 56 (by decide) (by rw [tFX12_56]; exact hq _ pw_1473) (fun _ h9 => h9) (by rw [tFX12_56]) hin (by rw [tFX12_56]; rfl) (by rw [tFX12_56]; decide +kernel) rfl rfl (by rw [hn264]; decide) dX12_init_381 (fun H locs hP hD hS => ?_)
  obtain ⟨fs270, e271⟩ : ∃ z : List Value, z = fs262.set 56 (.ref q265) := ⟨_, rfl⟩
  have hn272 : fs270.length = 134 := by rw [e271, List.length_set]; exact hn264
  have hP : va_P G.1 pCl ((h0, .inr (9, fs270)) :: wa268) H := by rw [e271]; exact hP
  have hD : va_D A ((h0, .inr (9, fs270)) :: wa268) := by rw [e271]; exact hD
  refine lv_aload_n hx hb dX12_init_384 rfl (lv_at hl 0 rfl) ?_
  refine lv_sipush (v := 920) hx hb dX12_init_385 (by decide) ?_
  refine pn_newa (G := G) (atype := .int) (a0 := (920, .inl (fun _ => 0))) (N' := 920) hx hb (hq _ pw_6) rfl hE.1.2.1 hP hD hS hA (fun _ => rfl) (by decide) (by decide) (by decide) (Nat.le_of_ble_eq_true rfl) (Nat.le_of_ble_eq_true rfl) dX12_init_388 (fun q273 H hP hD hS => ?_)
  obtain ⟨wa274, ew275⟩ : ∃ z : va_W, z = wa268 ++ [(q273, .inl (G.2.1 0, 920, .inl (fun _ => 0)))] := ⟨_, rfl⟩
  have hP : va_P G.1 pCl ((h0, .inr (9, fs270)) :: wa274) H := by rw [ew275]; exact hP
  have hD : va_D A ((h0, .inr (9, fs270)) :: wa274) := by rw [ew275]; exact hD
  refine W.widen (k := 44) (n := 202024) (Nat.le_of_ble_eq_true rfl) (Nat.le_of_ble_eq_true rfl) ?_
  refine va_putF (D := G.1) (ci := 9) (v := .ref q273) (ty := (.array .int)) (C := RX12) (T := TX12) (N := 134) hx hb hq pin_wsX120 tyX12 tyX12_ok nmX12 hown hE.1.1 hP hD hS 0 rfl rfl 57 (by decide) (by rw [tFX12_57]; exact hq _ pw_1474) (fun _ h9 => h9) (by rw [tFX12_57]) hin (by rw [tFX12_57]; rfl) (by rw [tFX12_57]; decide +kernel) rfl rfl (by rw [hn272]; decide) dX12_init_390 (fun H locs hP hD hS => ?_)
  obtain ⟨fs276, e277⟩ : ∃ z : List Value, z = fs270.set 57 (.ref q273) := ⟨_, rfl⟩
  have hn278 : fs276.length = 134 := by rw [e277, List.length_set]; exact hn272
  have hP : va_P G.1 pCl ((h0, .inr (9, fs276)) :: wa274) H := by rw [e277]; exact hP
  have hD : va_D A ((h0, .inr (9, fs276)) :: wa274) := by rw [e277]; exact hD
  refine lv_aload_n hx hb dX12_init_393 rfl (lv_at hl 0 rfl) ?_
  refine lv_sipush (v := 920) hx hb dX12_init_394 (by decide) ?_
  refine pn_newa (G := G) (atype := .int) (a0 := (920, .inl (fun _ => 0))) (N' := 920) hx hb (hq _ pw_6) rfl hE.1.2.1 hP hD hS hA (fun _ => rfl) (by decide) (by decide) (by decide) (Nat.le_of_ble_eq_true rfl) (Nat.le_of_ble_eq_true rfl) dX12_init_397 (fun q279 H hP hD hS => ?_)
  obtain ⟨wa280, ew281⟩ : ∃ z : va_W, z = wa274 ++ [(q279, .inl (G.2.1 0, 920, .inl (fun _ => 0)))] := ⟨_, rfl⟩
  have hP : va_P G.1 pCl ((h0, .inr (9, fs276)) :: wa280) H := by rw [ew281]; exact hP
  have hD : va_D A ((h0, .inr (9, fs276)) :: wa280) := by rw [ew281]; exact hD
  refine W.widen (k := 45) (n := 202944) (Nat.le_of_ble_eq_true rfl) (Nat.le_of_ble_eq_true rfl) ?_
  refine va_putF (D := G.1) (ci := 9) (v := .ref q279) (ty := (.array .int)) (C := RX12) (T := TX12) (N := 134) hx hb hq pin_wsX120 tyX12 tyX12_ok nmX12 hown hE.1.1 hP hD hS 0 rfl rfl 58 (by decide) (by rw [tFX12_58]; exact hq _ pw_1475) (fun _ h9 => h9) (by rw [tFX12_58]) hin (by rw [tFX12_58]; rfl) (by rw [tFX12_58]; decide +kernel) rfl rfl (by rw [hn278]; decide) dX12_init_399 (fun H locs hP hD hS => ?_)
  obtain ⟨fs282, e283⟩ : ∃ z : List Value, z = fs276.set 58 (.ref q279) := ⟨_, rfl⟩
  have hn284 : fs282.length = 134 := by rw [e283, List.length_set]; exact hn278
  have hP : va_P G.1 pCl ((h0, .inr (9, fs282)) :: wa280) H := by rw [e283]; exact hP
  have hD : va_D A ((h0, .inr (9, fs282)) :: wa280) := by rw [e283]; exact hD
  refine lv_aload_n hx hb dX12_init_402 rfl (lv_at hl 0 rfl) ?_
  refine lv_sipush (v := 5000) hx hb dX12_init_403 (by decide) ?_
  refine pn_newa (G := G) (atype := .int) (a0 := (5000, .inl (fun _ => 0))) (N' := 5000) hx hb (hq _ pw_6) rfl hE.1.2.1 hP hD hS hA (fun _ => rfl) (by decide) (by decide) (by decide) (Nat.le_of_ble_eq_true rfl) (Nat.le_of_ble_eq_true rfl) dX12_init_406 (fun q285 H hP hD hS => ?_)
  obtain ⟨wa286, ew287⟩ : ∃ z : va_W, z = wa280 ++ [(q285, .inl (G.2.1 0, 5000, .inl (fun _ => 0)))] := ⟨_, rfl⟩
  have hP : va_P G.1 pCl ((h0, .inr (9, fs282)) :: wa286) H := by rw [ew287]; exact hP
  have hD : va_D A ((h0, .inr (9, fs282)) :: wa286) := by rw [ew287]; exact hD
  refine W.widen (k := 46) (n := 207944) (Nat.le_of_ble_eq_true rfl) (Nat.le_of_ble_eq_true rfl) ?_
  refine va_putF (D := G.1) (ci := 9) (v := .ref q285) (ty := (.array .int)) (C := RX12) (T := TX12) (N := 134) hx hb hq pin_wsX120 tyX12 tyX12_ok nmX12 hown hE.1.1 hP hD hS 0 rfl rfl 61 (by decide) (by rw [tFX12_61]; exact hq _ pw_1476) (fun _ h9 => h9) (by rw [tFX12_61]) hin (by rw [tFX12_61]; rfl) (by rw [tFX12_61]; decide +kernel) rfl rfl (by rw [hn284]; decide) dX12_init_408 (fun H locs hP hD hS => ?_)
  obtain ⟨fs288, e289⟩ : ∃ z : List Value, z = fs282.set 61 (.ref q285) := ⟨_, rfl⟩
  have hn290 : fs288.length = 134 := by rw [e289, List.length_set]; exact hn284
  have hP : va_P G.1 pCl ((h0, .inr (9, fs288)) :: wa286) H := by rw [e289]; exact hP
  have hD : va_D A ((h0, .inr (9, fs288)) :: wa286) := by rw [e289]; exact hD
  refine lv_aload_n hx hb dX12_init_411 rfl (lv_at hl 0 rfl) ?_
  refine lv_sipush (v := 5000) hx hb dX12_init_412 (by decide) ?_
  refine pn_newa (G := G) (atype := .int) (a0 := (5000, .inl (fun _ => 0))) (N' := 5000) hx hb (hq _ pw_6) rfl hE.1.2.1 hP hD hS hA (fun _ => rfl) (by decide) (by decide) (by decide) (Nat.le_of_ble_eq_true rfl) (Nat.le_of_ble_eq_true rfl) dX12_init_415 (fun q291 H hP hD hS => ?_)
  obtain ⟨wa292, ew293⟩ : ∃ z : va_W, z = wa286 ++ [(q291, .inl (G.2.1 0, 5000, .inl (fun _ => 0)))] := ⟨_, rfl⟩
  have hP : va_P G.1 pCl ((h0, .inr (9, fs288)) :: wa292) H := by rw [ew293]; exact hP
  have hD : va_D A ((h0, .inr (9, fs288)) :: wa292) := by rw [ew293]; exact hD
  refine W.widen (k := 47) (n := 212944) (Nat.le_of_ble_eq_true rfl) (Nat.le_of_ble_eq_true rfl) ?_
  refine va_putF (D := G.1) (ci := 9) (v := .ref q291) (ty := (.array .int)) (C := RX12) (T := TX12) (N := 134) hx hb hq pin_wsX120 tyX12 tyX12_ok nmX12 hown hE.1.1 hP hD hS 0 rfl rfl 62 (by decide) (by rw [tFX12_62]; exact hq _ pw_1477) (fun _ h9 => h9) (by rw [tFX12_62]) hin (by rw [tFX12_62]; rfl) (by rw [tFX12_62]; decide +kernel) rfl rfl (by rw [hn290]; decide) dX12_init_417 (fun H locs hP hD hS => ?_)
  obtain ⟨fs294, e295⟩ : ∃ z : List Value, z = fs288.set 62 (.ref q291) := ⟨_, rfl⟩
  have hn296 : fs294.length = 134 := by rw [e295, List.length_set]; exact hn290
  have hP : va_P G.1 pCl ((h0, .inr (9, fs294)) :: wa292) H := by rw [e295]; exact hP
  have hD : va_D A ((h0, .inr (9, fs294)) :: wa292) := by rw [e295]; exact hD
  refine lv_aload_n hx hb dX12_init_420 rfl (lv_at hl 0 rfl) ?_
  refine lv_sipush (v := 5000) hx hb dX12_init_421 (by decide) ?_
  refine pn_newa (G := G) (atype := .int) (a0 := (5000, .inl (fun _ => 0))) (N' := 5000) hx hb (hq _ pw_6) rfl hE.1.2.1 hP hD hS hA (fun _ => rfl) (by decide) (by decide) (by decide) (Nat.le_of_ble_eq_true rfl) (Nat.le_of_ble_eq_true rfl) dX12_init_424 (fun q297 H hP hD hS => ?_)
  obtain ⟨wa298, ew299⟩ : ∃ z : va_W, z = wa292 ++ [(q297, .inl (G.2.1 0, 5000, .inl (fun _ => 0)))] := ⟨_, rfl⟩
  have hP : va_P G.1 pCl ((h0, .inr (9, fs294)) :: wa298) H := by rw [ew299]; exact hP
  have hD : va_D A ((h0, .inr (9, fs294)) :: wa298) := by rw [ew299]; exact hD
  refine W.widen (k := 48) (n := 217944) (Nat.le_of_ble_eq_true rfl) (Nat.le_of_ble_eq_true rfl) ?_
  refine va_putF (D := G.1) (ci := 9) (v := .ref q297) (ty := (.array .int)) (C := RX12) (T := TX12) (N := 134) hx hb hq pin_wsX120 tyX12 tyX12_ok nmX12 hown hE.1.1 hP hD hS 0 rfl rfl 63 (by decide) (by rw [tFX12_63]; exact hq _ pw_1478) (fun _ h9 => h9) (by rw [tFX12_63]) hin (by rw [tFX12_63]; rfl) (by rw [tFX12_63]; decide +kernel) rfl rfl (by rw [hn296]; decide) dX12_init_426 (fun H locs hP hD hS => ?_)
  obtain ⟨fs300, e301⟩ : ∃ z : List Value, z = fs294.set 63 (.ref q297) := ⟨_, rfl⟩
  have hn302 : fs300.length = 134 := by rw [e301, List.length_set]; exact hn296
  have hP : va_P G.1 pCl ((h0, .inr (9, fs300)) :: wa298) H := by rw [e301]; exact hP
  have hD : va_D A ((h0, .inr (9, fs300)) :: wa298) := by rw [e301]; exact hD
  refine lv_aload_n hx hb dX12_init_429 rfl (lv_at hl 0 rfl) ?_
  refine lv_bipush (v := 40) hx hb dX12_init_430 (by decide) ?_
  refine pn_newa (G := G) (atype := .int) (a0 := (40, .inl (fun _ => 0))) (N' := 40) hx hb (hq _ pw_6) rfl hE.1.2.1 hP hD hS hA (fun _ => rfl) (by decide) (by decide) (by decide) (Nat.le_of_ble_eq_true rfl) (Nat.le_of_ble_eq_true rfl) dX12_init_432 (fun q303 H hP hD hS => ?_)
  have en304 : fs300 = [.int 0, .ref q1, .int 0, .ref q7, .int 0, .ref q13, .ref q19, .ref q25, .ref q31, .int 0, .ref q37, .ref q45, .ref q51, .int 0, .int 0, .int 0, .int 0, .ref q57, .ref q63, .ref q69, .ref q75, .ref q83, .ref q89, .ref q95, .ref q101, .ref q107, .ref q113, .int 0, .ref q121, .ref q127, .ref q133, .int 0, .ref q139, .ref q145, .int 0, .int 0, .ref q151, .ref q159, .ref q165, .ref q171, .ref q177, .ref q183, .ref q189, .ref q197, .int 0, .ref q203, .ref q209, .ref q215, .ref q221, .int 0, .ref q227, .ref q235, .ref q241, .ref q247, .ref q253, .ref q259, .ref q265, .ref q273, .ref q279, .int 0, .int 0, .ref q285, .ref q291, .ref q297, .int 0, .int 0, .int 0, .int 0, .int 0, .int 0, .int 0, .null, .null, .int 0, .int 0, .int 0, .int 0, .int 0, .int 0, .int 0, .int 0, .int 0, .int 0, .int 0, .null, .int 0, .null, .int 0, .null, .null, .null, .null, .null, .null, .null, .null, .null, .int 0, .int 0, .int 0, .null, .int 0, .int 0, .null, .null, .null, .null, .null, .null, .null, .null, .int 0, .null, .null, .null, .int 0, .int 0, .int 0, .int 0, .int 0, .int 0, .int 0, .int 0, .int 0, .int 0, .int 0, .int 0, .null, .int 0, .null, .int 0, .null, .null, .null] := by rw [e301, e295, e289, e283, e277, e271, en266]; rfl
  have en305 : wa298 = [(q1, .inl (G.2.1 0, 5000, .inl (fun _ => 0))), (q7, .inl (G.2.1 0, 5000, .inl (fun _ => 0))), (q13, .inl (G.2.1 0, 5001, .inl (fun _ => 0))), (q19, .inl (G.2.1 0, 5001, .inl (fun _ => 0))), (q25, .inl (G.2.1 0, 5001, .inl (fun _ => 0))), (q31, .inl (G.2.1 0, 5001, .inl (fun _ => 0))), (q37, .inl (G.2.1 0, 5100, .inl (fun _ => 0))), (q45, .inl (G.2.1 0, 5100, .inl (fun _ => 0))), (q51, .inl (G.2.1 1, 5100, .inl (fun _ => 0))), (q57, .inl (G.2.1 0, 12000, .inl (fun _ => 0))), (q63, .inl (G.2.1 0, 12000, .inl (fun _ => 0))), (q69, .inl (G.2.1 0, 12000, .inl (fun _ => 0))), (q75, .inl (G.2.1 0, 12000, .inl (fun _ => 0))), (q83, .inl (G.2.1 0, 12000, .inl (fun _ => 0))), (q89, .inl (G.2.1 0, 12000, .inl (fun _ => 0))), (q95, .inl (G.2.1 0, 12000, .inl (fun _ => 0))), (q101, .inl (G.2.1 0, 12000, .inl (fun _ => 0))), (q107, .inl (G.2.1 0, 12000, .inl (fun _ => 0))), (q113, .inl (G.2.1 0, 12000, .inl (fun _ => 0))), (q121, .inl (G.2.1 0, 5000, .inl (fun _ => 0))), (q127, .inl (G.2.1 3, 5000, .inl (fun _ => 0))), (q133, .inl (G.2.1 0, 5000, .inl (fun _ => 0))), (q139, .inl (G.2.1 0, 5000, .inl (fun _ => 0))), (q145, .inl (G.2.1 0, 5000, .inl (fun _ => 0))), (q151, .inl (G.2.1 0, 40, .inl (fun _ => 0))), (q159, .inl (G.2.1 0, 40, .inl (fun _ => 0))), (q165, .inl (G.2.1 3, 40, .inl (fun _ => 0))), (q171, .inl (G.2.1 0, 40, .inl (fun _ => 0))), (q177, .inl (G.2.1 0, 40, .inl (fun _ => 0))), (q183, .inl (G.2.1 0, 40, .inl (fun _ => 0))), (q189, .inl (G.2.1 0, 40, .inl (fun _ => 0))), (q197, .inl (G.2.1 3, 1600, .inl (fun _ => 0))), (q203, .inl (G.2.1 0, 620, .inl (fun _ => 0))), (q209, .inl (G.2.1 0, 620, .inl (fun _ => 0))), (q215, .inl (G.2.1 0, 620, .inl (fun _ => 0))), (q221, .inl (G.2.1 0, 620, .inl (fun _ => 0))), (q227, .inl (G.2.1 0, 920, .inl (fun _ => 0))), (q235, .inl (G.2.1 0, 920, .inl (fun _ => 0))), (q241, .inl (G.2.1 0, 920, .inl (fun _ => 0))), (q247, .inl (G.2.1 0, 920, .inl (fun _ => 0))), (q253, .inl (G.2.1 0, 920, .inl (fun _ => 0))), (q259, .inl (G.2.1 0, 920, .inl (fun _ => 0))), (q265, .inl (G.2.1 0, 920, .inl (fun _ => 0))), (q273, .inl (G.2.1 0, 920, .inl (fun _ => 0))), (q279, .inl (G.2.1 0, 920, .inl (fun _ => 0))), (q285, .inl (G.2.1 0, 5000, .inl (fun _ => 0))), (q291, .inl (G.2.1 0, 5000, .inl (fun _ => 0))), (q297, .inl (G.2.1 0, 5000, .inl (fun _ => 0)))] := by rw [ew299, ew293, ew287, ew281, ew275, ew269, en267]; rfl
  obtain ⟨wa306, ew307⟩ : ∃ z : va_W, z = wa298 ++ [(q303, .inl (G.2.1 0, 40, .inl (fun _ => 0)))] := ⟨_, rfl⟩
  have hP : va_P G.1 pCl ((h0, .inr (9, fs300)) :: wa306) H := by rw [ew307]; exact hP
  have hD : va_D A ((h0, .inr (9, fs300)) :: wa306) := by rw [ew307]; exact hD
  refine W.widen (k := 49) (n := 217984) (Nat.le_of_ble_eq_true rfl) (Nat.le_of_ble_eq_true rfl) ?_
  refine va_putF (D := G.1) (ci := 9) (v := .ref q303) (ty := (.array .int)) (C := RX12) (T := TX12) (N := 134) hx hb hq pin_wsX120 tyX12 tyX12_ok nmX12 hown hE.1.1 hP hD hS 0 rfl rfl 71 (by decide) (by rw [tFX12_71]; exact hq _ pw_1479) (fun _ h9 => h9) (by rw [tFX12_71]) hin (by rw [tFX12_71]; rfl) (by rw [tFX12_71]; decide +kernel) rfl rfl (by rw [hn302]; decide) dX12_init_434 (fun H locs hP hD hS => ?_)
  obtain ⟨fs308, e309⟩ : ∃ z : List Value, z = fs300.set 71 (.ref q303) := ⟨_, rfl⟩
  have hn310 : fs308.length = 134 := by rw [e309, List.length_set]; exact hn302
  have hP : va_P G.1 pCl ((h0, .inr (9, fs308)) :: wa306) H := by rw [e309]; exact hP
  have hD : va_D A ((h0, .inr (9, fs308)) :: wa306) := by rw [e309]; exact hD
  refine lv_aload_n hx hb dX12_init_437 rfl (lv_at hl 0 rfl) ?_
  refine lv_bipush (v := 40) hx hb dX12_init_438 (by decide) ?_
  refine pn_newa (G := G) (atype := .int) (a0 := (40, .inl (fun _ => 0))) (N' := 40) hx hb (hq _ pw_6) rfl hE.1.2.1 hP hD hS hA (fun _ => rfl) (by decide) (by decide) (by decide) (Nat.le_of_ble_eq_true rfl) (Nat.le_of_ble_eq_true rfl) dX12_init_440 (fun q311 H hP hD hS => ?_)
  obtain ⟨wa312, ew313⟩ : ∃ z : va_W, z = wa306 ++ [(q311, .inl (G.2.1 0, 40, .inl (fun _ => 0)))] := ⟨_, rfl⟩
  have hP : va_P G.1 pCl ((h0, .inr (9, fs308)) :: wa312) H := by rw [ew313]; exact hP
  have hD : va_D A ((h0, .inr (9, fs308)) :: wa312) := by rw [ew313]; exact hD
  refine W.widen (k := 50) (n := 218024) (Nat.le_of_ble_eq_true rfl) (Nat.le_of_ble_eq_true rfl) ?_
  refine va_putF (D := G.1) (ci := 9) (v := .ref q311) (ty := (.array .int)) (C := RX12) (T := TX12) (N := 134) hx hb hq pin_wsX120 tyX12 tyX12_ok nmX12 hown hE.1.1 hP hD hS 0 rfl rfl 72 (by decide) (by rw [tFX12_72]; exact hq _ pw_1480) (fun _ h9 => h9) (by rw [tFX12_72]) hin (by rw [tFX12_72]; rfl) (by rw [tFX12_72]; decide +kernel) rfl rfl (by rw [hn310]; decide) dX12_init_442 (fun H locs hP hD hS => ?_)
  obtain ⟨fs314, e315⟩ : ∃ z : List Value, z = fs308.set 72 (.ref q311) := ⟨_, rfl⟩
  have hn316 : fs314.length = 134 := by rw [e315, List.length_set]; exact hn310
  have hP : va_P G.1 pCl ((h0, .inr (9, fs314)) :: wa312) H := by rw [e315]; exact hP
  have hD : va_D A ((h0, .inr (9, fs314)) :: wa312) := by rw [e315]; exact hD
  refine lv_aload_n hx hb dX12_init_445 rfl (lv_at hl 0 rfl) ?_
  refine lv_sipush (v := 200) hx hb dX12_init_446 (by decide) ?_
  refine pn_newa (G := G) (atype := .int) (a0 := (200, .inl (fun _ => 0))) (N' := 200) hx hb (hq _ pw_6) rfl hE.1.2.1 hP hD hS hA (fun _ => rfl) (by decide) (by decide) (by decide) (Nat.le_of_ble_eq_true rfl) (Nat.le_of_ble_eq_true rfl) dX12_init_449 (fun q317 H hP hD hS => ?_)
  obtain ⟨wa318, ew319⟩ : ∃ z : va_W, z = wa312 ++ [(q317, .inl (G.2.1 0, 200, .inl (fun _ => 0)))] := ⟨_, rfl⟩
  have hP : va_P G.1 pCl ((h0, .inr (9, fs314)) :: wa318) H := by rw [ew319]; exact hP
  have hD : va_D A ((h0, .inr (9, fs314)) :: wa318) := by rw [ew319]; exact hD
  refine W.widen (k := 51) (n := 218224) (Nat.le_of_ble_eq_true rfl) (Nat.le_of_ble_eq_true rfl) ?_
  refine va_putF (D := G.1) (ci := 9) (v := .ref q317) (ty := (.array .int)) (C := RX12) (T := TX12) (N := 134) hx hb hq pin_wsX120 tyX12 tyX12_ok nmX12 hown hE.1.1 hP hD hS 0 rfl rfl 84 (by decide) (by rw [tFX12_84]; exact hq _ pw_1481) (fun _ h9 => h9) (by rw [tFX12_84]) hin (by rw [tFX12_84]; rfl) (by rw [tFX12_84]; decide +kernel) rfl rfl (by rw [hn316]; decide) dX12_init_451 (fun H locs hP hD hS => ?_)
  obtain ⟨fs320, e321⟩ : ∃ z : List Value, z = fs314.set 84 (.ref q317) := ⟨_, rfl⟩
  have hn322 : fs320.length = 134 := by rw [e321, List.length_set]; exact hn316
  have hP : va_P G.1 pCl ((h0, .inr (9, fs320)) :: wa318) H := by rw [e321]; exact hP
  have hD : va_D A ((h0, .inr (9, fs320)) :: wa318) := by rw [e321]; exact hD
  refine lv_aload_n hx hb dX12_init_454 rfl (lv_at hl 0 rfl) ?_
  refine lv_sipush (v := 400) hx hb dX12_init_455 (by decide) ?_
  refine pn_newa (G := G) (atype := .int) (a0 := (400, .inl (fun _ => 0))) (N' := 400) hx hb (hq _ pw_6) rfl hE.1.2.1 hP hD hS hA (fun _ => rfl) (by decide) (by decide) (by decide) (Nat.le_of_ble_eq_true rfl) (Nat.le_of_ble_eq_true rfl) dX12_init_458 (fun q323 H hP hD hS => ?_)
  obtain ⟨wa324, ew325⟩ : ∃ z : va_W, z = wa318 ++ [(q323, .inl (G.2.1 0, 400, .inl (fun _ => 0)))] := ⟨_, rfl⟩
  have hP : va_P G.1 pCl ((h0, .inr (9, fs320)) :: wa324) H := by rw [ew325]; exact hP
  have hD : va_D A ((h0, .inr (9, fs320)) :: wa324) := by rw [ew325]; exact hD
  refine W.widen (k := 52) (n := 218624) (Nat.le_of_ble_eq_true rfl) (Nat.le_of_ble_eq_true rfl) ?_
  refine va_putF (D := G.1) (ci := 9) (v := .ref q323) (ty := (.array .int)) (C := RX12) (T := TX12) (N := 134) hx hb hq pin_wsX120 tyX12 tyX12_ok nmX12 hown hE.1.1 hP hD hS 0 rfl rfl 86 (by decide) (by rw [tFX12_86]; exact hq _ pw_1482) (fun _ h9 => h9) (by rw [tFX12_86]) hin (by rw [tFX12_86]; rfl) (by rw [tFX12_86]; decide +kernel) rfl rfl (by rw [hn322]; decide) dX12_init_460 (fun H locs hP hD hS => ?_)
  obtain ⟨fs326, e327⟩ : ∃ z : List Value, z = fs320.set 86 (.ref q323) := ⟨_, rfl⟩
  have hn328 : fs326.length = 134 := by rw [e327, List.length_set]; exact hn322
  have hP : va_P G.1 pCl ((h0, .inr (9, fs326)) :: wa324) H := by rw [e327]; exact hP
  have hD : va_D A ((h0, .inr (9, fs326)) :: wa324) := by rw [e327]; exact hD
  refine lv_aload_n hx hb dX12_init_463 rfl (lv_at hl 0 rfl) ?_
  refine lv_sipush (v := 12000) hx hb dX12_init_464 (by decide) ?_
  refine pn_newa (G := G) (atype := .int) (a0 := (12000, .inl (fun _ => 0))) (N' := 12000) hx hb (hq _ pw_6) rfl hE.1.2.1 hP hD hS hA (fun _ => rfl) (by decide) (by decide) (by decide) (Nat.le_of_ble_eq_true rfl) (Nat.le_of_ble_eq_true rfl) dX12_init_467 (fun q329 H hP hD hS => ?_)
  obtain ⟨wa330, ew331⟩ : ∃ z : va_W, z = wa324 ++ [(q329, .inl (G.2.1 0, 12000, .inl (fun _ => 0)))] := ⟨_, rfl⟩
  have hP : va_P G.1 pCl ((h0, .inr (9, fs326)) :: wa330) H := by rw [ew331]; exact hP
  have hD : va_D A ((h0, .inr (9, fs326)) :: wa330) := by rw [ew331]; exact hD
  refine W.widen (k := 53) (n := 230624) (Nat.le_of_ble_eq_true rfl) (Nat.le_of_ble_eq_true rfl) ?_
  refine va_putF (D := G.1) (ci := 9) (v := .ref q329) (ty := (.array .int)) (C := RX12) (T := TX12) (N := 134) hx hb hq pin_wsX120 tyX12 tyX12_ok nmX12 hown hE.1.1 hP hD hS 0 rfl rfl 88 (by decide) (by rw [tFX12_88]; exact hq _ pw_1483) (fun _ h9 => h9) (by rw [tFX12_88]) hin (by rw [tFX12_88]; rfl) (by rw [tFX12_88]; decide +kernel) rfl rfl (by rw [hn328]; decide) dX12_init_469 (fun H locs hP hD hS => ?_)
  obtain ⟨fs332, e333⟩ : ∃ z : List Value, z = fs326.set 88 (.ref q329) := ⟨_, rfl⟩
  have hn334 : fs332.length = 134 := by rw [e333, List.length_set]; exact hn328
  have hP : va_P G.1 pCl ((h0, .inr (9, fs332)) :: wa330) H := by rw [e333]; exact hP
  have hD : va_D A ((h0, .inr (9, fs332)) :: wa330) := by rw [e333]; exact hD
  refine lv_aload_n hx hb dX12_init_472 rfl (lv_at hl 0 rfl) ?_
  refine lv_sipush (v := 620) hx hb dX12_init_473 (by decide) ?_
  refine pn_newa (G := G) (atype := .int) (a0 := (620, .inl (fun _ => 0))) (N' := 620) hx hb (hq _ pw_6) rfl hE.1.2.1 hP hD hS hA (fun _ => rfl) (by decide) (by decide) (by decide) (Nat.le_of_ble_eq_true rfl) (Nat.le_of_ble_eq_true rfl) dX12_init_476 (fun q335 H hP hD hS => ?_)
  obtain ⟨wa336, ew337⟩ : ∃ z : va_W, z = wa330 ++ [(q335, .inl (G.2.1 0, 620, .inl (fun _ => 0)))] := ⟨_, rfl⟩
  have hP : va_P G.1 pCl ((h0, .inr (9, fs332)) :: wa336) H := by rw [ew337]; exact hP
  have hD : va_D A ((h0, .inr (9, fs332)) :: wa336) := by rw [ew337]; exact hD
  refine W.widen (k := 54) (n := 231244) (Nat.le_of_ble_eq_true rfl) (Nat.le_of_ble_eq_true rfl) ?_
  refine va_putF (D := G.1) (ci := 9) (v := .ref q335) (ty := (.array .int)) (C := RX12) (T := TX12) (N := 134) hx hb hq pin_wsX120 tyX12 tyX12_ok nmX12 hown hE.1.1 hP hD hS 0 rfl rfl 89 (by decide) (by rw [tFX12_89]; exact hq _ pw_1484) (fun _ h9 => h9) (by rw [tFX12_89]) hin (by rw [tFX12_89]; rfl) (by rw [tFX12_89]; decide +kernel) rfl rfl (by rw [hn334]; decide) dX12_init_478 (fun H locs hP hD hS => ?_)
  obtain ⟨fs338, e339⟩ : ∃ z : List Value, z = fs332.set 89 (.ref q335) := ⟨_, rfl⟩
  have hn340 : fs338.length = 134 := by rw [e339, List.length_set]; exact hn334
  have hP : va_P G.1 pCl ((h0, .inr (9, fs338)) :: wa336) H := by rw [e339]; exact hP
  have hD : va_D A ((h0, .inr (9, fs338)) :: wa336) := by rw [e339]; exact hD
  refine lv_aload_n hx hb dX12_init_481 rfl (lv_at hl 0 rfl) ?_
  refine lv_ldc (v := 204000) hx hb hown (hq _ pw_1485) dX12_init_482 ?_
  refine pn_newa (G := G) (atype := .int) (a0 := (204000, .inl (fun _ => 0))) (N' := 204000) hx hb (hq _ pw_6) rfl hE.1.2.1 hP hD hS hA (fun _ => rfl) (by decide) (by decide) (by decide) (Nat.le_of_ble_eq_true rfl) (Nat.le_of_ble_eq_true rfl) dX12_init_484 (fun q341 H hP hD hS => ?_)
  have en342 : fs338 = [.int 0, .ref q1, .int 0, .ref q7, .int 0, .ref q13, .ref q19, .ref q25, .ref q31, .int 0, .ref q37, .ref q45, .ref q51, .int 0, .int 0, .int 0, .int 0, .ref q57, .ref q63, .ref q69, .ref q75, .ref q83, .ref q89, .ref q95, .ref q101, .ref q107, .ref q113, .int 0, .ref q121, .ref q127, .ref q133, .int 0, .ref q139, .ref q145, .int 0, .int 0, .ref q151, .ref q159, .ref q165, .ref q171, .ref q177, .ref q183, .ref q189, .ref q197, .int 0, .ref q203, .ref q209, .ref q215, .ref q221, .int 0, .ref q227, .ref q235, .ref q241, .ref q247, .ref q253, .ref q259, .ref q265, .ref q273, .ref q279, .int 0, .int 0, .ref q285, .ref q291, .ref q297, .int 0, .int 0, .int 0, .int 0, .int 0, .int 0, .int 0, .ref q303, .ref q311, .int 0, .int 0, .int 0, .int 0, .int 0, .int 0, .int 0, .int 0, .int 0, .int 0, .int 0, .ref q317, .int 0, .ref q323, .int 0, .ref q329, .ref q335, .null, .null, .null, .null, .null, .null, .null, .int 0, .int 0, .int 0, .null, .int 0, .int 0, .null, .null, .null, .null, .null, .null, .null, .null, .int 0, .null, .null, .null, .int 0, .int 0, .int 0, .int 0, .int 0, .int 0, .int 0, .int 0, .int 0, .int 0, .int 0, .int 0, .null, .int 0, .null, .int 0, .null, .null, .null] := by rw [e339, e333, e327, e321, e315, e309, en304]; rfl
  have en343 : wa336 = [(q1, .inl (G.2.1 0, 5000, .inl (fun _ => 0))), (q7, .inl (G.2.1 0, 5000, .inl (fun _ => 0))), (q13, .inl (G.2.1 0, 5001, .inl (fun _ => 0))), (q19, .inl (G.2.1 0, 5001, .inl (fun _ => 0))), (q25, .inl (G.2.1 0, 5001, .inl (fun _ => 0))), (q31, .inl (G.2.1 0, 5001, .inl (fun _ => 0))), (q37, .inl (G.2.1 0, 5100, .inl (fun _ => 0))), (q45, .inl (G.2.1 0, 5100, .inl (fun _ => 0))), (q51, .inl (G.2.1 1, 5100, .inl (fun _ => 0))), (q57, .inl (G.2.1 0, 12000, .inl (fun _ => 0))), (q63, .inl (G.2.1 0, 12000, .inl (fun _ => 0))), (q69, .inl (G.2.1 0, 12000, .inl (fun _ => 0))), (q75, .inl (G.2.1 0, 12000, .inl (fun _ => 0))), (q83, .inl (G.2.1 0, 12000, .inl (fun _ => 0))), (q89, .inl (G.2.1 0, 12000, .inl (fun _ => 0))), (q95, .inl (G.2.1 0, 12000, .inl (fun _ => 0))), (q101, .inl (G.2.1 0, 12000, .inl (fun _ => 0))), (q107, .inl (G.2.1 0, 12000, .inl (fun _ => 0))), (q113, .inl (G.2.1 0, 12000, .inl (fun _ => 0))), (q121, .inl (G.2.1 0, 5000, .inl (fun _ => 0))), (q127, .inl (G.2.1 3, 5000, .inl (fun _ => 0))), (q133, .inl (G.2.1 0, 5000, .inl (fun _ => 0))), (q139, .inl (G.2.1 0, 5000, .inl (fun _ => 0))), (q145, .inl (G.2.1 0, 5000, .inl (fun _ => 0))), (q151, .inl (G.2.1 0, 40, .inl (fun _ => 0))), (q159, .inl (G.2.1 0, 40, .inl (fun _ => 0))), (q165, .inl (G.2.1 3, 40, .inl (fun _ => 0))), (q171, .inl (G.2.1 0, 40, .inl (fun _ => 0))), (q177, .inl (G.2.1 0, 40, .inl (fun _ => 0))), (q183, .inl (G.2.1 0, 40, .inl (fun _ => 0))), (q189, .inl (G.2.1 0, 40, .inl (fun _ => 0))), (q197, .inl (G.2.1 3, 1600, .inl (fun _ => 0))), (q203, .inl (G.2.1 0, 620, .inl (fun _ => 0))), (q209, .inl (G.2.1 0, 620, .inl (fun _ => 0))), (q215, .inl (G.2.1 0, 620, .inl (fun _ => 0))), (q221, .inl (G.2.1 0, 620, .inl (fun _ => 0))), (q227, .inl (G.2.1 0, 920, .inl (fun _ => 0))), (q235, .inl (G.2.1 0, 920, .inl (fun _ => 0))), (q241, .inl (G.2.1 0, 920, .inl (fun _ => 0))), (q247, .inl (G.2.1 0, 920, .inl (fun _ => 0))), (q253, .inl (G.2.1 0, 920, .inl (fun _ => 0))), (q259, .inl (G.2.1 0, 920, .inl (fun _ => 0))), (q265, .inl (G.2.1 0, 920, .inl (fun _ => 0))), (q273, .inl (G.2.1 0, 920, .inl (fun _ => 0))), (q279, .inl (G.2.1 0, 920, .inl (fun _ => 0))), (q285, .inl (G.2.1 0, 5000, .inl (fun _ => 0))), (q291, .inl (G.2.1 0, 5000, .inl (fun _ => 0))), (q297, .inl (G.2.1 0, 5000, .inl (fun _ => 0))), (q303, .inl (G.2.1 0, 40, .inl (fun _ => 0))), (q311, .inl (G.2.1 0, 40, .inl (fun _ => 0))), (q317, .inl (G.2.1 0, 200, .inl (fun _ => 0))), (q323, .inl (G.2.1 0, 400, .inl (fun _ => 0))), (q329, .inl (G.2.1 0, 12000, .inl (fun _ => 0))), (q335, .inl (G.2.1 0, 620, .inl (fun _ => 0)))] := by rw [ew337, ew331, ew325, ew319, ew313, ew307, en305]; rfl
  obtain ⟨wa344, ew345⟩ : ∃ z : va_W, z = wa336 ++ [(q341, .inl (G.2.1 0, 204000, .inl (fun _ => 0)))] := ⟨_, rfl⟩
  have hP : va_P G.1 pCl ((h0, .inr (9, fs338)) :: wa344) H := by rw [ew345]; exact hP
  have hD : va_D A ((h0, .inr (9, fs338)) :: wa344) := by rw [ew345]; exact hD
  refine W.widen (k := 55) (n := 435244) (Nat.le_of_ble_eq_true rfl) (Nat.le_of_ble_eq_true rfl) ?_
  refine va_putF (D := G.1) (ci := 9) (v := .ref q341) (ty := (.array .int)) (C := RX12) (T := TX12) (N := 134) hx hb hq pin_wsX120 tyX12 tyX12_ok nmX12 hown hE.1.1 hP hD hS 0 rfl rfl 90 (by decide) (by rw [tFX12_90]; exact hq _ pw_1486) (fun _ h9 => h9) (by rw [tFX12_90]) hin (by rw [tFX12_90]; rfl) (by rw [tFX12_90]; decide +kernel) rfl rfl (by rw [hn340]; decide) dX12_init_486 (fun H locs hP hD hS => ?_)
  obtain ⟨fs346, e347⟩ : ∃ z : List Value, z = fs338.set 90 (.ref q341) := ⟨_, rfl⟩
  have hn348 : fs346.length = 134 := by rw [e347, List.length_set]; exact hn340
  have hP : va_P G.1 pCl ((h0, .inr (9, fs346)) :: wa344) H := by rw [e347]; exact hP
  have hD : va_D A ((h0, .inr (9, fs346)) :: wa344) := by rw [e347]; exact hD
  refine lv_aload_n hx hb dX12_init_489 rfl (lv_at hl 0 rfl) ?_
  refine lv_sipush (v := 3000) hx hb dX12_init_490 (by decide) ?_
  refine pn_newa (G := G) (atype := .int) (a0 := (3000, .inl (fun _ => 0))) (N' := 3000) hx hb (hq _ pw_6) rfl hE.1.2.1 hP hD hS hA (fun _ => rfl) (by decide) (by decide) (by decide) (Nat.le_of_ble_eq_true rfl) (Nat.le_of_ble_eq_true rfl) dX12_init_493 (fun q349 H hP hD hS => ?_)
  obtain ⟨wa350, ew351⟩ : ∃ z : va_W, z = wa344 ++ [(q349, .inl (G.2.1 0, 3000, .inl (fun _ => 0)))] := ⟨_, rfl⟩
  have hP : va_P G.1 pCl ((h0, .inr (9, fs346)) :: wa350) H := by rw [ew351]; exact hP
  have hD : va_D A ((h0, .inr (9, fs346)) :: wa350) := by rw [ew351]; exact hD
  refine W.widen (k := 56) (n := 438244) (Nat.le_of_ble_eq_true rfl) (Nat.le_of_ble_eq_true rfl) ?_
  refine va_putF (D := G.1) (ci := 9) (v := .ref q349) (ty := (.array .int)) (C := RX12) (T := TX12) (N := 134) hx hb hq pin_wsX120 tyX12 tyX12_ok nmX12 hown hE.1.1 hP hD hS 0 rfl rfl 91 (by decide) (by rw [tFX12_91]; exact hq _ pw_1487) (fun _ h9 => h9) (by rw [tFX12_91]) hin (by rw [tFX12_91]; rfl) (by rw [tFX12_91]; decide +kernel) rfl rfl (by rw [hn348]; decide) dX12_init_495 (fun H locs hP hD hS => ?_)
  obtain ⟨fs352, e353⟩ : ∃ z : List Value, z = fs346.set 91 (.ref q349) := ⟨_, rfl⟩
  have hn354 : fs352.length = 134 := by rw [e353, List.length_set]; exact hn348
  have hP : va_P G.1 pCl ((h0, .inr (9, fs352)) :: wa350) H := by rw [e353]; exact hP
  have hD : va_D A ((h0, .inr (9, fs352)) :: wa350) := by rw [e353]; exact hD
  refine lv_aload_n hx hb dX12_init_498 rfl (lv_at hl 0 rfl) ?_
  refine lv_sipush (v := 3000) hx hb dX12_init_499 (by decide) ?_
  refine pn_newa (G := G) (atype := .int) (a0 := (3000, .inl (fun _ => 0))) (N' := 3000) hx hb (hq _ pw_6) rfl hE.1.2.1 hP hD hS hA (fun _ => rfl) (by decide) (by decide) (by decide) (Nat.le_of_ble_eq_true rfl) (Nat.le_of_ble_eq_true rfl) dX12_init_502 (fun q355 H hP hD hS => ?_)
  obtain ⟨wa356, ew357⟩ : ∃ z : va_W, z = wa350 ++ [(q355, .inl (G.2.1 0, 3000, .inl (fun _ => 0)))] := ⟨_, rfl⟩
  have hP : va_P G.1 pCl ((h0, .inr (9, fs352)) :: wa356) H := by rw [ew357]; exact hP
  have hD : va_D A ((h0, .inr (9, fs352)) :: wa356) := by rw [ew357]; exact hD
  refine W.widen (k := 57) (n := 441244) (Nat.le_of_ble_eq_true rfl) (Nat.le_of_ble_eq_true rfl) ?_
  refine va_putF (D := G.1) (ci := 9) (v := .ref q355) (ty := (.array .int)) (C := RX12) (T := TX12) (N := 134) hx hb hq pin_wsX120 tyX12 tyX12_ok nmX12 hown hE.1.1 hP hD hS 0 rfl rfl 92 (by decide) (by rw [tFX12_92]; exact hq _ pw_1488) (fun _ h9 => h9) (by rw [tFX12_92]) hin (by rw [tFX12_92]; rfl) (by rw [tFX12_92]; decide +kernel) rfl rfl (by rw [hn354]; decide) dX12_init_504 (fun H locs hP hD hS => ?_)
  obtain ⟨fs358, e359⟩ : ∃ z : List Value, z = fs352.set 92 (.ref q355) := ⟨_, rfl⟩
  have hn360 : fs358.length = 134 := by rw [e359, List.length_set]; exact hn354
  have hP : va_P G.1 pCl ((h0, .inr (9, fs358)) :: wa356) H := by rw [e359]; exact hP
  have hD : va_D A ((h0, .inr (9, fs358)) :: wa356) := by rw [e359]; exact hD
  refine lv_aload_n hx hb dX12_init_507 rfl (lv_at hl 0 rfl) ?_
  refine lv_sipush (v := 3000) hx hb dX12_init_508 (by decide) ?_
  refine pn_newa (G := G) (atype := .int) (a0 := (3000, .inl (fun _ => 0))) (N' := 3000) hx hb (hq _ pw_6) rfl hE.1.2.1 hP hD hS hA (fun _ => rfl) (by decide) (by decide) (by decide) (Nat.le_of_ble_eq_true rfl) (Nat.le_of_ble_eq_true rfl) dX12_init_511 (fun q361 H hP hD hS => ?_)
  obtain ⟨wa362, ew363⟩ : ∃ z : va_W, z = wa356 ++ [(q361, .inl (G.2.1 0, 3000, .inl (fun _ => 0)))] := ⟨_, rfl⟩
  have hP : va_P G.1 pCl ((h0, .inr (9, fs358)) :: wa362) H := by rw [ew363]; exact hP
  have hD : va_D A ((h0, .inr (9, fs358)) :: wa362) := by rw [ew363]; exact hD
  refine W.widen (k := 58) (n := 444244) (Nat.le_of_ble_eq_true rfl) (Nat.le_of_ble_eq_true rfl) ?_
  refine va_putF (D := G.1) (ci := 9) (v := .ref q361) (ty := (.array .int)) (C := RX12) (T := TX12) (N := 134) hx hb hq pin_wsX120 tyX12 tyX12_ok nmX12 hown hE.1.1 hP hD hS 0 rfl rfl 93 (by decide) (by rw [tFX12_93]; exact hq _ pw_1489) (fun _ h9 => h9) (by rw [tFX12_93]) hin (by rw [tFX12_93]; rfl) (by rw [tFX12_93]; decide +kernel) rfl rfl (by rw [hn360]; decide) dX12_init_513 (fun H locs hP hD hS => ?_)
  obtain ⟨fs364, e365⟩ : ∃ z : List Value, z = fs358.set 93 (.ref q361) := ⟨_, rfl⟩
  have hn366 : fs364.length = 134 := by rw [e365, List.length_set]; exact hn360
  have hP : va_P G.1 pCl ((h0, .inr (9, fs364)) :: wa362) H := by rw [e365]; exact hP
  have hD : va_D A ((h0, .inr (9, fs364)) :: wa362) := by rw [e365]; exact hD
  refine lv_aload_n hx hb dX12_init_516 rfl (lv_at hl 0 rfl) ?_
  refine lv_sipush (v := 3000) hx hb dX12_init_517 (by decide) ?_
  refine pn_newa (G := G) (atype := .int) (a0 := (3000, .inl (fun _ => 0))) (N' := 3000) hx hb (hq _ pw_6) rfl hE.1.2.1 hP hD hS hA (fun _ => rfl) (by decide) (by decide) (by decide) (Nat.le_of_ble_eq_true rfl) (Nat.le_of_ble_eq_true rfl) dX12_init_520 (fun q367 H hP hD hS => ?_)
  obtain ⟨wa368, ew369⟩ : ∃ z : va_W, z = wa362 ++ [(q367, .inl (G.2.1 0, 3000, .inl (fun _ => 0)))] := ⟨_, rfl⟩
  have hP : va_P G.1 pCl ((h0, .inr (9, fs364)) :: wa368) H := by rw [ew369]; exact hP
  have hD : va_D A ((h0, .inr (9, fs364)) :: wa368) := by rw [ew369]; exact hD
  refine W.widen (k := 59) (n := 447244) (Nat.le_of_ble_eq_true rfl) (Nat.le_of_ble_eq_true rfl) ?_
  refine va_putF (D := G.1) (ci := 9) (v := .ref q367) (ty := (.array .int)) (C := RX12) (T := TX12) (N := 134) hx hb hq pin_wsX120 tyX12 tyX12_ok nmX12 hown hE.1.1 hP hD hS 0 rfl rfl 94 (by decide) (by rw [tFX12_94]; exact hq _ pw_1490) (fun _ h9 => h9) (by rw [tFX12_94]) hin (by rw [tFX12_94]; rfl) (by rw [tFX12_94]; decide +kernel) rfl rfl (by rw [hn366]; decide) dX12_init_522 (fun H locs hP hD hS => ?_)
  obtain ⟨fs370, e371⟩ : ∃ z : List Value, z = fs364.set 94 (.ref q367) := ⟨_, rfl⟩
  have hn372 : fs370.length = 134 := by rw [e371, List.length_set]; exact hn366
  have hP : va_P G.1 pCl ((h0, .inr (9, fs370)) :: wa368) H := by rw [e371]; exact hP
  have hD : va_D A ((h0, .inr (9, fs370)) :: wa368) := by rw [e371]; exact hD
  refine lv_aload_n hx hb dX12_init_525 rfl (lv_at hl 0 rfl) ?_
  refine lv_sipush (v := 3000) hx hb dX12_init_526 (by decide) ?_
  refine pn_newa (G := G) (atype := .boolean) (a0 := (3000, .inl (fun _ => 0))) (N' := 3000) hx hb (hq _ pw_1450) rfl hE.1.2.2.2.2.1 hP hD hS hA (fun _ => rfl) (by decide) (by decide) (by decide) (Nat.le_of_ble_eq_true rfl) (Nat.le_of_ble_eq_true rfl) dX12_init_529 (fun q373 H hP hD hS => ?_)
  obtain ⟨wa374, ew375⟩ : ∃ z : va_W, z = wa368 ++ [(q373, .inl (G.2.1 3, 3000, .inl (fun _ => 0)))] := ⟨_, rfl⟩
  have hP : va_P G.1 pCl ((h0, .inr (9, fs370)) :: wa374) H := by rw [ew375]; exact hP
  have hD : va_D A ((h0, .inr (9, fs370)) :: wa374) := by rw [ew375]; exact hD
  refine W.widen (k := 60) (n := 450244) (Nat.le_of_ble_eq_true rfl) (Nat.le_of_ble_eq_true rfl) ?_
  refine va_putF (D := G.1) (ci := 9) (v := .ref q373) (ty := (.array .boolean)) (C := RX12) (T := TX12) (N := 134) hx hb hq pin_wsX120 tyX12 tyX12_ok nmX12 hown hE.1.1 hP hD hS 0 rfl rfl 95 (by decide) (by rw [tFX12_95]; exact hq _ pw_1491) (fun _ h9 => h9) (by rw [tFX12_95]) hin (by rw [tFX12_95]; rfl) (by rw [tFX12_95]; decide +kernel) rfl rfl (by rw [hn372]; decide) dX12_init_531 (fun H locs hP hD hS => ?_)
  obtain ⟨fs376, e377⟩ : ∃ z : List Value, z = fs370.set 95 (.ref q373) := ⟨_, rfl⟩
  have hn378 : fs376.length = 134 := by rw [e377, List.length_set]; exact hn372
  have hP : va_P G.1 pCl ((h0, .inr (9, fs376)) :: wa374) H := by rw [e377]; exact hP
  have hD : va_D A ((h0, .inr (9, fs376)) :: wa374) := by rw [e377]; exact hD
  refine lv_aload_n hx hb dX12_init_534 rfl (lv_at hl 0 rfl) ?_
  refine lv_sipush (v := 3100) hx hb dX12_init_535 (by decide) ?_
  refine pn_newa (G := G) (atype := .int) (a0 := (3100, .inl (fun _ => 0))) (N' := 3100) hx hb (hq _ pw_6) rfl hE.1.2.1 hP hD hS hA (fun _ => rfl) (by decide) (by decide) (by decide) (Nat.le_of_ble_eq_true rfl) (Nat.le_of_ble_eq_true rfl) dX12_init_538 (fun q379 H hP hD hS => ?_)
  have en380 : fs376 = [.int 0, .ref q1, .int 0, .ref q7, .int 0, .ref q13, .ref q19, .ref q25, .ref q31, .int 0, .ref q37, .ref q45, .ref q51, .int 0, .int 0, .int 0, .int 0, .ref q57, .ref q63, .ref q69, .ref q75, .ref q83, .ref q89, .ref q95, .ref q101, .ref q107, .ref q113, .int 0, .ref q121, .ref q127, .ref q133, .int 0, .ref q139, .ref q145, .int 0, .int 0, .ref q151, .ref q159, .ref q165, .ref q171, .ref q177, .ref q183, .ref q189, .ref q197, .int 0, .ref q203, .ref q209, .ref q215, .ref q221, .int 0, .ref q227, .ref q235, .ref q241, .ref q247, .ref q253, .ref q259, .ref q265, .ref q273, .ref q279, .int 0, .int 0, .ref q285, .ref q291, .ref q297, .int 0, .int 0, .int 0, .int 0, .int 0, .int 0, .int 0, .ref q303, .ref q311, .int 0, .int 0, .int 0, .int 0, .int 0, .int 0, .int 0, .int 0, .int 0, .int 0, .int 0, .ref q317, .int 0, .ref q323, .int 0, .ref q329, .ref q335, .ref q341, .ref q349, .ref q355, .ref q361, .ref q367, .ref q373, .null, .int 0, .int 0, .int 0, .null, .int 0, .int 0, .null, .null, .null, .null, .null, .null, .null, .null, .int 0, .null, .null, .null, .int 0, .int 0, .int 0, .int 0, .int 0, .int 0, .int 0, .int 0, .int 0, .int 0, .int 0, .int 0, .null, .int 0, .null, .int 0, .null, .null, .null] := by rw [e377, e371, e365, e359, e353, e347, en342]; rfl
  have en381 : wa374 = [(q1, .inl (G.2.1 0, 5000, .inl (fun _ => 0))), (q7, .inl (G.2.1 0, 5000, .inl (fun _ => 0))), (q13, .inl (G.2.1 0, 5001, .inl (fun _ => 0))), (q19, .inl (G.2.1 0, 5001, .inl (fun _ => 0))), (q25, .inl (G.2.1 0, 5001, .inl (fun _ => 0))), (q31, .inl (G.2.1 0, 5001, .inl (fun _ => 0))), (q37, .inl (G.2.1 0, 5100, .inl (fun _ => 0))), (q45, .inl (G.2.1 0, 5100, .inl (fun _ => 0))), (q51, .inl (G.2.1 1, 5100, .inl (fun _ => 0))), (q57, .inl (G.2.1 0, 12000, .inl (fun _ => 0))), (q63, .inl (G.2.1 0, 12000, .inl (fun _ => 0))), (q69, .inl (G.2.1 0, 12000, .inl (fun _ => 0))), (q75, .inl (G.2.1 0, 12000, .inl (fun _ => 0))), (q83, .inl (G.2.1 0, 12000, .inl (fun _ => 0))), (q89, .inl (G.2.1 0, 12000, .inl (fun _ => 0))), (q95, .inl (G.2.1 0, 12000, .inl (fun _ => 0))), (q101, .inl (G.2.1 0, 12000, .inl (fun _ => 0))), (q107, .inl (G.2.1 0, 12000, .inl (fun _ => 0))), (q113, .inl (G.2.1 0, 12000, .inl (fun _ => 0))), (q121, .inl (G.2.1 0, 5000, .inl (fun _ => 0))), (q127, .inl (G.2.1 3, 5000, .inl (fun _ => 0))), (q133, .inl (G.2.1 0, 5000, .inl (fun _ => 0))), (q139, .inl (G.2.1 0, 5000, .inl (fun _ => 0))), (q145, .inl (G.2.1 0, 5000, .inl (fun _ => 0))), (q151, .inl (G.2.1 0, 40, .inl (fun _ => 0))), (q159, .inl (G.2.1 0, 40, .inl (fun _ => 0))), (q165, .inl (G.2.1 3, 40, .inl (fun _ => 0))), (q171, .inl (G.2.1 0, 40, .inl (fun _ => 0))), (q177, .inl (G.2.1 0, 40, .inl (fun _ => 0))), (q183, .inl (G.2.1 0, 40, .inl (fun _ => 0))), (q189, .inl (G.2.1 0, 40, .inl (fun _ => 0))), (q197, .inl (G.2.1 3, 1600, .inl (fun _ => 0))), (q203, .inl (G.2.1 0, 620, .inl (fun _ => 0))), (q209, .inl (G.2.1 0, 620, .inl (fun _ => 0))), (q215, .inl (G.2.1 0, 620, .inl (fun _ => 0))), (q221, .inl (G.2.1 0, 620, .inl (fun _ => 0))), (q227, .inl (G.2.1 0, 920, .inl (fun _ => 0))), (q235, .inl (G.2.1 0, 920, .inl (fun _ => 0))), (q241, .inl (G.2.1 0, 920, .inl (fun _ => 0))), (q247, .inl (G.2.1 0, 920, .inl (fun _ => 0))), (q253, .inl (G.2.1 0, 920, .inl (fun _ => 0))), (q259, .inl (G.2.1 0, 920, .inl (fun _ => 0))), (q265, .inl (G.2.1 0, 920, .inl (fun _ => 0))), (q273, .inl (G.2.1 0, 920, .inl (fun _ => 0))), (q279, .inl (G.2.1 0, 920, .inl (fun _ => 0))), (q285, .inl (G.2.1 0, 5000, .inl (fun _ => 0))), (q291, .inl (G.2.1 0, 5000, .inl (fun _ => 0))), (q297, .inl (G.2.1 0, 5000, .inl (fun _ => 0))), (q303, .inl (G.2.1 0, 40, .inl (fun _ => 0))), (q311, .inl (G.2.1 0, 40, .inl (fun _ => 0))), (q317, .inl (G.2.1 0, 200, .inl (fun _ => 0))), (q323, .inl (G.2.1 0, 400, .inl (fun _ => 0))), (q329, .inl (G.2.1 0, 12000, .inl (fun _ => 0))), (q335, .inl (G.2.1 0, 620, .inl (fun _ => 0))), (q341, .inl (G.2.1 0, 204000, .inl (fun _ => 0))), (q349, .inl (G.2.1 0, 3000, .inl (fun _ => 0))), (q355, .inl (G.2.1 0, 3000, .inl (fun _ => 0))), (q361, .inl (G.2.1 0, 3000, .inl (fun _ => 0))), (q367, .inl (G.2.1 0, 3000, .inl (fun _ => 0))), (q373, .inl (G.2.1 3, 3000, .inl (fun _ => 0)))] := by rw [ew375, ew369, ew363, ew357, ew351, ew345, en343]; rfl
  obtain ⟨wa382, ew383⟩ : ∃ z : va_W, z = wa374 ++ [(q379, .inl (G.2.1 0, 3100, .inl (fun _ => 0)))] := ⟨_, rfl⟩
  have hP : va_P G.1 pCl ((h0, .inr (9, fs376)) :: wa382) H := by rw [ew383]; exact hP
  have hD : va_D A ((h0, .inr (9, fs376)) :: wa382) := by rw [ew383]; exact hD
  refine W.widen (k := 61) (n := 453344) (Nat.le_of_ble_eq_true rfl) (Nat.le_of_ble_eq_true rfl) ?_
  refine va_putF (D := G.1) (ci := 9) (v := .ref q379) (ty := (.array .int)) (C := RX12) (T := TX12) (N := 134) hx hb hq pin_wsX120 tyX12 tyX12_ok nmX12 hown hE.1.1 hP hD hS 0 rfl rfl 96 (by decide) (by rw [tFX12_96]; exact hq _ pw_1492) (fun _ h9 => h9) (by rw [tFX12_96]) hin (by rw [tFX12_96]; rfl) (by rw [tFX12_96]; decide +kernel) rfl rfl (by rw [hn378]; decide) dX12_init_540 (fun H locs hP hD hS => ?_)
  obtain ⟨fs384, e385⟩ : ∃ z : List Value, z = fs376.set 96 (.ref q379) := ⟨_, rfl⟩
  have hn386 : fs384.length = 134 := by rw [e385, List.length_set]; exact hn378
  have hP : va_P G.1 pCl ((h0, .inr (9, fs384)) :: wa382) H := by rw [e385]; exact hP
  have hD : va_D A ((h0, .inr (9, fs384)) :: wa382) := by rw [e385]; exact hD
  refine lv_aload_n hx hb dX12_init_543 rfl (lv_at hl 0 rfl) ?_
  refine lv_sipush (v := 3000) hx hb dX12_init_544 (by decide) ?_
  refine pn_newa (G := G) (atype := .int) (a0 := (3000, .inl (fun _ => 0))) (N' := 3000) hx hb (hq _ pw_6) rfl hE.1.2.1 hP hD hS hA (fun _ => rfl) (by decide) (by decide) (by decide) (Nat.le_of_ble_eq_true rfl) (Nat.le_of_ble_eq_true rfl) dX12_init_547 (fun q387 H hP hD hS => ?_)
  obtain ⟨wa388, ew389⟩ : ∃ z : va_W, z = wa382 ++ [(q387, .inl (G.2.1 0, 3000, .inl (fun _ => 0)))] := ⟨_, rfl⟩
  have hP : va_P G.1 pCl ((h0, .inr (9, fs384)) :: wa388) H := by rw [ew389]; exact hP
  have hD : va_D A ((h0, .inr (9, fs384)) :: wa388) := by rw [ew389]; exact hD
  refine W.widen (k := 62) (n := 456344) (Nat.le_of_ble_eq_true rfl) (Nat.le_of_ble_eq_true rfl) ?_
  refine va_putF (D := G.1) (ci := 9) (v := .ref q387) (ty := (.array .int)) (C := RX12) (T := TX12) (N := 134) hx hb hq pin_wsX120 tyX12 tyX12_ok nmX12 hown hE.1.1 hP hD hS 0 rfl rfl 100 (by decide) (by rw [tFX12_100]; exact hq _ pw_1493) (fun _ h9 => h9) (by rw [tFX12_100]) hin (by rw [tFX12_100]; rfl) (by rw [tFX12_100]; decide +kernel) rfl rfl (by rw [hn386]; decide) dX12_init_549 (fun H locs hP hD hS => ?_)
  obtain ⟨fs390, e391⟩ : ∃ z : List Value, z = fs384.set 100 (.ref q387) := ⟨_, rfl⟩
  have hn392 : fs390.length = 134 := by rw [e391, List.length_set]; exact hn386
  have hP : va_P G.1 pCl ((h0, .inr (9, fs390)) :: wa388) H := by rw [e391]; exact hP
  have hD : va_D A ((h0, .inr (9, fs390)) :: wa388) := by rw [e391]; exact hD
  refine lv_aload_n hx hb dX12_init_552 rfl (lv_at hl 0 rfl) ?_
  refine lv_bipush (v := 100) hx hb dX12_init_553 (by decide) ?_
  refine pn_newa (G := G) (atype := .int) (a0 := (100, .inl (fun _ => 0))) (N' := 100) hx hb (hq _ pw_6) rfl hE.1.2.1 hP hD hS hA (fun _ => rfl) (by decide) (by decide) (by decide) (Nat.le_of_ble_eq_true rfl) (Nat.le_of_ble_eq_true rfl) dX12_init_555 (fun q393 H hP hD hS => ?_)
  obtain ⟨wa394, ew395⟩ : ∃ z : va_W, z = wa388 ++ [(q393, .inl (G.2.1 0, 100, .inl (fun _ => 0)))] := ⟨_, rfl⟩
  have hP : va_P G.1 pCl ((h0, .inr (9, fs390)) :: wa394) H := by rw [ew395]; exact hP
  have hD : va_D A ((h0, .inr (9, fs390)) :: wa394) := by rw [ew395]; exact hD
  refine W.widen (k := 63) (n := 456444) (Nat.le_of_ble_eq_true rfl) (Nat.le_of_ble_eq_true rfl) ?_
  refine va_putF (D := G.1) (ci := 9) (v := .ref q393) (ty := (.array .int)) (C := RX12) (T := TX12) (N := 134) hx hb hq pin_wsX120 tyX12 tyX12_ok nmX12 hown hE.1.1 hP hD hS 0 rfl rfl 103 (by decide) (by rw [tFX12_103]; exact hq _ pw_1494) (fun _ h9 => h9) (by rw [tFX12_103]) hin (by rw [tFX12_103]; rfl) (by rw [tFX12_103]; decide +kernel) rfl rfl (by rw [hn392]; decide) dX12_init_557 (fun H locs hP hD hS => ?_)
  obtain ⟨fs396, e397⟩ : ∃ z : List Value, z = fs390.set 103 (.ref q393) := ⟨_, rfl⟩
  have hn398 : fs396.length = 134 := by rw [e397, List.length_set]; exact hn392
  have hP : va_P G.1 pCl ((h0, .inr (9, fs396)) :: wa394) H := by rw [e397]; exact hP
  have hD : va_D A ((h0, .inr (9, fs396)) :: wa394) := by rw [e397]; exact hD
  refine lv_aload_n hx hb dX12_init_560 rfl (lv_at hl 0 rfl) ?_
  refine lv_bipush (v := 100) hx hb dX12_init_561 (by decide) ?_
  refine pn_newa (G := G) (atype := .int) (a0 := (100, .inl (fun _ => 0))) (N' := 100) hx hb (hq _ pw_6) rfl hE.1.2.1 hP hD hS hA (fun _ => rfl) (by decide) (by decide) (by decide) (Nat.le_of_ble_eq_true rfl) (Nat.le_of_ble_eq_true rfl) dX12_init_563 (fun q399 H hP hD hS => ?_)
  obtain ⟨wa400, ew401⟩ : ∃ z : va_W, z = wa394 ++ [(q399, .inl (G.2.1 0, 100, .inl (fun _ => 0)))] := ⟨_, rfl⟩
  have hP : va_P G.1 pCl ((h0, .inr (9, fs396)) :: wa400) H := by rw [ew401]; exact hP
  have hD : va_D A ((h0, .inr (9, fs396)) :: wa400) := by rw [ew401]; exact hD
  refine W.widen (k := 64) (n := 456544) (Nat.le_of_ble_eq_true rfl) (Nat.le_of_ble_eq_true rfl) ?_
  refine va_putF (D := G.1) (ci := 9) (v := .ref q399) (ty := (.array .int)) (C := RX12) (T := TX12) (N := 134) hx hb hq pin_wsX120 tyX12 tyX12_ok nmX12 hown hE.1.1 hP hD hS 0 rfl rfl 104 (by decide) (by rw [tFX12_104]; exact hq _ pw_1495) (fun _ h9 => h9) (by rw [tFX12_104]) hin (by rw [tFX12_104]; rfl) (by rw [tFX12_104]; decide +kernel) rfl rfl (by rw [hn398]; decide) dX12_init_565 (fun H locs hP hD hS => ?_)
  obtain ⟨fs402, e403⟩ : ∃ z : List Value, z = fs396.set 104 (.ref q399) := ⟨_, rfl⟩
  have hn404 : fs402.length = 134 := by rw [e403, List.length_set]; exact hn398
  have hP : va_P G.1 pCl ((h0, .inr (9, fs402)) :: wa400) H := by rw [e403]; exact hP
  have hD : va_D A ((h0, .inr (9, fs402)) :: wa400) := by rw [e403]; exact hD
  refine lv_aload_n hx hb dX12_init_568 rfl (lv_at hl 0 rfl) ?_
  refine lv_bipush (v := 100) hx hb dX12_init_569 (by decide) ?_
  refine pn_newa (G := G) (atype := .int) (a0 := (100, .inl (fun _ => 0))) (N' := 100) hx hb (hq _ pw_6) rfl hE.1.2.1 hP hD hS hA (fun _ => rfl) (by decide) (by decide) (by decide) (Nat.le_of_ble_eq_true rfl) (Nat.le_of_ble_eq_true rfl) dX12_init_571 (fun q405 H hP hD hS => ?_)
  obtain ⟨wa406, ew407⟩ : ∃ z : va_W, z = wa400 ++ [(q405, .inl (G.2.1 0, 100, .inl (fun _ => 0)))] := ⟨_, rfl⟩
  have hP : va_P G.1 pCl ((h0, .inr (9, fs402)) :: wa406) H := by rw [ew407]; exact hP
  have hD : va_D A ((h0, .inr (9, fs402)) :: wa406) := by rw [ew407]; exact hD
  refine W.widen (k := 65) (n := 456644) (Nat.le_of_ble_eq_true rfl) (Nat.le_of_ble_eq_true rfl) ?_
  refine va_putF (D := G.1) (ci := 9) (v := .ref q405) (ty := (.array .int)) (C := RX12) (T := TX12) (N := 134) hx hb hq pin_wsX120 tyX12 tyX12_ok nmX12 hown hE.1.1 hP hD hS 0 rfl rfl 105 (by decide) (by rw [tFX12_105]; exact hq _ pw_1496) (fun _ h9 => h9) (by rw [tFX12_105]) hin (by rw [tFX12_105]; rfl) (by rw [tFX12_105]; decide +kernel) rfl rfl (by rw [hn404]; decide) dX12_init_573 (fun H locs hP hD hS => ?_)
  obtain ⟨fs408, e409⟩ : ∃ z : List Value, z = fs402.set 105 (.ref q405) := ⟨_, rfl⟩
  have hn410 : fs408.length = 134 := by rw [e409, List.length_set]; exact hn404
  have hP : va_P G.1 pCl ((h0, .inr (9, fs408)) :: wa406) H := by rw [e409]; exact hP
  have hD : va_D A ((h0, .inr (9, fs408)) :: wa406) := by rw [e409]; exact hD
  refine lv_aload_n hx hb dX12_init_576 rfl (lv_at hl 0 rfl) ?_
  refine lv_bipush (v := 100) hx hb dX12_init_577 (by decide) ?_
  refine pn_newa (G := G) (atype := .int) (a0 := (100, .inl (fun _ => 0))) (N' := 100) hx hb (hq _ pw_6) rfl hE.1.2.1 hP hD hS hA (fun _ => rfl) (by decide) (by decide) (by decide) (Nat.le_of_ble_eq_true rfl) (Nat.le_of_ble_eq_true rfl) dX12_init_579 (fun q411 H hP hD hS => ?_)
  obtain ⟨wa412, ew413⟩ : ∃ z : va_W, z = wa406 ++ [(q411, .inl (G.2.1 0, 100, .inl (fun _ => 0)))] := ⟨_, rfl⟩
  have hP : va_P G.1 pCl ((h0, .inr (9, fs408)) :: wa412) H := by rw [ew413]; exact hP
  have hD : va_D A ((h0, .inr (9, fs408)) :: wa412) := by rw [ew413]; exact hD
  refine W.widen (k := 66) (n := 456744) (Nat.le_of_ble_eq_true rfl) (Nat.le_of_ble_eq_true rfl) ?_
  refine va_putF (D := G.1) (ci := 9) (v := .ref q411) (ty := (.array .int)) (C := RX12) (T := TX12) (N := 134) hx hb hq pin_wsX120 tyX12 tyX12_ok nmX12 hown hE.1.1 hP hD hS 0 rfl rfl 106 (by decide) (by rw [tFX12_106]; exact hq _ pw_1497) (fun _ h9 => h9) (by rw [tFX12_106]) hin (by rw [tFX12_106]; rfl) (by rw [tFX12_106]; decide +kernel) rfl rfl (by rw [hn410]; decide) dX12_init_581 (fun H locs hP hD hS => ?_)
  obtain ⟨fs414, e415⟩ : ∃ z : List Value, z = fs408.set 106 (.ref q411) := ⟨_, rfl⟩
  have hn416 : fs414.length = 134 := by rw [e415, List.length_set]; exact hn410
  have hP : va_P G.1 pCl ((h0, .inr (9, fs414)) :: wa412) H := by rw [e415]; exact hP
  have hD : va_D A ((h0, .inr (9, fs414)) :: wa412) := by rw [e415]; exact hD
  refine lv_aload_n hx hb dX12_init_584 rfl (lv_at hl 0 rfl) ?_
  refine lv_sipush (v := 3200) hx hb dX12_init_585 (by decide) ?_
  refine pn_newa (G := G) (atype := .int) (a0 := (3200, .inl (fun _ => 0))) (N' := 3200) hx hb (hq _ pw_6) rfl hE.1.2.1 hP hD hS hA (fun _ => rfl) (by decide) (by decide) (by decide) (Nat.le_of_ble_eq_true rfl) (Nat.le_of_ble_eq_true rfl) dX12_init_588 (fun q417 H hP hD hS => ?_)
  have en418 : fs414 = [.int 0, .ref q1, .int 0, .ref q7, .int 0, .ref q13, .ref q19, .ref q25, .ref q31, .int 0, .ref q37, .ref q45, .ref q51, .int 0, .int 0, .int 0, .int 0, .ref q57, .ref q63, .ref q69, .ref q75, .ref q83, .ref q89, .ref q95, .ref q101, .ref q107, .ref q113, .int 0, .ref q121, .ref q127, .ref q133, .int 0, .ref q139, .ref q145, .int 0, .int 0, .ref q151, .ref q159, .ref q165, .ref q171, .ref q177, .ref q183, .ref q189, .ref q197, .int 0, .ref q203, .ref q209, .ref q215, .ref q221, .int 0, .ref q227, .ref q235, .ref q241, .ref q247, .ref q253, .ref q259, .ref q265, .ref q273, .ref q279, .int 0, .int 0, .ref q285, .ref q291, .ref q297, .int 0, .int 0, .int 0, .int 0, .int 0, .int 0, .int 0, .ref q303, .ref q311, .int 0, .int 0, .int 0, .int 0, .int 0, .int 0, .int 0, .int 0, .int 0, .int 0, .int 0, .ref q317, .int 0, .ref q323, .int 0, .ref q329, .ref q335, .ref q341, .ref q349, .ref q355, .ref q361, .ref q367, .ref q373, .ref q379, .int 0, .int 0, .int 0, .ref q387, .int 0, .int 0, .ref q393, .ref q399, .ref q405, .ref q411, .null, .null, .null, .null, .int 0, .null, .null, .null, .int 0, .int 0, .int 0, .int 0, .int 0, .int 0, .int 0, .int 0, .int 0, .int 0, .int 0, .int 0, .null, .int 0, .null, .int 0, .null, .null, .null] := by rw [e415, e409, e403, e397, e391, e385, en380]; rfl
  have en419 : wa412 = [(q1, .inl (G.2.1 0, 5000, .inl (fun _ => 0))), (q7, .inl (G.2.1 0, 5000, .inl (fun _ => 0))), (q13, .inl (G.2.1 0, 5001, .inl (fun _ => 0))), (q19, .inl (G.2.1 0, 5001, .inl (fun _ => 0))), (q25, .inl (G.2.1 0, 5001, .inl (fun _ => 0))), (q31, .inl (G.2.1 0, 5001, .inl (fun _ => 0))), (q37, .inl (G.2.1 0, 5100, .inl (fun _ => 0))), (q45, .inl (G.2.1 0, 5100, .inl (fun _ => 0))), (q51, .inl (G.2.1 1, 5100, .inl (fun _ => 0))), (q57, .inl (G.2.1 0, 12000, .inl (fun _ => 0))), (q63, .inl (G.2.1 0, 12000, .inl (fun _ => 0))), (q69, .inl (G.2.1 0, 12000, .inl (fun _ => 0))), (q75, .inl (G.2.1 0, 12000, .inl (fun _ => 0))), (q83, .inl (G.2.1 0, 12000, .inl (fun _ => 0))), (q89, .inl (G.2.1 0, 12000, .inl (fun _ => 0))), (q95, .inl (G.2.1 0, 12000, .inl (fun _ => 0))), (q101, .inl (G.2.1 0, 12000, .inl (fun _ => 0))), (q107, .inl (G.2.1 0, 12000, .inl (fun _ => 0))), (q113, .inl (G.2.1 0, 12000, .inl (fun _ => 0))), (q121, .inl (G.2.1 0, 5000, .inl (fun _ => 0))), (q127, .inl (G.2.1 3, 5000, .inl (fun _ => 0))), (q133, .inl (G.2.1 0, 5000, .inl (fun _ => 0))), (q139, .inl (G.2.1 0, 5000, .inl (fun _ => 0))), (q145, .inl (G.2.1 0, 5000, .inl (fun _ => 0))), (q151, .inl (G.2.1 0, 40, .inl (fun _ => 0))), (q159, .inl (G.2.1 0, 40, .inl (fun _ => 0))), (q165, .inl (G.2.1 3, 40, .inl (fun _ => 0))), (q171, .inl (G.2.1 0, 40, .inl (fun _ => 0))), (q177, .inl (G.2.1 0, 40, .inl (fun _ => 0))), (q183, .inl (G.2.1 0, 40, .inl (fun _ => 0))), (q189, .inl (G.2.1 0, 40, .inl (fun _ => 0))), (q197, .inl (G.2.1 3, 1600, .inl (fun _ => 0))), (q203, .inl (G.2.1 0, 620, .inl (fun _ => 0))), (q209, .inl (G.2.1 0, 620, .inl (fun _ => 0))), (q215, .inl (G.2.1 0, 620, .inl (fun _ => 0))), (q221, .inl (G.2.1 0, 620, .inl (fun _ => 0))), (q227, .inl (G.2.1 0, 920, .inl (fun _ => 0))), (q235, .inl (G.2.1 0, 920, .inl (fun _ => 0))), (q241, .inl (G.2.1 0, 920, .inl (fun _ => 0))), (q247, .inl (G.2.1 0, 920, .inl (fun _ => 0))), (q253, .inl (G.2.1 0, 920, .inl (fun _ => 0))), (q259, .inl (G.2.1 0, 920, .inl (fun _ => 0))), (q265, .inl (G.2.1 0, 920, .inl (fun _ => 0))), (q273, .inl (G.2.1 0, 920, .inl (fun _ => 0))), (q279, .inl (G.2.1 0, 920, .inl (fun _ => 0))), (q285, .inl (G.2.1 0, 5000, .inl (fun _ => 0))), (q291, .inl (G.2.1 0, 5000, .inl (fun _ => 0))), (q297, .inl (G.2.1 0, 5000, .inl (fun _ => 0))), (q303, .inl (G.2.1 0, 40, .inl (fun _ => 0))), (q311, .inl (G.2.1 0, 40, .inl (fun _ => 0))), (q317, .inl (G.2.1 0, 200, .inl (fun _ => 0))), (q323, .inl (G.2.1 0, 400, .inl (fun _ => 0))), (q329, .inl (G.2.1 0, 12000, .inl (fun _ => 0))), (q335, .inl (G.2.1 0, 620, .inl (fun _ => 0))), (q341, .inl (G.2.1 0, 204000, .inl (fun _ => 0))), (q349, .inl (G.2.1 0, 3000, .inl (fun _ => 0))), (q355, .inl (G.2.1 0, 3000, .inl (fun _ => 0))), (q361, .inl (G.2.1 0, 3000, .inl (fun _ => 0))), (q367, .inl (G.2.1 0, 3000, .inl (fun _ => 0))), (q373, .inl (G.2.1 3, 3000, .inl (fun _ => 0))), (q379, .inl (G.2.1 0, 3100, .inl (fun _ => 0))), (q387, .inl (G.2.1 0, 3000, .inl (fun _ => 0))), (q393, .inl (G.2.1 0, 100, .inl (fun _ => 0))), (q399, .inl (G.2.1 0, 100, .inl (fun _ => 0))), (q405, .inl (G.2.1 0, 100, .inl (fun _ => 0))), (q411, .inl (G.2.1 0, 100, .inl (fun _ => 0)))] := by rw [ew413, ew407, ew401, ew395, ew389, ew383, en381]; rfl
  obtain ⟨wa420, ew421⟩ : ∃ z : va_W, z = wa412 ++ [(q417, .inl (G.2.1 0, 3200, .inl (fun _ => 0)))] := ⟨_, rfl⟩
  have hP : va_P G.1 pCl ((h0, .inr (9, fs414)) :: wa420) H := by rw [ew421]; exact hP
  have hD : va_D A ((h0, .inr (9, fs414)) :: wa420) := by rw [ew421]; exact hD
  refine W.widen (k := 67) (n := 459944) (Nat.le_of_ble_eq_true rfl) (Nat.le_of_ble_eq_true rfl) ?_
  refine va_putF (D := G.1) (ci := 9) (v := .ref q417) (ty := (.array .int)) (C := RX12) (T := TX12) (N := 134) hx hb hq pin_wsX120 tyX12 tyX12_ok nmX12 hown hE.1.1 hP hD hS 0 rfl rfl 107 (by decide) (by rw [tFX12_107]; exact hq _ pw_1498) (fun _ h9 => h9) (by rw [tFX12_107]) hin (by rw [tFX12_107]; rfl) (by rw [tFX12_107]; decide +kernel) rfl rfl (by rw [hn416]; decide) dX12_init_590 (fun H locs hP hD hS => ?_)
  obtain ⟨fs422, e423⟩ : ∃ z : List Value, z = fs414.set 107 (.ref q417) := ⟨_, rfl⟩
  have hn424 : fs422.length = 134 := by rw [e423, List.length_set]; exact hn416
  have hP : va_P G.1 pCl ((h0, .inr (9, fs422)) :: wa420) H := by rw [e423]; exact hP
  have hD : va_D A ((h0, .inr (9, fs422)) :: wa420) := by rw [e423]; exact hD
  refine lv_aload_n hx hb dX12_init_593 rfl (lv_at hl 0 rfl) ?_
  refine lv_sipush (v := 3200) hx hb dX12_init_594 (by decide) ?_
  refine pn_newa (G := G) (atype := .boolean) (a0 := (3200, .inl (fun _ => 0))) (N' := 3200) hx hb (hq _ pw_1450) rfl hE.1.2.2.2.2.1 hP hD hS hA (fun _ => rfl) (by decide) (by decide) (by decide) (Nat.le_of_ble_eq_true rfl) (Nat.le_of_ble_eq_true rfl) dX12_init_597 (fun q425 H hP hD hS => ?_)
  obtain ⟨wa426, ew427⟩ : ∃ z : va_W, z = wa420 ++ [(q425, .inl (G.2.1 3, 3200, .inl (fun _ => 0)))] := ⟨_, rfl⟩
  have hP : va_P G.1 pCl ((h0, .inr (9, fs422)) :: wa426) H := by rw [ew427]; exact hP
  have hD : va_D A ((h0, .inr (9, fs422)) :: wa426) := by rw [ew427]; exact hD
  refine W.widen (k := 68) (n := 463144) (Nat.le_of_ble_eq_true rfl) (Nat.le_of_ble_eq_true rfl) ?_
  refine va_putF (D := G.1) (ci := 9) (v := .ref q425) (ty := (.array .boolean)) (C := RX12) (T := TX12) (N := 134) hx hb hq pin_wsX120 tyX12 tyX12_ok nmX12 hown hE.1.1 hP hD hS 0 rfl rfl 108 (by decide) (by rw [tFX12_108]; exact hq _ pw_1499) (fun _ h9 => h9) (by rw [tFX12_108]) hin (by rw [tFX12_108]; rfl) (by rw [tFX12_108]; decide +kernel) rfl rfl (by rw [hn424]; decide) dX12_init_599 (fun H locs hP hD hS => ?_)
  obtain ⟨fs428, e429⟩ : ∃ z : List Value, z = fs422.set 108 (.ref q425) := ⟨_, rfl⟩
  have hn430 : fs428.length = 134 := by rw [e429, List.length_set]; exact hn424
  have hP : va_P G.1 pCl ((h0, .inr (9, fs428)) :: wa426) H := by rw [e429]; exact hP
  have hD : va_D A ((h0, .inr (9, fs428)) :: wa426) := by rw [e429]; exact hD
  refine lv_aload_n hx hb dX12_init_602 rfl (lv_at hl 0 rfl) ?_
  refine lv_ldc (v := 40000) hx hb hown (hq _ pw_1500) dX12_init_603 ?_
  refine pn_newa (G := G) (atype := .int) (a0 := (40000, .inl (fun _ => 0))) (N' := 40000) hx hb (hq _ pw_6) rfl hE.1.2.1 hP hD hS hA (fun _ => rfl) (by decide) (by decide) (by decide) (Nat.le_of_ble_eq_true rfl) (Nat.le_of_ble_eq_true rfl) dX12_init_605 (fun q431 H hP hD hS => ?_)
  obtain ⟨wa432, ew433⟩ : ∃ z : va_W, z = wa426 ++ [(q431, .inl (G.2.1 0, 40000, .inl (fun _ => 0)))] := ⟨_, rfl⟩
  have hP : va_P G.1 pCl ((h0, .inr (9, fs428)) :: wa432) H := by rw [ew433]; exact hP
  have hD : va_D A ((h0, .inr (9, fs428)) :: wa432) := by rw [ew433]; exact hD
  refine W.widen (k := 69) (n := 503144) (Nat.le_of_ble_eq_true rfl) (Nat.le_of_ble_eq_true rfl) ?_
  refine va_putF (D := G.1) (ci := 9) (v := .ref q431) (ty := (.array .int)) (C := RX12) (T := TX12) (N := 134) hx hb hq pin_wsX120 tyX12 tyX12_ok nmX12 hown hE.1.1 hP hD hS 0 rfl rfl 109 (by decide) (by rw [tFX12_109]; exact hq _ pw_1501) (fun _ h9 => h9) (by rw [tFX12_109]) hin (by rw [tFX12_109]; rfl) (by rw [tFX12_109]; decide +kernel) rfl rfl (by rw [hn430]; decide) dX12_init_607 (fun H locs hP hD hS => ?_)
  obtain ⟨fs434, e435⟩ : ∃ z : List Value, z = fs428.set 109 (.ref q431) := ⟨_, rfl⟩
  have hn436 : fs434.length = 134 := by rw [e435, List.length_set]; exact hn430
  have hP : va_P G.1 pCl ((h0, .inr (9, fs434)) :: wa432) H := by rw [e435]; exact hP
  have hD : va_D A ((h0, .inr (9, fs434)) :: wa432) := by rw [e435]; exact hD
  refine lv_aload_n hx hb dX12_init_610 rfl (lv_at hl 0 rfl) ?_
  refine lv_ldc (v := 40000) hx hb hown (hq _ pw_1500) dX12_init_611 ?_
  refine pn_newa (G := G) (atype := .boolean) (a0 := (40000, .inl (fun _ => 0))) (N' := 40000) hx hb (hq _ pw_1450) rfl hE.1.2.2.2.2.1 hP hD hS hA (fun _ => rfl) (by decide) (by decide) (by decide) (Nat.le_of_ble_eq_true rfl) (Nat.le_of_ble_eq_true rfl) dX12_init_613 (fun q437 H hP hD hS => ?_)
  obtain ⟨wa438, ew439⟩ : ∃ z : va_W, z = wa432 ++ [(q437, .inl (G.2.1 3, 40000, .inl (fun _ => 0)))] := ⟨_, rfl⟩
  have hP : va_P G.1 pCl ((h0, .inr (9, fs434)) :: wa438) H := by rw [ew439]; exact hP
  have hD : va_D A ((h0, .inr (9, fs434)) :: wa438) := by rw [ew439]; exact hD
  refine W.widen (k := 70) (n := 543144) (Nat.le_of_ble_eq_true rfl) (Nat.le_of_ble_eq_true rfl) ?_
  refine va_putF (D := G.1) (ci := 9) (v := .ref q437) (ty := (.array .boolean)) (C := RX12) (T := TX12) (N := 134) hx hb hq pin_wsX120 tyX12 tyX12_ok nmX12 hown hE.1.1 hP hD hS 0 rfl rfl 110 (by decide) (by rw [tFX12_110]; exact hq _ pw_1502) (fun _ h9 => h9) (by rw [tFX12_110]) hin (by rw [tFX12_110]; rfl) (by rw [tFX12_110]; decide +kernel) rfl rfl (by rw [hn436]; decide) dX12_init_615 (fun H locs hP hD hS => ?_)
  obtain ⟨fs440, e441⟩ : ∃ z : List Value, z = fs434.set 110 (.ref q437) := ⟨_, rfl⟩
  have hn442 : fs440.length = 134 := by rw [e441, List.length_set]; exact hn436
  have hP : va_P G.1 pCl ((h0, .inr (9, fs440)) :: wa438) H := by rw [e441]; exact hP
  have hD : va_D A ((h0, .inr (9, fs440)) :: wa438) := by rw [e441]; exact hD
  refine lv_aload_n hx hb dX12_init_618 rfl (lv_at hl 0 rfl) ?_
  refine lv_sipush (v := 2100) hx hb dX12_init_619 (by decide) ?_
  refine pn_newa (G := G) (atype := .int) (a0 := (2100, .inl (fun _ => 0))) (N' := 2100) hx hb (hq _ pw_6) rfl hE.1.2.1 hP hD hS hA (fun _ => rfl) (by decide) (by decide) (by decide) (Nat.le_of_ble_eq_true rfl) (Nat.le_of_ble_eq_true rfl) dX12_init_622 (fun q443 H hP hD hS => ?_)
  obtain ⟨wa444, ew445⟩ : ∃ z : va_W, z = wa438 ++ [(q443, .inl (G.2.1 0, 2100, .inl (fun _ => 0)))] := ⟨_, rfl⟩
  have hP : va_P G.1 pCl ((h0, .inr (9, fs440)) :: wa444) H := by rw [ew445]; exact hP
  have hD : va_D A ((h0, .inr (9, fs440)) :: wa444) := by rw [ew445]; exact hD
  refine W.widen (k := 71) (n := 545244) (Nat.le_of_ble_eq_true rfl) (Nat.le_of_ble_eq_true rfl) ?_
  refine va_putF (D := G.1) (ci := 9) (v := .ref q443) (ty := (.array .int)) (C := RX12) (T := TX12) (N := 134) hx hb hq pin_wsX120 tyX12 tyX12_ok nmX12 hown hE.1.1 hP hD hS 0 rfl rfl 112 (by decide) (by rw [tFX12_112]; exact hq _ pw_1503) (fun _ h9 => h9) (by rw [tFX12_112]) hin (by rw [tFX12_112]; rfl) (by rw [tFX12_112]; decide +kernel) rfl rfl (by rw [hn442]; decide) dX12_init_624 (fun H locs hP hD hS => ?_)
  obtain ⟨fs446, e447⟩ : ∃ z : List Value, z = fs440.set 112 (.ref q443) := ⟨_, rfl⟩
  have hn448 : fs446.length = 134 := by rw [e447, List.length_set]; exact hn442
  have hP : va_P G.1 pCl ((h0, .inr (9, fs446)) :: wa444) H := by rw [e447]; exact hP
  have hD : va_D A ((h0, .inr (9, fs446)) :: wa444) := by rw [e447]; exact hD
  refine lv_aload_n hx hb dX12_init_627 rfl (lv_at hl 0 rfl) ?_
  refine lv_sipush (v := 2100) hx hb dX12_init_628 (by decide) ?_
  refine pn_newa (G := G) (atype := .int) (a0 := (2100, .inl (fun _ => 0))) (N' := 2100) hx hb (hq _ pw_6) rfl hE.1.2.1 hP hD hS hA (fun _ => rfl) (by decide) (by decide) (by decide) (Nat.le_of_ble_eq_true rfl) (Nat.le_of_ble_eq_true rfl) dX12_init_631 (fun q449 H hP hD hS => ?_)
  obtain ⟨wa450, ew451⟩ : ∃ z : va_W, z = wa444 ++ [(q449, .inl (G.2.1 0, 2100, .inl (fun _ => 0)))] := ⟨_, rfl⟩
  have hP : va_P G.1 pCl ((h0, .inr (9, fs446)) :: wa450) H := by rw [ew451]; exact hP
  have hD : va_D A ((h0, .inr (9, fs446)) :: wa450) := by rw [ew451]; exact hD
  refine W.widen (k := 72) (n := 547344) (Nat.le_of_ble_eq_true rfl) (Nat.le_of_ble_eq_true rfl) ?_
  refine va_putF (D := G.1) (ci := 9) (v := .ref q449) (ty := (.array .int)) (C := RX12) (T := TX12) (N := 134) hx hb hq pin_wsX120 tyX12 tyX12_ok nmX12 hown hE.1.1 hP hD hS 0 rfl rfl 113 (by decide) (by rw [tFX12_113]; exact hq _ pw_1504) (fun _ h9 => h9) (by rw [tFX12_113]) hin (by rw [tFX12_113]; rfl) (by rw [tFX12_113]; decide +kernel) rfl rfl (by rw [hn448]; decide) dX12_init_633 (fun H locs hP hD hS => ?_)
  obtain ⟨fs452, e453⟩ : ∃ z : List Value, z = fs446.set 113 (.ref q449) := ⟨_, rfl⟩
  have hn454 : fs452.length = 134 := by rw [e453, List.length_set]; exact hn448
  have hP : va_P G.1 pCl ((h0, .inr (9, fs452)) :: wa450) H := by rw [e453]; exact hP
  have hD : va_D A ((h0, .inr (9, fs452)) :: wa450) := by rw [e453]; exact hD
  refine lv_aload_n hx hb dX12_init_636 rfl (lv_at hl 0 rfl) ?_
  refine lv_sipush (v := 2100) hx hb dX12_init_637 (by decide) ?_
  refine pn_newa (G := G) (atype := .boolean) (a0 := (2100, .inl (fun _ => 0))) (N' := 2100) hx hb (hq _ pw_1450) rfl hE.1.2.2.2.2.1 hP hD hS hA (fun _ => rfl) (by decide) (by decide) (by decide) (Nat.le_of_ble_eq_true rfl) (Nat.le_of_ble_eq_true rfl) dX12_init_640 (fun q455 H hP hD hS => ?_)
  have en456 : fs452 = [.int 0, .ref q1, .int 0, .ref q7, .int 0, .ref q13, .ref q19, .ref q25, .ref q31, .int 0, .ref q37, .ref q45, .ref q51, .int 0, .int 0, .int 0, .int 0, .ref q57, .ref q63, .ref q69, .ref q75, .ref q83, .ref q89, .ref q95, .ref q101, .ref q107, .ref q113, .int 0, .ref q121, .ref q127, .ref q133, .int 0, .ref q139, .ref q145, .int 0, .int 0, .ref q151, .ref q159, .ref q165, .ref q171, .ref q177, .ref q183, .ref q189, .ref q197, .int 0, .ref q203, .ref q209, .ref q215, .ref q221, .int 0, .ref q227, .ref q235, .ref q241, .ref q247, .ref q253, .ref q259, .ref q265, .ref q273, .ref q279, .int 0, .int 0, .ref q285, .ref q291, .ref q297, .int 0, .int 0, .int 0, .int 0, .int 0, .int 0, .int 0, .ref q303, .ref q311, .int 0, .int 0, .int 0, .int 0, .int 0, .int 0, .int 0, .int 0, .int 0, .int 0, .int 0, .ref q317, .int 0, .ref q323, .int 0, .ref q329, .ref q335, .ref q341, .ref q349, .ref q355, .ref q361, .ref q367, .ref q373, .ref q379, .int 0, .int 0, .int 0, .ref q387, .int 0, .int 0, .ref q393, .ref q399, .ref q405, .ref q411, .ref q417, .ref q425, .ref q431, .ref q437, .int 0, .ref q443, .ref q449, .null, .int 0, .int 0, .int 0, .int 0, .int 0, .int 0, .int 0, .int 0, .int 0, .int 0, .int 0, .int 0, .null, .int 0, .null, .int 0, .null, .null, .null] := by rw [e453, e447, e441, e435, e429, e423, en418]; rfl
  have en457 : wa450 = [(q1, .inl (G.2.1 0, 5000, .inl (fun _ => 0))), (q7, .inl (G.2.1 0, 5000, .inl (fun _ => 0))), (q13, .inl (G.2.1 0, 5001, .inl (fun _ => 0))), (q19, .inl (G.2.1 0, 5001, .inl (fun _ => 0))), (q25, .inl (G.2.1 0, 5001, .inl (fun _ => 0))), (q31, .inl (G.2.1 0, 5001, .inl (fun _ => 0))), (q37, .inl (G.2.1 0, 5100, .inl (fun _ => 0))), (q45, .inl (G.2.1 0, 5100, .inl (fun _ => 0))), (q51, .inl (G.2.1 1, 5100, .inl (fun _ => 0))), (q57, .inl (G.2.1 0, 12000, .inl (fun _ => 0))), (q63, .inl (G.2.1 0, 12000, .inl (fun _ => 0))), (q69, .inl (G.2.1 0, 12000, .inl (fun _ => 0))), (q75, .inl (G.2.1 0, 12000, .inl (fun _ => 0))), (q83, .inl (G.2.1 0, 12000, .inl (fun _ => 0))), (q89, .inl (G.2.1 0, 12000, .inl (fun _ => 0))), (q95, .inl (G.2.1 0, 12000, .inl (fun _ => 0))), (q101, .inl (G.2.1 0, 12000, .inl (fun _ => 0))), (q107, .inl (G.2.1 0, 12000, .inl (fun _ => 0))), (q113, .inl (G.2.1 0, 12000, .inl (fun _ => 0))), (q121, .inl (G.2.1 0, 5000, .inl (fun _ => 0))), (q127, .inl (G.2.1 3, 5000, .inl (fun _ => 0))), (q133, .inl (G.2.1 0, 5000, .inl (fun _ => 0))), (q139, .inl (G.2.1 0, 5000, .inl (fun _ => 0))), (q145, .inl (G.2.1 0, 5000, .inl (fun _ => 0))), (q151, .inl (G.2.1 0, 40, .inl (fun _ => 0))), (q159, .inl (G.2.1 0, 40, .inl (fun _ => 0))), (q165, .inl (G.2.1 3, 40, .inl (fun _ => 0))), (q171, .inl (G.2.1 0, 40, .inl (fun _ => 0))), (q177, .inl (G.2.1 0, 40, .inl (fun _ => 0))), (q183, .inl (G.2.1 0, 40, .inl (fun _ => 0))), (q189, .inl (G.2.1 0, 40, .inl (fun _ => 0))), (q197, .inl (G.2.1 3, 1600, .inl (fun _ => 0))), (q203, .inl (G.2.1 0, 620, .inl (fun _ => 0))), (q209, .inl (G.2.1 0, 620, .inl (fun _ => 0))), (q215, .inl (G.2.1 0, 620, .inl (fun _ => 0))), (q221, .inl (G.2.1 0, 620, .inl (fun _ => 0))), (q227, .inl (G.2.1 0, 920, .inl (fun _ => 0))), (q235, .inl (G.2.1 0, 920, .inl (fun _ => 0))), (q241, .inl (G.2.1 0, 920, .inl (fun _ => 0))), (q247, .inl (G.2.1 0, 920, .inl (fun _ => 0))), (q253, .inl (G.2.1 0, 920, .inl (fun _ => 0))), (q259, .inl (G.2.1 0, 920, .inl (fun _ => 0))), (q265, .inl (G.2.1 0, 920, .inl (fun _ => 0))), (q273, .inl (G.2.1 0, 920, .inl (fun _ => 0))), (q279, .inl (G.2.1 0, 920, .inl (fun _ => 0))), (q285, .inl (G.2.1 0, 5000, .inl (fun _ => 0))), (q291, .inl (G.2.1 0, 5000, .inl (fun _ => 0))), (q297, .inl (G.2.1 0, 5000, .inl (fun _ => 0))), (q303, .inl (G.2.1 0, 40, .inl (fun _ => 0))), (q311, .inl (G.2.1 0, 40, .inl (fun _ => 0))), (q317, .inl (G.2.1 0, 200, .inl (fun _ => 0))), (q323, .inl (G.2.1 0, 400, .inl (fun _ => 0))), (q329, .inl (G.2.1 0, 12000, .inl (fun _ => 0))), (q335, .inl (G.2.1 0, 620, .inl (fun _ => 0))), (q341, .inl (G.2.1 0, 204000, .inl (fun _ => 0))), (q349, .inl (G.2.1 0, 3000, .inl (fun _ => 0))), (q355, .inl (G.2.1 0, 3000, .inl (fun _ => 0))), (q361, .inl (G.2.1 0, 3000, .inl (fun _ => 0))), (q367, .inl (G.2.1 0, 3000, .inl (fun _ => 0))), (q373, .inl (G.2.1 3, 3000, .inl (fun _ => 0))), (q379, .inl (G.2.1 0, 3100, .inl (fun _ => 0))), (q387, .inl (G.2.1 0, 3000, .inl (fun _ => 0))), (q393, .inl (G.2.1 0, 100, .inl (fun _ => 0))), (q399, .inl (G.2.1 0, 100, .inl (fun _ => 0))), (q405, .inl (G.2.1 0, 100, .inl (fun _ => 0))), (q411, .inl (G.2.1 0, 100, .inl (fun _ => 0))), (q417, .inl (G.2.1 0, 3200, .inl (fun _ => 0))), (q425, .inl (G.2.1 3, 3200, .inl (fun _ => 0))), (q431, .inl (G.2.1 0, 40000, .inl (fun _ => 0))), (q437, .inl (G.2.1 3, 40000, .inl (fun _ => 0))), (q443, .inl (G.2.1 0, 2100, .inl (fun _ => 0))), (q449, .inl (G.2.1 0, 2100, .inl (fun _ => 0)))] := by rw [ew451, ew445, ew439, ew433, ew427, ew421, en419]; rfl
  obtain ⟨wa458, ew459⟩ : ∃ z : va_W, z = wa450 ++ [(q455, .inl (G.2.1 3, 2100, .inl (fun _ => 0)))] := ⟨_, rfl⟩
  have hP : va_P G.1 pCl ((h0, .inr (9, fs452)) :: wa458) H := by rw [ew459]; exact hP
  have hD : va_D A ((h0, .inr (9, fs452)) :: wa458) := by rw [ew459]; exact hD
  refine W.widen (k := 73) (n := 549444) (Nat.le_of_ble_eq_true rfl) (Nat.le_of_ble_eq_true rfl) ?_
  refine va_putF (D := G.1) (ci := 9) (v := .ref q455) (ty := (.array .boolean)) (C := RX12) (T := TX12) (N := 134) hx hb hq pin_wsX120 tyX12 tyX12_ok nmX12 hown hE.1.1 hP hD hS 0 rfl rfl 114 (by decide) (by rw [tFX12_114]; exact hq _ pw_1505) (fun _ h9 => h9) (by rw [tFX12_114]) hin (by rw [tFX12_114]; rfl) (by rw [tFX12_114]; decide +kernel) rfl rfl (by rw [hn454]; decide) dX12_init_642 (fun H locs hP hD hS => ?_)
  obtain ⟨fs460, e461⟩ : ∃ z : List Value, z = fs452.set 114 (.ref q455) := ⟨_, rfl⟩
  have hn462 : fs460.length = 134 := by rw [e461, List.length_set]; exact hn454
  have hP : va_P G.1 pCl ((h0, .inr (9, fs460)) :: wa458) H := by rw [e461]; exact hP
  have hD : va_D A ((h0, .inr (9, fs460)) :: wa458) := by rw [e461]; exact hD
  refine lv_aload_n hx hb dX12_init_645 rfl (lv_at hl 0 rfl) ?_
  refine lv_iconst (v := (-1)) hx hb dX12_init_646 (by decide) ?_
  refine va_put (D := G.1) (ci := 9) (v := .int (-1)) (ty := .int) (C := RX12) (T := TX12) (N := 134) hx hb hq pin_wsX120 tyX12 tyX12_ok nmX12 hown hE.1.1 hP hD hS 0 rfl rfl 116 (by decide) (by rw [tFX12_116]; exact hq _ pw_1506) (fun _ h9 => h9) (by rw [tFX12_116]) (by rw [tFX12_116]; decide +kernel) rfl rfl (by rw [hn462]; decide) dX12_init_647 (fun H locs hP hD hS => ?_)
  obtain ⟨fs463, e464⟩ : ∃ z : List Value, z = fs460.set 116 (.int (-1)) := ⟨_, rfl⟩
  have hn465 : fs463.length = 134 := by rw [e464, List.length_set]; exact hn462
  have hP : va_P G.1 pCl ((h0, .inr (9, fs463)) :: wa458) H := by rw [e464]; exact hP
  have hD : va_D A ((h0, .inr (9, fs463)) :: wa458) := by rw [e464]; exact hD
  refine lv_aload_n hx hb dX12_init_650 rfl (lv_at hl 0 rfl) ?_
  refine lv_sipush (v := 3000) hx hb dX12_init_651 (by decide) ?_
  refine pn_newa (G := G) (atype := .int) (a0 := (3000, .inl (fun _ => 0))) (N' := 3000) hx hb (hq _ pw_6) rfl hE.1.2.1 hP hD hS hA (fun _ => rfl) (by decide) (by decide) (by decide) (Nat.le_of_ble_eq_true rfl) (Nat.le_of_ble_eq_true rfl) dX12_init_654 (fun q466 H hP hD hS => ?_)
  obtain ⟨wa467, ew468⟩ : ∃ z : va_W, z = wa458 ++ [(q466, .inl (G.2.1 0, 3000, .inl (fun _ => 0)))] := ⟨_, rfl⟩
  have hP : va_P G.1 pCl ((h0, .inr (9, fs463)) :: wa467) H := by rw [ew468]; exact hP
  have hD : va_D A ((h0, .inr (9, fs463)) :: wa467) := by rw [ew468]; exact hD
  refine W.widen (k := 74) (n := 552444) (Nat.le_of_ble_eq_true rfl) (Nat.le_of_ble_eq_true rfl) ?_
  refine va_putF (D := G.1) (ci := 9) (v := .ref q466) (ty := (.array .int)) (C := RX12) (T := TX12) (N := 134) hx hb hq pin_wsX120 tyX12 tyX12_ok nmX12 hown hE.1.1 hP hD hS 0 rfl rfl 127 (by decide) (by rw [tFX12_127]; exact hq _ pw_1507) (fun _ h9 => h9) (by rw [tFX12_127]) hin (by rw [tFX12_127]; rfl) (by rw [tFX12_127]; decide +kernel) rfl rfl (by rw [hn465]; decide) dX12_init_656 (fun H locs hP hD hS => ?_)
  obtain ⟨fs469, e470⟩ : ∃ z : List Value, z = fs463.set 127 (.ref q466) := ⟨_, rfl⟩
  have hn471 : fs469.length = 134 := by rw [e470, List.length_set]; exact hn465
  have hP : va_P G.1 pCl ((h0, .inr (9, fs469)) :: wa467) H := by rw [e470]; exact hP
  have hD : va_D A ((h0, .inr (9, fs469)) :: wa467) := by rw [e470]; exact hD
  refine lv_aload_n hx hb dX12_init_659 rfl (lv_at hl 0 rfl) ?_
  refine lv_sipush (v := 3000) hx hb dX12_init_660 (by decide) ?_
  refine pn_newa (G := G) (atype := .int) (a0 := (3000, .inl (fun _ => 0))) (N' := 3000) hx hb (hq _ pw_6) rfl hE.1.2.1 hP hD hS hA (fun _ => rfl) (by decide) (by decide) (by decide) (Nat.le_of_ble_eq_true rfl) (Nat.le_of_ble_eq_true rfl) dX12_init_663 (fun q472 H hP hD hS => ?_)
  obtain ⟨wa473, ew474⟩ : ∃ z : va_W, z = wa467 ++ [(q472, .inl (G.2.1 0, 3000, .inl (fun _ => 0)))] := ⟨_, rfl⟩
  have hP : va_P G.1 pCl ((h0, .inr (9, fs469)) :: wa473) H := by rw [ew474]; exact hP
  have hD : va_D A ((h0, .inr (9, fs469)) :: wa473) := by rw [ew474]; exact hD
  refine W.widen (k := 75) (n := 555444) (Nat.le_of_ble_eq_true rfl) (Nat.le_of_ble_eq_true rfl) ?_
  refine va_putF (D := G.1) (ci := 9) (v := .ref q472) (ty := (.array .int)) (C := RX12) (T := TX12) (N := 134) hx hb hq pin_wsX120 tyX12 tyX12_ok nmX12 hown hE.1.1 hP hD hS 0 rfl rfl 129 (by decide) (by rw [tFX12_129]; exact hq _ pw_1508) (fun _ h9 => h9) (by rw [tFX12_129]) hin (by rw [tFX12_129]; rfl) (by rw [tFX12_129]; decide +kernel) rfl rfl (by rw [hn471]; decide) dX12_init_665 (fun H locs hP hD hS => ?_)
  obtain ⟨fs475, e476⟩ : ∃ z : List Value, z = fs469.set 129 (.ref q472) := ⟨_, rfl⟩
  have hn477 : fs475.length = 134 := by rw [e476, List.length_set]; exact hn471
  have hP : va_P G.1 pCl ((h0, .inr (9, fs475)) :: wa473) H := by rw [e476]; exact hP
  have hD : va_D A ((h0, .inr (9, fs475)) :: wa473) := by rw [e476]; exact hD
  refine lv_aload_n hx hb dX12_init_668 rfl (lv_at hl 0 rfl) ?_
  refine lv_bipush (v := 40) hx hb dX12_init_669 (by decide) ?_
  refine pn_newa (G := G) (atype := .int) (a0 := (40, .inl (fun _ => 0))) (N' := 40) hx hb (hq _ pw_6) rfl hE.1.2.1 hP hD hS hA (fun _ => rfl) (by decide) (by decide) (by decide) (Nat.le_of_ble_eq_true rfl) (Nat.le_of_ble_eq_true rfl) dX12_init_671 (fun q478 H hP hD hS => ?_)
  obtain ⟨wa479, ew480⟩ : ∃ z : va_W, z = wa473 ++ [(q478, .inl (G.2.1 0, 40, .inl (fun _ => 0)))] := ⟨_, rfl⟩
  have hP : va_P G.1 pCl ((h0, .inr (9, fs475)) :: wa479) H := by rw [ew480]; exact hP
  have hD : va_D A ((h0, .inr (9, fs475)) :: wa479) := by rw [ew480]; exact hD
  refine W.widen (k := 76) (n := 555484) (Nat.le_of_ble_eq_true rfl) (Nat.le_of_ble_eq_true rfl) ?_
  refine va_putF (D := G.1) (ci := 9) (v := .ref q478) (ty := (.array .int)) (C := RX12) (T := TX12) (N := 134) hx hb hq pin_wsX120 tyX12 tyX12_ok nmX12 hown hE.1.1 hP hD hS 0 rfl rfl 131 (by decide) (by rw [tFX12_131]; exact hq _ pw_1509) (fun _ h9 => h9) (by rw [tFX12_131]) hin (by rw [tFX12_131]; rfl) (by rw [tFX12_131]; decide +kernel) rfl rfl (by rw [hn477]; decide) dX12_init_673 (fun H locs hP hD hS => ?_)
  obtain ⟨fs481, e482⟩ : ∃ z : List Value, z = fs475.set 131 (.ref q478) := ⟨_, rfl⟩
  have hn483 : fs481.length = 134 := by rw [e482, List.length_set]; exact hn477
  have hP : va_P G.1 pCl ((h0, .inr (9, fs481)) :: wa479) H := by rw [e482]; exact hP
  have hD : va_D A ((h0, .inr (9, fs481)) :: wa479) := by rw [e482]; exact hD
  refine lv_aload_n hx hb dX12_init_676 rfl (lv_at hl 0 rfl) ?_
  refine lv_bipush (v := 40) hx hb dX12_init_677 (by decide) ?_
  refine pn_newa (G := G) (atype := .int) (a0 := (40, .inl (fun _ => 0))) (N' := 40) hx hb (hq _ pw_6) rfl hE.1.2.1 hP hD hS hA (fun _ => rfl) (by decide) (by decide) (by decide) (Nat.le_of_ble_eq_true rfl) (Nat.le_of_ble_eq_true rfl) dX12_init_679 (fun q484 H hP hD hS => ?_)
  obtain ⟨wa485, ew486⟩ : ∃ z : va_W, z = wa479 ++ [(q484, .inl (G.2.1 0, 40, .inl (fun _ => 0)))] := ⟨_, rfl⟩
  have hP : va_P G.1 pCl ((h0, .inr (9, fs481)) :: wa485) H := by rw [ew486]; exact hP
  have hD : va_D A ((h0, .inr (9, fs481)) :: wa485) := by rw [ew486]; exact hD
  refine W.widen (k := 77) (n := 555524) (Nat.le_of_ble_eq_true rfl) (Nat.le_of_ble_eq_true rfl) ?_
  refine va_putF (D := G.1) (ci := 9) (v := .ref q484) (ty := (.array .int)) (C := RX12) (T := TX12) (N := 134) hx hb hq pin_wsX120 tyX12 tyX12_ok nmX12 hown hE.1.1 hP hD hS 0 rfl rfl 132 (by decide) (by rw [tFX12_132]; exact hq _ pw_1510) (fun _ h9 => h9) (by rw [tFX12_132]) hin (by rw [tFX12_132]; rfl) (by rw [tFX12_132]; decide +kernel) rfl rfl (by rw [hn483]; decide) dX12_init_681 (fun H locs hP hD hS => ?_)
  obtain ⟨fs487, e488⟩ : ∃ z : List Value, z = fs481.set 132 (.ref q484) := ⟨_, rfl⟩
  have hn489 : fs487.length = 134 := by rw [e488, List.length_set]; exact hn483
  have hP : va_P G.1 pCl ((h0, .inr (9, fs487)) :: wa485) H := by rw [e488]; exact hP
  have hD : va_D A ((h0, .inr (9, fs487)) :: wa485) := by rw [e488]; exact hD
  refine lv_aload_n hx hb dX12_init_684 rfl (lv_at hl 0 rfl) ?_
  refine lv_sipush (v := 23000) hx hb dX12_init_685 (by decide) ?_
  refine pn_newa (G := G) (atype := .int) (a0 := (23000, .inl (fun _ => 0))) (N' := 23000) hx hb (hq _ pw_6) rfl hE.1.2.1 hP hD hS hA (fun _ => rfl) (by decide) (by decide) (by decide) (Nat.le_of_ble_eq_true rfl) (Nat.le_of_ble_eq_true rfl) dX12_init_688 (fun q490 H hP hD hS => ?_)
  have en491 : fs487 = [.int 0, .ref q1, .int 0, .ref q7, .int 0, .ref q13, .ref q19, .ref q25, .ref q31, .int 0, .ref q37, .ref q45, .ref q51, .int 0, .int 0, .int 0, .int 0, .ref q57, .ref q63, .ref q69, .ref q75, .ref q83, .ref q89, .ref q95, .ref q101, .ref q107, .ref q113, .int 0, .ref q121, .ref q127, .ref q133, .int 0, .ref q139, .ref q145, .int 0, .int 0, .ref q151, .ref q159, .ref q165, .ref q171, .ref q177, .ref q183, .ref q189, .ref q197, .int 0, .ref q203, .ref q209, .ref q215, .ref q221, .int 0, .ref q227, .ref q235, .ref q241, .ref q247, .ref q253, .ref q259, .ref q265, .ref q273, .ref q279, .int 0, .int 0, .ref q285, .ref q291, .ref q297, .int 0, .int 0, .int 0, .int 0, .int 0, .int 0, .int 0, .ref q303, .ref q311, .int 0, .int 0, .int 0, .int 0, .int 0, .int 0, .int 0, .int 0, .int 0, .int 0, .int 0, .ref q317, .int 0, .ref q323, .int 0, .ref q329, .ref q335, .ref q341, .ref q349, .ref q355, .ref q361, .ref q367, .ref q373, .ref q379, .int 0, .int 0, .int 0, .ref q387, .int 0, .int 0, .ref q393, .ref q399, .ref q405, .ref q411, .ref q417, .ref q425, .ref q431, .ref q437, .int 0, .ref q443, .ref q449, .ref q455, .int 0, .int (-1), .int 0, .int 0, .int 0, .int 0, .int 0, .int 0, .int 0, .int 0, .int 0, .int 0, .ref q466, .int 0, .ref q472, .int 0, .ref q478, .ref q484, .null] := by rw [e488, e482, e476, e470, e464, e461, en456]; rfl
  obtain ⟨wa492, ew493⟩ : ∃ z : va_W, z = wa485 ++ [(q490, .inl (G.2.1 0, 23000, .inl (fun _ => 0)))] := ⟨_, rfl⟩
  have hP : va_P G.1 pCl ((h0, .inr (9, fs487)) :: wa492) H := by rw [ew493]; exact hP
  have hD : va_D A ((h0, .inr (9, fs487)) :: wa492) := by rw [ew493]; exact hD
  refine W.widen (k := 78) (n := 578524) (Nat.le_of_ble_eq_true rfl) (Nat.le_of_ble_eq_true rfl) ?_
  refine va_putF (D := G.1) (ci := 9) (v := .ref q490) (ty := (.array .int)) (C := RX12) (T := TX12) (N := 134) hx hb hq pin_wsX120 tyX12 tyX12_ok nmX12 hown hE.1.1 hP hD hS 0 rfl rfl 133 (by decide) (by rw [tFX12_133]; exact hq _ pw_1511) (fun _ h9 => h9) (by rw [tFX12_133]) hin (by rw [tFX12_133]; rfl) (by rw [tFX12_133]; decide +kernel) rfl rfl (by rw [hn489]; decide) dX12_init_690 (fun H locs hP hD hS => ?_)
  obtain ⟨fs494, e495⟩ : ∃ z : List Value, z = fs487.set 133 (.ref q490) := ⟨_, rfl⟩
  have hn496 : fs494.length = 134 := by rw [e495, List.length_set]; exact hn489
  have hP : va_P G.1 pCl ((h0, .inr (9, fs494)) :: wa492) H := by rw [e495]; exact hP
  have hD : va_D A ((h0, .inr (9, fs494)) :: wa492) := by rw [e495]; exact hD
  have en497 : fs494 = [.int 0, .ref q1, .int 0, .ref q7, .int 0, .ref q13, .ref q19, .ref q25, .ref q31, .int 0, .ref q37, .ref q45, .ref q51, .int 0, .int 0, .int 0, .int 0, .ref q57, .ref q63, .ref q69, .ref q75, .ref q83, .ref q89, .ref q95, .ref q101, .ref q107, .ref q113, .int 0, .ref q121, .ref q127, .ref q133, .int 0, .ref q139, .ref q145, .int 0, .int 0, .ref q151, .ref q159, .ref q165, .ref q171, .ref q177, .ref q183, .ref q189, .ref q197, .int 0, .ref q203, .ref q209, .ref q215, .ref q221, .int 0, .ref q227, .ref q235, .ref q241, .ref q247, .ref q253, .ref q259, .ref q265, .ref q273, .ref q279, .int 0, .int 0, .ref q285, .ref q291, .ref q297, .int 0, .int 0, .int 0, .int 0, .int 0, .int 0, .int 0, .ref q303, .ref q311, .int 0, .int 0, .int 0, .int 0, .int 0, .int 0, .int 0, .int 0, .int 0, .int 0, .int 0, .ref q317, .int 0, .ref q323, .int 0, .ref q329, .ref q335, .ref q341, .ref q349, .ref q355, .ref q361, .ref q367, .ref q373, .ref q379, .int 0, .int 0, .int 0, .ref q387, .int 0, .int 0, .ref q393, .ref q399, .ref q405, .ref q411, .ref q417, .ref q425, .ref q431, .ref q437, .int 0, .ref q443, .ref q449, .ref q455, .int 0, .int (-1), .int 0, .int 0, .int 0, .int 0, .int 0, .int 0, .int 0, .int 0, .int 0, .int 0, .ref q466, .int 0, .ref q472, .int 0, .ref q478, .ref q484, .ref q490] := by rw [e495, en491]; rfl
  have en498 : wa492 = [(q1, .inl (G.2.1 0, 5000, .inl (fun _ => 0))), (q7, .inl (G.2.1 0, 5000, .inl (fun _ => 0))), (q13, .inl (G.2.1 0, 5001, .inl (fun _ => 0))), (q19, .inl (G.2.1 0, 5001, .inl (fun _ => 0))), (q25, .inl (G.2.1 0, 5001, .inl (fun _ => 0))), (q31, .inl (G.2.1 0, 5001, .inl (fun _ => 0))), (q37, .inl (G.2.1 0, 5100, .inl (fun _ => 0))), (q45, .inl (G.2.1 0, 5100, .inl (fun _ => 0))), (q51, .inl (G.2.1 1, 5100, .inl (fun _ => 0))), (q57, .inl (G.2.1 0, 12000, .inl (fun _ => 0))), (q63, .inl (G.2.1 0, 12000, .inl (fun _ => 0))), (q69, .inl (G.2.1 0, 12000, .inl (fun _ => 0))), (q75, .inl (G.2.1 0, 12000, .inl (fun _ => 0))), (q83, .inl (G.2.1 0, 12000, .inl (fun _ => 0))), (q89, .inl (G.2.1 0, 12000, .inl (fun _ => 0))), (q95, .inl (G.2.1 0, 12000, .inl (fun _ => 0))), (q101, .inl (G.2.1 0, 12000, .inl (fun _ => 0))), (q107, .inl (G.2.1 0, 12000, .inl (fun _ => 0))), (q113, .inl (G.2.1 0, 12000, .inl (fun _ => 0))), (q121, .inl (G.2.1 0, 5000, .inl (fun _ => 0))), (q127, .inl (G.2.1 3, 5000, .inl (fun _ => 0))), (q133, .inl (G.2.1 0, 5000, .inl (fun _ => 0))), (q139, .inl (G.2.1 0, 5000, .inl (fun _ => 0))), (q145, .inl (G.2.1 0, 5000, .inl (fun _ => 0))), (q151, .inl (G.2.1 0, 40, .inl (fun _ => 0))), (q159, .inl (G.2.1 0, 40, .inl (fun _ => 0))), (q165, .inl (G.2.1 3, 40, .inl (fun _ => 0))), (q171, .inl (G.2.1 0, 40, .inl (fun _ => 0))), (q177, .inl (G.2.1 0, 40, .inl (fun _ => 0))), (q183, .inl (G.2.1 0, 40, .inl (fun _ => 0))), (q189, .inl (G.2.1 0, 40, .inl (fun _ => 0))), (q197, .inl (G.2.1 3, 1600, .inl (fun _ => 0))), (q203, .inl (G.2.1 0, 620, .inl (fun _ => 0))), (q209, .inl (G.2.1 0, 620, .inl (fun _ => 0))), (q215, .inl (G.2.1 0, 620, .inl (fun _ => 0))), (q221, .inl (G.2.1 0, 620, .inl (fun _ => 0))), (q227, .inl (G.2.1 0, 920, .inl (fun _ => 0))), (q235, .inl (G.2.1 0, 920, .inl (fun _ => 0))), (q241, .inl (G.2.1 0, 920, .inl (fun _ => 0))), (q247, .inl (G.2.1 0, 920, .inl (fun _ => 0))), (q253, .inl (G.2.1 0, 920, .inl (fun _ => 0))), (q259, .inl (G.2.1 0, 920, .inl (fun _ => 0))), (q265, .inl (G.2.1 0, 920, .inl (fun _ => 0))), (q273, .inl (G.2.1 0, 920, .inl (fun _ => 0))), (q279, .inl (G.2.1 0, 920, .inl (fun _ => 0))), (q285, .inl (G.2.1 0, 5000, .inl (fun _ => 0))), (q291, .inl (G.2.1 0, 5000, .inl (fun _ => 0))), (q297, .inl (G.2.1 0, 5000, .inl (fun _ => 0))), (q303, .inl (G.2.1 0, 40, .inl (fun _ => 0))), (q311, .inl (G.2.1 0, 40, .inl (fun _ => 0))), (q317, .inl (G.2.1 0, 200, .inl (fun _ => 0))), (q323, .inl (G.2.1 0, 400, .inl (fun _ => 0))), (q329, .inl (G.2.1 0, 12000, .inl (fun _ => 0))), (q335, .inl (G.2.1 0, 620, .inl (fun _ => 0))), (q341, .inl (G.2.1 0, 204000, .inl (fun _ => 0))), (q349, .inl (G.2.1 0, 3000, .inl (fun _ => 0))), (q355, .inl (G.2.1 0, 3000, .inl (fun _ => 0))), (q361, .inl (G.2.1 0, 3000, .inl (fun _ => 0))), (q367, .inl (G.2.1 0, 3000, .inl (fun _ => 0))), (q373, .inl (G.2.1 3, 3000, .inl (fun _ => 0))), (q379, .inl (G.2.1 0, 3100, .inl (fun _ => 0))), (q387, .inl (G.2.1 0, 3000, .inl (fun _ => 0))), (q393, .inl (G.2.1 0, 100, .inl (fun _ => 0))), (q399, .inl (G.2.1 0, 100, .inl (fun _ => 0))), (q405, .inl (G.2.1 0, 100, .inl (fun _ => 0))), (q411, .inl (G.2.1 0, 100, .inl (fun _ => 0))), (q417, .inl (G.2.1 0, 3200, .inl (fun _ => 0))), (q425, .inl (G.2.1 3, 3200, .inl (fun _ => 0))), (q431, .inl (G.2.1 0, 40000, .inl (fun _ => 0))), (q437, .inl (G.2.1 3, 40000, .inl (fun _ => 0))), (q443, .inl (G.2.1 0, 2100, .inl (fun _ => 0))), (q449, .inl (G.2.1 0, 2100, .inl (fun _ => 0))), (q455, .inl (G.2.1 3, 2100, .inl (fun _ => 0))), (q466, .inl (G.2.1 0, 3000, .inl (fun _ => 0))), (q472, .inl (G.2.1 0, 3000, .inl (fun _ => 0))), (q478, .inl (G.2.1 0, 40, .inl (fun _ => 0))), (q484, .inl (G.2.1 0, 40, .inl (fun _ => 0))), (q490, .inl (G.2.1 0, 23000, .inl (fun _ => 0)))] := by rw [ew493, ew486, ew480, ew474, ew468, ew459, en457]; rfl
  obtain ⟨a, ha⟩ : ∃ z : Nat → Nat, z = (fun k => match k with | 0 => q1 | 1 => q7 | 2 => q13 | 3 => q19 | 4 => q25 | 5 => q31 | 6 => q37 | 7 => q45 | 8 => q51 | 9 => q57 | 10 => q63 | 11 => q69 | 12 => q75 | 13 => q83 | 14 => q89 | 15 => q95 | 16 => q101 | 17 => q107 | 18 => q113 | 19 => q121 | 20 => q127 | 21 => q133 | 22 => q139 | 23 => q145 | 24 => q151 | 25 => q159 | 26 => q165 | 27 => q171 | 28 => q177 | 29 => q183 | 30 => q189 | 31 => q197 | 32 => q203 | 33 => q209 | 34 => q215 | 35 => q221 | 36 => q227 | 37 => q235 | 38 => q241 | 39 => q247 | 40 => q253 | 41 => q259 | 42 => q265 | 43 => q273 | 44 => q279 | 45 => q285 | 46 => q291 | 47 => q297 | 48 => q303 | 49 => q311 | 50 => q317 | 51 => q323 | 52 => q329 | 53 => q335 | 54 => q341 | 55 => q349 | 56 => q355 | 57 => q361 | 58 => q367 | 59 => q373 | 60 => q379 | 61 => q387 | 62 => q393 | 63 => q399 | 64 => q405 | 65 => q411 | 66 => q417 | 67 => q425 | 68 => q431 | 69 => q437 | 70 => q443 | 71 => q449 | 72 => q455 | 73 => q466 | 74 => q472 | 75 => q478 | 76 => q484 | _ => q490) := ⟨_, rfl⟩
  have hf : fs494 = mF a := by rw [en497, ha]; rfl
  have hw : wa492 = mArr G a := by rw [en498, ha]; rfl
  rw [hf, hw] at hP hD
  exact W.vret hx hb hr (fun t ht hW => ⟨⟨none, a, rfl, rfl, by rw [ht]; exact hP, hD⟩, hS.F ht⟩) hS.2.2 dX12_init_693
