theorem sw_n0 {x k : Int32} (h : x = k) (h0 : ¬ k = 0) (h3 : ¬ k = 3) : ¬ x = 0 ∧ ¬ x = 3 := by
  rw [h]; exact ⟨h0, h3⟩
/-- a list of names: each entry a token's place, the next entry a later one or none -/
def lsRow (lt ln : Nat → Int32) (n T : Nat) : Prop := ∀ i : Nat, i < n → (∃ j : Nat, j ≤ T ∧ lt i = nI j) ∧ (ln i = -1 ∨ ∃ k : Nat, i < k ∧ k < n ∧ ln i = nI k)
theorem lsRow_new {lt ln : Nat → Int32} {n T j : Nat} (h : lsRow lt ln n T) (hj : j ≤ T) : lsRow (upd lt n (nI j)) (upd ln n (-1)) (n + 1) T := fun i hi => by
  unfold upd
  by_cases e : i = n
  · rw [if_pos e, if_pos e]; exact ⟨⟨j, hj, rfl⟩, Or.inl rfl⟩
  · rw [if_neg e, if_neg e]
    obtain ⟨a, b⟩ := h i (by omega)
    exact ⟨a, b.imp id (fun ⟨k, k1, k2, k3⟩ => ⟨k, k1, by omega, k3⟩)⟩
theorem lsRow_link {lt ln : Nat → Int32} {n T p : Nat} (h : lsRow lt ln (n + 1) T) (hp : p < n) : lsRow lt (upd ln p (nI n)) (n + 1) T := fun i hi => by
  obtain ⟨a, b⟩ := h i hi
  unfold upd
  by_cases e : i = p
  · rw [if_pos e]; exact ⟨a, Or.inr ⟨n, by omega, by omega, rfl⟩⟩
  · rw [if_neg e]; exact ⟨a, b⟩
theorem nI_m1 {n : Nat} (h : n < 2 ^ 31) : ¬ nI n = -1 := fun e => by
  have q := congrArg Int32.toInt e
  rw [nI_toInt h] at q
  have w : ((-1 : Int32)).toInt = -1 := by decide
  rw [w] at q
  omega
theorem kz_of {mo a2 T : Nat} (hm : mo ≤ 1) (ha : a2 ≤ T) (hT : T ≤ 5000) : ∃ k : Nat, k ≤ T + 1 ∧ T + 1 ≤ k + 6000 * mo ∧ a2 ≤ k ∧ k + 6000 * mo ≤ a2 + 6000 := by
  rcases (show mo = 0 ∨ mo = 1 by omega) with e | e
  · exact ⟨T + 1, by omega, by omega, by omega, by omega⟩
  · exact ⟨a2, by omega, by omega, by omega, by omega⟩
theorem dX12_strength_0 : decode cX12_strength 0 = .ok (.iload_n 0, 1) := by decide +kernel
theorem dX12_strength_1 : decode cX12_strength 1 = .ok (.lookupswitch 203 #[(37, 200), (38, 187), (42, 200), (43, 197), (45, 197), (47, 200), (60, 191), (62, 191), (94, 185), (124, 183), (256, 191), (257, 191), (258, 189), (259, 189), (260, 181), (261, 179), (262, 194), (263, 194), (264, 194), (310, 191), (325, 191)], 179) := by decide +kernel
theorem dX12_strength_201 : decode cX12_strength 201 = .ok (.bipush 9, 2) := by decide +kernel
theorem dX12_strength_203 : decode cX12_strength 203 = .ok (.ireturn, 1) := by decide +kernel
theorem dX12_strength_188 : decode cX12_strength 188 = .ok (.iconst 4, 1) := by decide +kernel
theorem dX12_strength_189 : decode cX12_strength 189 = .ok (.ireturn, 1) := by decide +kernel
theorem dX12_strength_198 : decode cX12_strength 198 = .ok (.bipush 8, 2) := by decide +kernel
theorem dX12_strength_200 : decode cX12_strength 200 = .ok (.ireturn, 1) := by decide +kernel
theorem dX12_strength_192 : decode cX12_strength 192 = .ok (.bipush 6, 2) := by decide +kernel
theorem dX12_strength_194 : decode cX12_strength 194 = .ok (.ireturn, 1) := by decide +kernel
theorem dX12_strength_186 : decode cX12_strength 186 = .ok (.iconst 3, 1) := by decide +kernel
theorem dX12_strength_187 : decode cX12_strength 187 = .ok (.ireturn, 1) := by decide +kernel
theorem dX12_strength_184 : decode cX12_strength 184 = .ok (.iconst 2, 1) := by decide +kernel
theorem dX12_strength_185 : decode cX12_strength 185 = .ok (.ireturn, 1) := by decide +kernel
theorem dX12_strength_190 : decode cX12_strength 190 = .ok (.iconst 5, 1) := by decide +kernel
theorem dX12_strength_191 : decode cX12_strength 191 = .ok (.ireturn, 1) := by decide +kernel
theorem dX12_strength_182 : decode cX12_strength 182 = .ok (.iconst 1, 1) := by decide +kernel
theorem dX12_strength_183 : decode cX12_strength 183 = .ok (.ireturn, 1) := by decide +kernel
theorem dX12_strength_180 : decode cX12_strength 180 = .ok (.iconst 0, 1) := by decide +kernel
theorem dX12_strength_181 : decode cX12_strength 181 = .ok (.ireturn, 1) := by decide +kernel
theorem dX12_strength_195 : decode cX12_strength 195 = .ok (.bipush 7, 2) := by decide +kernel
theorem dX12_strength_197 : decode cX12_strength 197 = .ok (.ireturn, 1) := by decide +kernel
theorem dX12_strength_204 : decode cX12_strength 204 = .ok (.iconst (-1), 1) := by decide +kernel
theorem dX12_strength_205 : decode cX12_strength 205 = .ok (.ireturn, 1) := by decide +kernel
set_option maxHeartbeats 1000000 in
set_option maxRecDepth 100000 in
/-- strength(kind) -/
theorem s_strength (l : Launch) (G : pT) (x : Int32) : PM l G pX0 yX12_strength cX12_strength 1 (some .int) ({ frames := 2, cells := 0, slots := 0, locals := 60 }) [.int x] [] (fun (v : Option Value) (u : Unit) => ∃ r : Int32, v = some (.int r) ∧ (r = -1 ∨ (¬ x = 0 ∧ ¬ x = 3))) (fun u => []) := by
  intro sz
  refine Met.ofW (cc := cX12_strength) (maxL := 1) (ret := (some .int)) (by decide) rfl ?_
  intro p e s m args below meth c s₁ B hml hv
  obtain ⟨rfl, hsz, hP, hD0, hE, hX⟩ := hv
  have hx := B.exec
  have hb := B.bytes
  have hr := B.returns
  have hts := atoms_spec (ws := Cond.code yX12_strength cX12_strength 1 (some .int) :: pw) B.pre
  have hq : ∀ w ∈ pw, w.before _ s = true := fun w h => hts w (List.mem_cons_of_mem _ h)
  have hown : s.vm.findClass RX12 = some m.cls := findClass_of_methodNamed B.named
  have hlocks := B.notSynchronized
  subst hsz
  have hD := hD0.self (sz := s.heap.size)
  have hA : ∀ q : Nat, s.heap.size ≤ q → va_A [] s.heap.size q := fun q h => Or.inr h
  have hP : va_P G.1 pCl [] s.heap := hP
  generalize va_A [] s.heap.size = A at hD hE hA ⊢
  have hS : va_S A s.heap s.heap [] := va_S.rf
  have hl := lv_entry ([.int x]) (n := 1) (Nat.le_of_ble_eq_true rfl)
  rw [lg_entry_eq]
  generalize (lg_sl ([.int x]) ++ List.replicate (1 - (lg_sl ([.int x])).length) Slot.unset).toArray = ls at hl ⊢
  have hl : lv_has ls 1 [(0, .int x)] := hl
  refine lv_iload_n hx hb dX12_strength_0 rfl (lv_at hl 0 rfl) ?_
  by_cases h1 : x = 37
  · refine lv_lookup (tgt := 201) (off := 200) hx hb dX12_strength_1 (by decide) (by rw [h1]; decide) (by decide) ?_
    refine lv_bipush (v := 9) hx hb dX12_strength_201 (by decide) ?_
    refine W.widen (k := 0) (n := 0) (Nat.le_of_ble_eq_true rfl) (Nat.le_of_ble_eq_true rfl) ?_
    exact W.iret (v := 9) hx hb hr (fun t ht hW => ⟨⟨_, (), rfl, ⟨_, rfl, Or.inr (sw_n0 h1 (by decide) (by decide))⟩, by rw [ht]; exact hP.sub [] rfl, hD.sub [] (by decide) rfl⟩, hS.F ht⟩) hS.2.2 dX12_strength_203
  by_cases h2 : x = 38
  · refine lv_lookup (tgt := 188) (off := 187) hx hb dX12_strength_1 (by decide) (by rw [h2]; decide) (by decide) ?_
    refine lv_iconst (v := 4) hx hb dX12_strength_188 (by decide) ?_
    refine W.widen (k := 0) (n := 0) (Nat.le_of_ble_eq_true rfl) (Nat.le_of_ble_eq_true rfl) ?_
    exact W.iret (v := 4) hx hb hr (fun t ht hW => ⟨⟨_, (), rfl, ⟨_, rfl, Or.inr (sw_n0 h2 (by decide) (by decide))⟩, by rw [ht]; exact hP.sub [] rfl, hD.sub [] (by decide) rfl⟩, hS.F ht⟩) hS.2.2 dX12_strength_189
  by_cases h3 : x = 42
  · refine lv_lookup (tgt := 201) (off := 200) hx hb dX12_strength_1 (by decide) (by rw [h3]; decide) (by decide) ?_
    refine lv_bipush (v := 9) hx hb dX12_strength_201 (by decide) ?_
    refine W.widen (k := 0) (n := 0) (Nat.le_of_ble_eq_true rfl) (Nat.le_of_ble_eq_true rfl) ?_
    exact W.iret (v := 9) hx hb hr (fun t ht hW => ⟨⟨_, (), rfl, ⟨_, rfl, Or.inr (sw_n0 h3 (by decide) (by decide))⟩, by rw [ht]; exact hP.sub [] rfl, hD.sub [] (by decide) rfl⟩, hS.F ht⟩) hS.2.2 dX12_strength_203
  by_cases h4 : x = 43
  · refine lv_lookup (tgt := 198) (off := 197) hx hb dX12_strength_1 (by decide) (by rw [h4]; decide) (by decide) ?_
    refine lv_bipush (v := 8) hx hb dX12_strength_198 (by decide) ?_
    refine W.widen (k := 0) (n := 0) (Nat.le_of_ble_eq_true rfl) (Nat.le_of_ble_eq_true rfl) ?_
    exact W.iret (v := 8) hx hb hr (fun t ht hW => ⟨⟨_, (), rfl, ⟨_, rfl, Or.inr (sw_n0 h4 (by decide) (by decide))⟩, by rw [ht]; exact hP.sub [] rfl, hD.sub [] (by decide) rfl⟩, hS.F ht⟩) hS.2.2 dX12_strength_200
  by_cases h5 : x = 45
  · refine lv_lookup (tgt := 198) (off := 197) hx hb dX12_strength_1 (by decide) (by rw [h5]; decide) (by decide) ?_
    refine lv_bipush (v := 8) hx hb dX12_strength_198 (by decide) ?_
    refine W.widen (k := 0) (n := 0) (Nat.le_of_ble_eq_true rfl) (Nat.le_of_ble_eq_true rfl) ?_
    exact W.iret (v := 8) hx hb hr (fun t ht hW => ⟨⟨_, (), rfl, ⟨_, rfl, Or.inr (sw_n0 h5 (by decide) (by decide))⟩, by rw [ht]; exact hP.sub [] rfl, hD.sub [] (by decide) rfl⟩, hS.F ht⟩) hS.2.2 dX12_strength_200
  by_cases h6 : x = 47
  · refine lv_lookup (tgt := 201) (off := 200) hx hb dX12_strength_1 (by decide) (by rw [h6]; decide) (by decide) ?_
    refine lv_bipush (v := 9) hx hb dX12_strength_201 (by decide) ?_
    refine W.widen (k := 0) (n := 0) (Nat.le_of_ble_eq_true rfl) (Nat.le_of_ble_eq_true rfl) ?_
    exact W.iret (v := 9) hx hb hr (fun t ht hW => ⟨⟨_, (), rfl, ⟨_, rfl, Or.inr (sw_n0 h6 (by decide) (by decide))⟩, by rw [ht]; exact hP.sub [] rfl, hD.sub [] (by decide) rfl⟩, hS.F ht⟩) hS.2.2 dX12_strength_203
  by_cases h7 : x = 60
  · refine lv_lookup (tgt := 192) (off := 191) hx hb dX12_strength_1 (by decide) (by rw [h7]; decide) (by decide) ?_
    refine lv_bipush (v := 6) hx hb dX12_strength_192 (by decide) ?_
    refine W.widen (k := 0) (n := 0) (Nat.le_of_ble_eq_true rfl) (Nat.le_of_ble_eq_true rfl) ?_
    exact W.iret (v := 6) hx hb hr (fun t ht hW => ⟨⟨_, (), rfl, ⟨_, rfl, Or.inr (sw_n0 h7 (by decide) (by decide))⟩, by rw [ht]; exact hP.sub [] rfl, hD.sub [] (by decide) rfl⟩, hS.F ht⟩) hS.2.2 dX12_strength_194
  by_cases h8 : x = 62
  · refine lv_lookup (tgt := 192) (off := 191) hx hb dX12_strength_1 (by decide) (by rw [h8]; decide) (by decide) ?_
    refine lv_bipush (v := 6) hx hb dX12_strength_192 (by decide) ?_
    refine W.widen (k := 0) (n := 0) (Nat.le_of_ble_eq_true rfl) (Nat.le_of_ble_eq_true rfl) ?_
    exact W.iret (v := 6) hx hb hr (fun t ht hW => ⟨⟨_, (), rfl, ⟨_, rfl, Or.inr (sw_n0 h8 (by decide) (by decide))⟩, by rw [ht]; exact hP.sub [] rfl, hD.sub [] (by decide) rfl⟩, hS.F ht⟩) hS.2.2 dX12_strength_194
  by_cases h9 : x = 94
  · refine lv_lookup (tgt := 186) (off := 185) hx hb dX12_strength_1 (by decide) (by rw [h9]; decide) (by decide) ?_
    refine lv_iconst (v := 3) hx hb dX12_strength_186 (by decide) ?_
    refine W.widen (k := 0) (n := 0) (Nat.le_of_ble_eq_true rfl) (Nat.le_of_ble_eq_true rfl) ?_
    exact W.iret (v := 3) hx hb hr (fun t ht hW => ⟨⟨_, (), rfl, ⟨_, rfl, Or.inr (sw_n0 h9 (by decide) (by decide))⟩, by rw [ht]; exact hP.sub [] rfl, hD.sub [] (by decide) rfl⟩, hS.F ht⟩) hS.2.2 dX12_strength_187
  by_cases h10 : x = 124
  · refine lv_lookup (tgt := 184) (off := 183) hx hb dX12_strength_1 (by decide) (by rw [h10]; decide) (by decide) ?_
    refine lv_iconst (v := 2) hx hb dX12_strength_184 (by decide) ?_
    refine W.widen (k := 0) (n := 0) (Nat.le_of_ble_eq_true rfl) (Nat.le_of_ble_eq_true rfl) ?_
    exact W.iret (v := 2) hx hb hr (fun t ht hW => ⟨⟨_, (), rfl, ⟨_, rfl, Or.inr (sw_n0 h10 (by decide) (by decide))⟩, by rw [ht]; exact hP.sub [] rfl, hD.sub [] (by decide) rfl⟩, hS.F ht⟩) hS.2.2 dX12_strength_185
  by_cases h11 : x = 256
  · refine lv_lookup (tgt := 192) (off := 191) hx hb dX12_strength_1 (by decide) (by rw [h11]; decide) (by decide) ?_
    refine lv_bipush (v := 6) hx hb dX12_strength_192 (by decide) ?_
    refine W.widen (k := 0) (n := 0) (Nat.le_of_ble_eq_true rfl) (Nat.le_of_ble_eq_true rfl) ?_
    exact W.iret (v := 6) hx hb hr (fun t ht hW => ⟨⟨_, (), rfl, ⟨_, rfl, Or.inr (sw_n0 h11 (by decide) (by decide))⟩, by rw [ht]; exact hP.sub [] rfl, hD.sub [] (by decide) rfl⟩, hS.F ht⟩) hS.2.2 dX12_strength_194
  by_cases h12 : x = 257
  · refine lv_lookup (tgt := 192) (off := 191) hx hb dX12_strength_1 (by decide) (by rw [h12]; decide) (by decide) ?_
    refine lv_bipush (v := 6) hx hb dX12_strength_192 (by decide) ?_
    refine W.widen (k := 0) (n := 0) (Nat.le_of_ble_eq_true rfl) (Nat.le_of_ble_eq_true rfl) ?_
    exact W.iret (v := 6) hx hb hr (fun t ht hW => ⟨⟨_, (), rfl, ⟨_, rfl, Or.inr (sw_n0 h12 (by decide) (by decide))⟩, by rw [ht]; exact hP.sub [] rfl, hD.sub [] (by decide) rfl⟩, hS.F ht⟩) hS.2.2 dX12_strength_194
  by_cases h13 : x = 258
  · refine lv_lookup (tgt := 190) (off := 189) hx hb dX12_strength_1 (by decide) (by rw [h13]; decide) (by decide) ?_
    refine lv_iconst (v := 5) hx hb dX12_strength_190 (by decide) ?_
    refine W.widen (k := 0) (n := 0) (Nat.le_of_ble_eq_true rfl) (Nat.le_of_ble_eq_true rfl) ?_
    exact W.iret (v := 5) hx hb hr (fun t ht hW => ⟨⟨_, (), rfl, ⟨_, rfl, Or.inr (sw_n0 h13 (by decide) (by decide))⟩, by rw [ht]; exact hP.sub [] rfl, hD.sub [] (by decide) rfl⟩, hS.F ht⟩) hS.2.2 dX12_strength_191
  by_cases h14 : x = 259
  · refine lv_lookup (tgt := 190) (off := 189) hx hb dX12_strength_1 (by decide) (by rw [h14]; decide) (by decide) ?_
    refine lv_iconst (v := 5) hx hb dX12_strength_190 (by decide) ?_
    refine W.widen (k := 0) (n := 0) (Nat.le_of_ble_eq_true rfl) (Nat.le_of_ble_eq_true rfl) ?_
    exact W.iret (v := 5) hx hb hr (fun t ht hW => ⟨⟨_, (), rfl, ⟨_, rfl, Or.inr (sw_n0 h14 (by decide) (by decide))⟩, by rw [ht]; exact hP.sub [] rfl, hD.sub [] (by decide) rfl⟩, hS.F ht⟩) hS.2.2 dX12_strength_191
  by_cases h15 : x = 260
  · refine lv_lookup (tgt := 182) (off := 181) hx hb dX12_strength_1 (by decide) (by rw [h15]; decide) (by decide) ?_
    refine lv_iconst (v := 1) hx hb dX12_strength_182 (by decide) ?_
    refine W.widen (k := 0) (n := 0) (Nat.le_of_ble_eq_true rfl) (Nat.le_of_ble_eq_true rfl) ?_
    exact W.iret (v := 1) hx hb hr (fun t ht hW => ⟨⟨_, (), rfl, ⟨_, rfl, Or.inr (sw_n0 h15 (by decide) (by decide))⟩, by rw [ht]; exact hP.sub [] rfl, hD.sub [] (by decide) rfl⟩, hS.F ht⟩) hS.2.2 dX12_strength_183
  by_cases h16 : x = 261
  · refine lv_lookup (tgt := 180) (off := 179) hx hb dX12_strength_1 (by decide) (by rw [h16]; decide) (by decide) ?_
    refine lv_iconst (v := 0) hx hb dX12_strength_180 (by decide) ?_
    refine W.widen (k := 0) (n := 0) (Nat.le_of_ble_eq_true rfl) (Nat.le_of_ble_eq_true rfl) ?_
    exact W.iret (v := 0) hx hb hr (fun t ht hW => ⟨⟨_, (), rfl, ⟨_, rfl, Or.inr (sw_n0 h16 (by decide) (by decide))⟩, by rw [ht]; exact hP.sub [] rfl, hD.sub [] (by decide) rfl⟩, hS.F ht⟩) hS.2.2 dX12_strength_181
  by_cases h17 : x = 262
  · refine lv_lookup (tgt := 195) (off := 194) hx hb dX12_strength_1 (by decide) (by rw [h17]; decide) (by decide) ?_
    refine lv_bipush (v := 7) hx hb dX12_strength_195 (by decide) ?_
    refine W.widen (k := 0) (n := 0) (Nat.le_of_ble_eq_true rfl) (Nat.le_of_ble_eq_true rfl) ?_
    exact W.iret (v := 7) hx hb hr (fun t ht hW => ⟨⟨_, (), rfl, ⟨_, rfl, Or.inr (sw_n0 h17 (by decide) (by decide))⟩, by rw [ht]; exact hP.sub [] rfl, hD.sub [] (by decide) rfl⟩, hS.F ht⟩) hS.2.2 dX12_strength_197
  by_cases h18 : x = 263
  · refine lv_lookup (tgt := 195) (off := 194) hx hb dX12_strength_1 (by decide) (by rw [h18]; decide) (by decide) ?_
    refine lv_bipush (v := 7) hx hb dX12_strength_195 (by decide) ?_
    refine W.widen (k := 0) (n := 0) (Nat.le_of_ble_eq_true rfl) (Nat.le_of_ble_eq_true rfl) ?_
    exact W.iret (v := 7) hx hb hr (fun t ht hW => ⟨⟨_, (), rfl, ⟨_, rfl, Or.inr (sw_n0 h18 (by decide) (by decide))⟩, by rw [ht]; exact hP.sub [] rfl, hD.sub [] (by decide) rfl⟩, hS.F ht⟩) hS.2.2 dX12_strength_197
  by_cases h19 : x = 264
  · refine lv_lookup (tgt := 195) (off := 194) hx hb dX12_strength_1 (by decide) (by rw [h19]; decide) (by decide) ?_
    refine lv_bipush (v := 7) hx hb dX12_strength_195 (by decide) ?_
    refine W.widen (k := 0) (n := 0) (Nat.le_of_ble_eq_true rfl) (Nat.le_of_ble_eq_true rfl) ?_
    exact W.iret (v := 7) hx hb hr (fun t ht hW => ⟨⟨_, (), rfl, ⟨_, rfl, Or.inr (sw_n0 h19 (by decide) (by decide))⟩, by rw [ht]; exact hP.sub [] rfl, hD.sub [] (by decide) rfl⟩, hS.F ht⟩) hS.2.2 dX12_strength_197
  by_cases h20 : x = 310
  · refine lv_lookup (tgt := 192) (off := 191) hx hb dX12_strength_1 (by decide) (by rw [h20]; decide) (by decide) ?_
    refine lv_bipush (v := 6) hx hb dX12_strength_192 (by decide) ?_
    refine W.widen (k := 0) (n := 0) (Nat.le_of_ble_eq_true rfl) (Nat.le_of_ble_eq_true rfl) ?_
    exact W.iret (v := 6) hx hb hr (fun t ht hW => ⟨⟨_, (), rfl, ⟨_, rfl, Or.inr (sw_n0 h20 (by decide) (by decide))⟩, by rw [ht]; exact hP.sub [] rfl, hD.sub [] (by decide) rfl⟩, hS.F ht⟩) hS.2.2 dX12_strength_194
  by_cases h21 : x = 325
  · refine lv_lookup (tgt := 192) (off := 191) hx hb dX12_strength_1 (by decide) (by rw [h21]; decide) (by decide) ?_
    refine lv_bipush (v := 6) hx hb dX12_strength_192 (by decide) ?_
    refine W.widen (k := 0) (n := 0) (Nat.le_of_ble_eq_true rfl) (Nat.le_of_ble_eq_true rfl) ?_
    exact W.iret (v := 6) hx hb hr (fun t ht hW => ⟨⟨_, (), rfl, ⟨_, rfl, Or.inr (sw_n0 h21 (by decide) (by decide))⟩, by rw [ht]; exact hP.sub [] rfl, hD.sub [] (by decide) rfl⟩, hS.F ht⟩) hS.2.2 dX12_strength_194
  refine lv_lookup (tgt := 204) (off := 203) hx hb dX12_strength_1 (by decide) ((lv_osw h1 (by decide)).trans ((lv_osw h2 (by decide)).trans ((lv_osw h3 (by decide)).trans ((lv_osw h4 (by decide)).trans ((lv_osw h5 (by decide)).trans ((lv_osw h6 (by decide)).trans ((lv_osw h7 (by decide)).trans ((lv_osw h8 (by decide)).trans ((lv_osw h9 (by decide)).trans ((lv_osw h10 (by decide)).trans ((lv_osw h11 (by decide)).trans ((lv_osw h12 (by decide)).trans ((lv_osw h13 (by decide)).trans ((lv_osw h14 (by decide)).trans ((lv_osw h15 (by decide)).trans ((lv_osw h16 (by decide)).trans ((lv_osw h17 (by decide)).trans ((lv_osw h18 (by decide)).trans ((lv_osw h19 (by decide)).trans ((lv_osw h20 (by decide)).trans ((lv_osw h21 (by decide)).trans rfl))))))))))))))))))))) (by decide) ?_
  refine lv_iconst (v := (-1)) hx hb dX12_strength_204 (by decide) ?_
  refine W.widen (k := 0) (n := 0) (Nat.le_of_ble_eq_true rfl) (Nat.le_of_ble_eq_true rfl) ?_
  exact W.iret (v := (-1)) hx hb hr (fun t ht hW => ⟨⟨_, (), rfl, ⟨_, rfl, Or.inl rfl⟩, by rw [ht]; exact hP.sub [] rfl, hD.sub [] (by decide) rfl⟩, hS.F ht⟩) hS.2.2 dX12_strength_205
theorem dX12_listOfNames_0 : decode cX12_listOfNames 0 = .ok (.iconst (-1), 1) := by decide +kernel
theorem dX12_listOfNames_1 : decode cX12_listOfNames 1 = .ok (.istore_n 1, 1) := by decide +kernel
theorem dX12_listOfNames_2 : decode cX12_listOfNames 2 = .ok (.iconst (-1), 1) := by decide +kernel
theorem dX12_listOfNames_3 : decode cX12_listOfNames 3 = .ok (.istore_n 2, 1) := by decide +kernel
theorem dX12_listOfNames_4 : decode cX12_listOfNames 4 = .ok (.iconst 1, 1) := by decide +kernel
theorem dX12_listOfNames_5 : decode cX12_listOfNames 5 = .ok (.istore_n 3, 1) := by decide +kernel
theorem dX12_listOfNames_6 : decode cX12_listOfNames 6 = .ok (.iload_n 3, 1) := by decide +kernel
theorem dX12_listOfNames_7 : decode cX12_listOfNames 7 = .ok (.ifCond .eq 83, 3) := by decide +kernel
theorem dX12_listOfNames_90 : decode cX12_listOfNames 90 = .ok (.iload_n 1, 1) := by decide +kernel
theorem dX12_listOfNames_91 : decode cX12_listOfNames 91 = .ok (.ireturn, 1) := by decide +kernel
theorem dX12_listOfNames_10 : decode cX12_listOfNames 10 = .ok (.aload_n 0, 1) := by decide +kernel
theorem dX12_listOfNames_11 : decode cX12_listOfNames 11 = .ok (.getfield 350, 3) := by decide +kernel
theorem dX12_listOfNames_14 : decode cX12_listOfNames 14 = .ok (.ifCond .ne 76, 3) := by decide +kernel
theorem dX12_listOfNames_17 : decode cX12_listOfNames 17 = .ok (.aload_n 0, 1) := by decide +kernel
theorem dX12_listOfNames_18 : decode cX12_listOfNames 18 = .ok (.getfield 372, 3) := by decide +kernel
theorem dX12_listOfNames_21 : decode cX12_listOfNames 21 = .ok (.istore 4, 2) := by decide +kernel
theorem dX12_listOfNames_23 : decode cX12_listOfNames 23 = .ok (.aload_n 0, 1) := by decide +kernel
theorem dX12_listOfNames_24 : decode cX12_listOfNames 24 = .ok (.dup, 1) := by decide +kernel
theorem dX12_listOfNames_25 : decode cX12_listOfNames 25 = .ok (.getfield 372, 3) := by decide +kernel
theorem dX12_listOfNames_28 : decode cX12_listOfNames 28 = .ok (.iconst 1, 1) := by decide +kernel
theorem dX12_listOfNames_29 : decode cX12_listOfNames 29 = .ok (.iadd, 1) := by decide +kernel
theorem dX12_listOfNames_30 : decode cX12_listOfNames 30 = .ok (.putfield 372, 3) := by decide +kernel
theorem dX12_listOfNames_33 : decode cX12_listOfNames 33 = .ok (.aload_n 0, 1) := by decide +kernel
theorem dX12_listOfNames_34 : decode cX12_listOfNames 34 = .ok (.getfield 78, 3) := by decide +kernel
theorem dX12_listOfNames_37 : decode cX12_listOfNames 37 = .ok (.iload 4, 2) := by decide +kernel
theorem dX12_listOfNames_39 : decode cX12_listOfNames 39 = .ok (.aload_n 0, 1) := by decide +kernel
theorem dX12_listOfNames_40 : decode cX12_listOfNames 40 = .ok (.invokevirtual 375, 3) := by decide +kernel
theorem dX12_listOfNames_43 : decode cX12_listOfNames 43 = .ok (.iastore, 1) := by decide +kernel
theorem dX12_listOfNames_44 : decode cX12_listOfNames 44 = .ok (.aload_n 0, 1) := by decide +kernel
theorem dX12_listOfNames_45 : decode cX12_listOfNames 45 = .ok (.getfield 81, 3) := by decide +kernel
theorem dX12_listOfNames_48 : decode cX12_listOfNames 48 = .ok (.iload 4, 2) := by decide +kernel
theorem dX12_listOfNames_50 : decode cX12_listOfNames 50 = .ok (.iconst (-1), 1) := by decide +kernel
theorem dX12_listOfNames_51 : decode cX12_listOfNames 51 = .ok (.iastore, 1) := by decide +kernel
theorem dX12_listOfNames_52 : decode cX12_listOfNames 52 = .ok (.iload_n 1, 1) := by decide +kernel
theorem dX12_listOfNames_53 : decode cX12_listOfNames 53 = .ok (.iconst (-1), 1) := by decide +kernel
theorem dX12_listOfNames_54 : decode cX12_listOfNames 54 = .ok (.if_icmp .ne 8, 3) := by decide +kernel
theorem dX12_listOfNames_62 : decode cX12_listOfNames 62 = .ok (.iload_n 1, 1) := by decide +kernel
theorem dX12_listOfNames_63 : decode cX12_listOfNames 63 = .ok (.istore_n 1, 1) := by decide +kernel
theorem dX12_listOfNames_64 : decode cX12_listOfNames 64 = .ok (.iload_n 2, 1) := by decide +kernel
theorem dX12_listOfNames_65 : decode cX12_listOfNames 65 = .ok (.iconst (-1), 1) := by decide +kernel
theorem dX12_listOfNames_66 : decode cX12_listOfNames 66 = .ok (.if_icmp .eq 11, 3) := by decide +kernel
theorem dX12_listOfNames_77 : decode cX12_listOfNames 77 = .ok (.iload 4, 2) := by decide +kernel
theorem dX12_listOfNames_79 : decode cX12_listOfNames 79 = .ok (.istore_n 2, 1) := by decide +kernel
theorem dX12_listOfNames_80 : decode cX12_listOfNames 80 = .ok (.aload_n 0, 1) := by decide +kernel
theorem dX12_listOfNames_81 : decode cX12_listOfNames 81 = .ok (.bipush 44, 2) := by decide +kernel
theorem dX12_listOfNames_83 : decode cX12_listOfNames 83 = .ok (.invokevirtual 378, 3) := by decide +kernel
theorem dX12_listOfNames_86 : decode cX12_listOfNames 86 = .ok (.istore_n 3, 1) := by decide +kernel
theorem dX12_listOfNames_87 : decode cX12_listOfNames 87 = .ok (.goto (-81), 3) := by decide +kernel
theorem dX12_listOfNames_69 : decode cX12_listOfNames 69 = .ok (.aload_n 0, 1) := by decide +kernel
theorem dX12_listOfNames_70 : decode cX12_listOfNames 70 = .ok (.getfield 81, 3) := by decide +kernel
theorem dX12_listOfNames_73 : decode cX12_listOfNames 73 = .ok (.iload_n 2, 1) := by decide +kernel
theorem dX12_listOfNames_74 : decode cX12_listOfNames 74 = .ok (.iload 4, 2) := by decide +kernel
theorem dX12_listOfNames_76 : decode cX12_listOfNames 76 = .ok (.iastore, 1) := by decide +kernel
theorem dX12_listOfNames_57 : decode cX12_listOfNames 57 = .ok (.iload 4, 2) := by decide +kernel
theorem dX12_listOfNames_59 : decode cX12_listOfNames 59 = .ok (.goto 4, 3) := by decide +kernel
theorem hV_X12_name : yX12_name.cls = RX12 ∧ yX12_name.cls ≠ "java/lang/invoke/MethodHandle" ∧ yX12_name.cls ≠ "java/lang/invoke/VarHandle" ∧ (parseMethodDescriptor yX12_name.desc).map (fun d => d.parameters.length) = some 0 := by decide +kernel
set_option maxHeartbeats 2000000 in
set_option maxRecDepth 100000 in
/-- listOfNames() -/
theorem R_listOfNames (l : Launch) (G : pT) (h0 : Nat) (a : Nat → Nat) (F : Nat → Int32) (B : Nat → Nat → Int32) (at0 : Nat) (T : Nat) (fa : Nat) (K : Nat → Int32) (ls0 : Nat) (lt0 : Nat → Int32) (ln0 : Nat → Int32) (hat : at0 ≤ T) (hT : T ≤ 5000) (hK : K T = 0 ∨ K T = 3) (hfa : fa ≤ 100) (hls0 : ls0 + 1 ≤ at0) (hlr : lsRow lt0 ln0 ls0 T) : PM l G pX0 yX12_listOfNames cX12_listOfNames 5 (some .int) ({ frames := 6, cells := 0, slots := 0, locals := 145 }) [.ref h0] (mW G h0 a (upd (upd (upd F 15 (nI fa)) 34 (nI ls0)) 64 (nI at0)) (updA (updA (updA B 2 K) 22 lt0) 23 ln0)) (fun (v : Option Value) (u : Nat × Nat × Int32 × Nat × (Nat → Int32) × (Nat → Int32) × Int32) => v = some (.int u.2.2.2.2.2.2) ∧ (at0 ≤ u.1) ∧ (u.1 ≤ T) ∧ (fa ≤ u.2.1) ∧ (u.2.1 ≤ 100) ∧ (If (0 < fa) (u.1 = at0 ∧ u.2.1 = fa)) ∧ (ls0 ≤ u.2.2.2.1) ∧ (u.2.2.2.1 + at0 ≤ ls0 + u.1 + u.2.1) ∧ (u.2.2.2.1 + at0 ≤ ls0 + u.1 + 1) ∧ (lsRow u.2.2.2.2.1 u.2.2.2.2.2.1 u.2.2.2.1 T) ∧ (u.2.2.2.2.2.2 = -1 ∨ ∃ p : Nat, p < u.2.2.2.1 ∧ u.2.2.2.2.2.2 = nI p) ∧ (If (0 < fa) (u.2.2.2.1 = ls0))) (fun u => (mW G h0 a (upd (upd (upd (upd F 15 (nI u.2.1)) 16 u.2.2.1) 34 (nI u.2.2.2.1)) 64 (nI u.1)) (updA (updA (updA B 2 K) 22 u.2.2.2.2.1) 23 u.2.2.2.2.2.1))) := by
  intro sz
  refine Met.ofW (cc := cX12_listOfNames) (maxL := 5) (ret := (some .int)) (by decide) rfl ?_
  intro p e s m args below meth c s₁ B9 hml hv
  obtain ⟨rfl, hsz, hP, hD0, hE, hX⟩ := hv
  have hx := B9.exec
  have hb := B9.bytes
  have hr := B9.returns
  have hts := atoms_spec (ws := Cond.code yX12_listOfNames cX12_listOfNames 5 (some .int) :: pw) B9.pre
  have hq : ∀ w ∈ pw, w.before _ s = true := fun w h => hts w (List.mem_cons_of_mem _ h)
  have hown : s.vm.findClass RX12 = some m.cls := findClass_of_methodNamed B9.named
  have hlocks := B9.notSynchronized
  subst hsz
  have hD := hD0.self (sz := s.heap.size)
  have hA : ∀ q : Nat, s.heap.size ≤ q → va_A (mW G h0 a (upd (upd (upd F 15 (nI fa)) 34 (nI ls0)) 64 (nI at0)) (updA (updA (updA B 2 K) 22 lt0) 23 ln0)) s.heap.size q := fun q h => Or.inr h
  have hP : va_P G.1 pCl (mW G h0 a (upd (upd (upd F 15 (nI fa)) 34 (nI ls0)) 64 (nI at0)) (updA (updA (updA B 2 K) 22 lt0) 23 ln0)) s.heap := hP
  generalize va_A (mW G h0 a (upd (upd (upd F 15 (nI fa)) 34 (nI ls0)) 64 (nI at0)) (updA (updA (updA B 2 K) 22 lt0) 23 ln0)) s.heap.size = A at hD hE hA ⊢
  have hS : va_S A s.heap s.heap [] := va_S.rf
  have hl := lv_entry ([.ref h0]) (n := 5) (Nat.le_of_ble_eq_true rfl)
  rw [lg_entry_eq]
  generalize (lg_sl ([.ref h0]) ++ List.replicate (5 - (lg_sl ([.ref h0])).length) Slot.unset).toArray = ls at hl ⊢
  have hl : lv_has ls 5 [(0, .ref h0)] := hl
  refine lv_iconst (v := (-1)) hx hb dX12_listOfNames_0 (by decide) ?_
  refine lv_istore_n (lv' := [(1, .int (-1)), (0, .ref h0)]) hx hb dX12_listOfNames_1 rfl hl (by decide) rfl (fun ls hl => ?_)
  refine lv_iconst (v := (-1)) hx hb dX12_listOfNames_2 (by decide) ?_
  refine lv_istore_n (lv' := [(2, .int (-1)), (1, .int (-1)), (0, .ref h0)]) hx hb dX12_listOfNames_3 rfl hl (by decide) rfl (fun ls hl => ?_)
  refine lv_iconst (v := 1) hx hb dX12_listOfNames_4 (by decide) ?_
  refine lv_istore_n (lv' := [(3, .int 1), (2, .int (-1)), (1, .int (-1)), (0, .ref h0)]) hx hb dX12_listOfNames_5 rfl hl (by decide) rfl (fun ls hl => ?_)
  have loop_o : ∀ (n_o : Nat) (kz : Nat) (at2 : Nat) (fa2 : Nat) (lz : Nat) (mo : Nat) (pl2 : Int32) (fi : Int32) (la : Int32) (lt : Nat → Int32) (ln : Nat → Int32) (H : Heap) (locs : List Loc) (ls : Array Slot), kz ≤ (T + 1) → (T + 1) + 1 ≤ kz + n_o → (mo ≤ 1) → (T + 1 ≤ kz + 6000 * mo) → (at2 ≤ kz) → (kz + 6000 * mo ≤ at2 + 6000) → (at0 ≤ at2) → (at2 ≤ T) → (fa ≤ fa2) → (fa2 ≤ 100) → (ls0 ≤ lz) → (lz + at0 ≤ ls0 + at2 + fa2) → (lz + at0 ≤ ls0 + at2 + 1) → (If (0 < fa) (at2 = at0 ∧ fa2 = fa)) → (If (0 < fa) (lz = ls0)) → (lsRow lt ln lz T) → (fi = -1 ∨ ∃ p : Nat, p < lz ∧ fi = nI p) → (la = -1 ∨ ∃ p : Nat, p < lz ∧ la = nI p) → va_P G.1 pCl (mW G h0 a (upd (upd (upd (upd F 15 (nI fa2)) 16 pl2) 34 (nI lz)) 64 (nI at2)) (updA (updA (updA B 2 K) 22 lt) 23 ln)) H → va_D A (mW G h0 a (upd (upd (upd (upd F 15 (nI fa2)) 16 pl2) 34 (nI lz)) 64 (nI at2)) (updA (updA (updA B 2 K) 22 lt) 23 ln)) → va_S A s.heap H locs → lv_has ls 5 [(3, .int (nI mo)), (2, .int la), (1, .int fi), (0, .ref h0)] → W p l e (headSpec (Cond.code yX12_listOfNames cX12_listOfNames 5 (some .int) :: pw) ({ frames := 6, cells := 0, slots := 0, locals := 145 } : Room)).room s m ([.ref h0] : List Value).toArray below meth c H locs 0 0 (MQ below (pQ G A (fun (v : Option Value) (u : Nat × Nat × Int32 × Nat × (Nat → Int32) × (Nat → Int32) × Int32) => v = some (.int u.2.2.2.2.2.2) ∧ (at0 ≤ u.1) ∧ (u.1 ≤ T) ∧ (fa ≤ u.2.1) ∧ (u.2.1 ≤ 100) ∧ (If (0 < fa) (u.1 = at0 ∧ u.2.1 = fa)) ∧ (ls0 ≤ u.2.2.2.1) ∧ (u.2.2.2.1 + at0 ≤ ls0 + u.1 + u.2.1) ∧ (u.2.2.2.1 + at0 ≤ ls0 + u.1 + 1) ∧ (lsRow u.2.2.2.2.1 u.2.2.2.2.2.1 u.2.2.2.1 T) ∧ (u.2.2.2.2.2.2 = -1 ∨ ∃ p : Nat, p < u.2.2.2.1 ∧ u.2.2.2.2.2.2 = nI p) ∧ (If (0 < fa) (u.2.2.2.1 = ls0))) (fun u => (mW G h0 a (upd (upd (upd (upd F 15 (nI u.2.1)) 16 u.2.2.1) 34 (nI u.2.2.2.1)) 64 (nI u.1)) (updA (updA (updA B 2 K) 22 u.2.2.2.2.1) 23 u.2.2.2.2.2.1)))) ([.ref h0] : List Value).toArray s ({ frames := 6, cells := 0, slots := 0, locals := 145 } : Room).cells ({ frames := 6, cells := 0, slots := 0, locals := 145 } : Room).slots A) (F0 m 6 ls []) := by
    intro n_o
    induction n_o with
    | zero => intro kz at2 fa2 lz mo pl2 fi la lt ln H locs ls hk_o hn_o; omega
    | succ n_o ih_o =>
      intro kz at2 fa2 lz mo pl2 fi la lt ln H locs ls hk_o hn_o hm1 hz1 hz2 hz3 ha2 ha3 hf1 hf2 hl1 hl2 hl3 hg1 hg3 hlr2 hfi hla hP hD hS hl
      refine lv_iload_n hx hb dX12_listOfNames_6 rfl (lv_at hl 0 rfl) ?_
      refine lv_if_eq (tgt := 90) hx hb dX12_listOfNames_7 (by decide) (fun c1 => ?_) (fun c1 => ?_)
      · have n2 : mo = 0 := (nI_eq (a := mo) (b := 0) (by omega) (by omega)).mp c1
        refine lv_iload_n hx hb dX12_listOfNames_90 rfl (lv_at hl 2 rfl) ?_
        have hz3 : at0 ≤ at2 := (by omega)
        have hz4 : at2 ≤ T := (by omega)
        have hz5 : fa ≤ fa2 := (by omega)
        have hz6 : fa2 ≤ 100 := (by omega)
        have hz7 : If (0 < fa) (at2 = at0 ∧ fa2 = fa) := hg1
        have hz8 : ls0 ≤ lz := (by omega)
        have hz9 : lz + at0 ≤ ls0 + at2 + fa2 := (by omega)
        have hz10 : lz + at0 ≤ ls0 + at2 + 1 := (by omega)
        have hz11 : lsRow lt ln lz T := hlr2
        have hz12 : fi = -1 ∨ ∃ p : Nat, p < lz ∧ fi = nI p := hfi
        have hz13 : If (0 < fa) (lz = ls0) := hg3
        have hP : va_P G.1 pCl (mW G h0 a (upd (upd (upd (upd F 15 (nI fa2)) 16 pl2) 34 (nI lz)) 64 (nI at2)) (updA (updA (updA B 2 K) 22 lt) 23 ln)) _ := hP
        have hD : va_D A (mW G h0 a (upd (upd (upd (upd F 15 (nI fa2)) 16 pl2) 34 (nI lz)) 64 (nI at2)) (updA (updA (updA B 2 K) 22 lt) 23 ln)) := mW_D hD
        exact W.iret (v := fi) hx hb hr (fun t9 ht9 hW9 => ⟨⟨_, (at2, fa2, pl2, lz, lt, ln, fi), rfl, ⟨rfl, hz3, hz4, hz5, hz6, hz7, hz8, hz9, hz10, hz11, hz12, hz13⟩, by rw [ht9]; exact hP, hD⟩, hS.F ht9⟩) hS.2.2 dX12_listOfNames_91
      · have n14 : ¬ (mo = 0) := fun h9 => c1 ((nI_eq (a := mo) (b := 0) (by omega) (by omega)).mpr h9)
        refine lv_aload_n hx hb dX12_listOfNames_10 rfl (lv_at hl 3 rfl) ?_
        refine r_get (v := .int (nI fa2)) hx hb hown hq hE hP 15 350 tFX12_15 (by decide) pw_1594 rfl dX12_listOfNames_11 ?_
        refine lv_if_ne (tgt := 90) hx hb dX12_listOfNames_14 (by decide) (fun c15 => ?_) (fun c15 => ?_)
        · have n16 : ¬ (fa2 = 0) := fun h9 => c15 ((nI_eq (a := fa2) (b := 0) (by omega) (by omega)).mpr h9)
          refine lv_iload_n hx hb dX12_listOfNames_90 rfl (lv_at hl 2 rfl) ?_
          have hz17 : at0 ≤ at2 := (by omega)
          have hz18 : at2 ≤ T := (by omega)
          have hz19 : fa ≤ fa2 := (by omega)
          have hz20 : fa2 ≤ 100 := (by omega)
          have hz21 : If (0 < fa) (at2 = at0 ∧ fa2 = fa) := hg1
          have hz22 : ls0 ≤ lz := (by omega)
          have hz23 : lz + at0 ≤ ls0 + at2 + fa2 := (by omega)
          have hz24 : lz + at0 ≤ ls0 + at2 + 1 := (by omega)
          have hz25 : lsRow lt ln lz T := hlr2
          have hz26 : fi = -1 ∨ ∃ p : Nat, p < lz ∧ fi = nI p := hfi
          have hz27 : If (0 < fa) (lz = ls0) := hg3
          have hP : va_P G.1 pCl (mW G h0 a (upd (upd (upd (upd F 15 (nI fa2)) 16 pl2) 34 (nI lz)) 64 (nI at2)) (updA (updA (updA B 2 K) 22 lt) 23 ln)) _ := hP
          have hD : va_D A (mW G h0 a (upd (upd (upd (upd F 15 (nI fa2)) 16 pl2) 34 (nI lz)) 64 (nI at2)) (updA (updA (updA B 2 K) 22 lt) 23 ln)) := mW_D hD
          exact W.iret (v := fi) hx hb hr (fun t9 ht9 hW9 => ⟨⟨_, (at2, fa2, pl2, lz, lt, ln, fi), rfl, ⟨rfl, hz17, hz18, hz19, hz20, hz21, hz22, hz23, hz24, hz25, hz26, hz27⟩, by rw [ht9]; exact hP, hD⟩, hS.F ht9⟩) hS.2.2 dX12_listOfNames_91
        · have n28 : fa2 = 0 := (nI_eq (a := fa2) (b := 0) (by omega) (by omega)).mp c15
          refine lv_aload_n hx hb dX12_listOfNames_17 rfl (lv_at hl 3 rfl) ?_
          refine r_get (v := .int (nI lz)) hx hb hown hq hE hP 34 372 tFX12_34 (by decide) pw_1617 rfl dX12_listOfNames_18 ?_
          refine lv_istore (lv' := [(4, .int (nI lz)), (3, .int (nI mo)), (2, .int la), (1, .int fi), (0, .ref h0)]) hx hb dX12_listOfNames_21 hl (by decide) rfl (fun ls hl => ?_)
          refine lv_aload_n hx hb dX12_listOfNames_23 rfl (lv_at hl 4 rfl) ?_
          refine lv_dup hx hb dX12_listOfNames_24 rfl ?_
          refine r_get (v := .int (nI lz)) hx hb hown hq hE hP 34 372 tFX12_34 (by decide) pw_1617 rfl dX12_listOfNames_25 ?_
          refine lv_iconst (v := 1) hx hb dX12_listOfNames_28 (by decide) ?_
          refine lv_iadd hx hb dX12_listOfNames_29 ?_
          refine lv_topi (fun x29 e30 => ?_)
          obtain rfl : x29 = nI (lz + 1) := e30.trans (nI_add (lz) (1))
          refine r_put (v := (nI (lz + 1))) (ty := .int) hx hb hown hq hE hP hD hS 34 372 tFX12_34 (by decide) pw_1617 (by decide) rfl rfl (ms_34 a _ _) dX12_listOfNames_30 (fun H locs hP hD hS => ?_)
          refine lv_aload_n hx hb dX12_listOfNames_33 rfl (lv_at hl 4 rfl) ?_
          refine r_get (v := .ref (a 22)) hx hb hown hq hE hP 32 78 tFX12_32 (by decide) pw_1453 rfl dX12_listOfNames_34 ?_
          refine lv_iload hx hb dX12_listOfNames_37 (lv_at hl 0 rfl) ?_
          refine lv_aload_n hx hb dX12_listOfNames_39 rfl (lv_at hl 4 rfl) ?_
          have hP : va_P G.1 pCl (mW G h0 a (upd (upd (upd (upd (upd (upd F 15 (nI fa2)) 16 pl2) 34 (nI (lz + 1))) 64 (nI at2)) 15 (nI fa2)) 64 (nI at2)) (updA (updA (updA (updA B 2 K) 22 lt) 23 ln) 2 K)) _ := mW_to (F := F) (l1 := [(15, (nI fa2)), (16, pl2), (34, (nI lz)), (64, (nI at2)), (34, (nI (lz + 1)))]) (l2 := [(15, (nI fa2)), (16, pl2), (34, (nI (lz + 1))), (64, (nI at2)), (15, (nI fa2)), (64, (nI at2))]) (V := [(nI fa2), pl2, (nI (lz + 1)), (nI at2), (nI (lz + 1)), (nI fa2), pl2, (nI (lz + 1)), (nI at2), (nI fa2), (nI at2)]) rfl rfl (show (updA (updA (updA B 2 K) 22 lt) 23 ln) = (updA (updA (updA (updA B 2 K) 22 lt) 23 ln) 2 K) from updsA_eq2 (F := B) (l1 := [(2, K), (22, lt), (23, ln)]) (l2 := [(2, K), (22, lt), (23, ln), (2, K)]) (V := [K, lt, ln, K, lt, ln, K]) rfl rfl) hP
          have hD : va_D A (mW G h0 a (upd (upd (upd (upd (upd (upd F 15 (nI fa2)) 16 pl2) 34 (nI (lz + 1))) 64 (nI at2)) 15 (nI fa2)) 64 (nI at2)) (updA (updA (updA (updA B 2 K) 22 lt) 23 ln) 2 K)) := mW_D hD
          refine pc_V0 (G := G) (As := []) (rest := [.int (nI lz), .ref (a 22)]) hx hb hml hown hq hE hX pX0_al hP hD hS hA hl.1 (R_name l G h0 a (upd (upd (upd (upd F 15 (nI fa2)) 16 pl2) 34 (nI (lz + 1))) 64 (nI at2)) (updA (updA (updA B 2 K) 22 lt) 23 ln) at2 T fa2 K (by omega) (by omega) hK (by omega)) (gV pw_1618 pw_1619 pw_1620 pw_1523 pw_1613) hV_X12_name 0 9 rfl rfl rfl rfl (Nat.le_of_ble_eq_true rfl) dX12_listOfNames_40 ⟨Nat.le_of_ble_eq_true rfl, Nat.le_of_ble_eq_true rfl⟩ ⟨Nat.le_of_ble_eq_true rfl, Nat.le_of_ble_eq_true rfl⟩ (fun v33 u31 H locs hw32 hP hD hS => ?_)
          obtain ⟨at34, fa35, pl36⟩ := u31
          obtain ⟨hw32, h37, h38, h39, h40, h41, h42, h43, h44⟩ := hw32
          have h37 : at2 ≤ at34 := h37
          have h38 : at34 ≤ T := h38
          have h39 : fa2 ≤ fa35 := h39
          have h40 : fa35 ≤ 100 := h40
          have h41 : If (0 < fa2) (at34 = at2 ∧ fa35 = fa2) := h41
          have h42 : at34 ≤ at2 + 1 := h42
          have h43 : at2 + 1 ≤ at34 + fa35 := h43
          have h44 : If (fa35 = 0) (K at2 = 1) := h44
          obtain rfl : v33 = some (.int (nI at2)) := hw32
          have hP : va_P G.1 pCl (mW G h0 a (upd (upd (upd (upd F 15 (nI fa35)) 16 pl36) 34 (nI (lz + 1))) 64 (nI at34)) (updA (updA (updA B 2 K) 22 lt) 23 ln)) _ := mW_to (F := F) (l1 := [(15, (nI fa2)), (16, pl2), (34, (nI (lz + 1))), (64, (nI at2)), (15, (nI fa35)), (16, pl36), (64, (nI at34))]) (l2 := [(15, (nI fa35)), (16, pl36), (34, (nI (lz + 1))), (64, (nI at34))]) (V := [(nI fa35), pl36, (nI (lz + 1)), (nI at34), (nI fa35), pl36, (nI at34), (nI fa35), pl36, (nI (lz + 1)), (nI at34)]) rfl rfl (show (updA (updA (updA (updA B 2 K) 22 lt) 23 ln) 2 K) = (updA (updA (updA B 2 K) 22 lt) 23 ln) from updsA_eq2 (F := B) (l1 := [(2, K), (22, lt), (23, ln), (2, K)]) (l2 := [(2, K), (22, lt), (23, ln)]) (V := [K, lt, ln, K, K, lt, ln]) rfl rfl) hP
          have hD : va_D A (mW G h0 a (upd (upd (upd (upd F 15 (nI fa35)) 16 pl36) 34 (nI (lz + 1))) 64 (nI at34)) (updA (updA (updA B 2 K) 22 lt) 23 ln)) := mW_D hD
          refine W.widen (k := 0) (n := 0) (Nat.le_of_ble_eq_true rfl) (Nat.le_of_ble_eq_true rfl) ?_
          refine W.eq (g2 := F0 m 43 ls [.int (nI at2), .int (nI lz), .ref (a 22)]) rfl ?_
          refine r_sti (f := lt) (j := lz) hx hb hE hP hD hS 22 (ma_22 G a _) rfl (mas_22 G a _) (by omega) (by decide) dX12_listOfNames_43 (fun H locs hP hD hS => ?_)
          refine lv_aload_n hx hb dX12_listOfNames_44 rfl (lv_at hl 4 rfl) ?_
          refine r_get (v := .ref (a 23)) hx hb hown hq hE hP 33 81 tFX12_33 (by decide) pw_1454 rfl dX12_listOfNames_45 ?_
          refine lv_iload hx hb dX12_listOfNames_48 (lv_at hl 0 rfl) ?_
          refine lv_iconst (v := (-1)) hx hb dX12_listOfNames_50 (by decide) ?_
          refine r_sti (f := ln) (j := lz) hx hb hE hP hD hS 23 (ma_23 G a _) rfl (mas_23 G a _) (by omega) (by decide) dX12_listOfNames_51 (fun H locs hP hD hS => ?_)
          refine lv_iload_n hx hb dX12_listOfNames_52 rfl (lv_at hl 3 rfl) ?_
          refine lv_iconst (v := (-1)) hx hb dX12_listOfNames_53 (by decide) ?_
          refine lv_icmp_ne (tgt := 62) hx hb dX12_listOfNames_54 (by decide) (fun c45 => ?_) (fun c45 => ?_)
          · refine lv_iload_n hx hb dX12_listOfNames_62 rfl (lv_at hl 3 rfl) ?_
            refine lv_istore_n (lv' := [(1, .int fi), (4, .int (nI lz)), (3, .int (nI mo)), (2, .int la), (0, .ref h0)]) hx hb dX12_listOfNames_63 rfl hl (by decide) rfl (fun ls hl => ?_)
            refine lv_iload_n hx hb dX12_listOfNames_64 rfl (lv_at hl 3 rfl) ?_
            refine lv_iconst (v := (-1)) hx hb dX12_listOfNames_65 (by decide) ?_
            refine lv_icmp_eq (tgt := 77) hx hb dX12_listOfNames_66 (by decide) (fun c46 => ?_) (fun c46 => ?_)
            · refine lv_iload hx hb dX12_listOfNames_77 (lv_at hl 1 rfl) ?_
              refine lv_istore_n (lv' := [(2, .int (nI lz)), (1, .int fi), (4, .int (nI lz)), (3, .int (nI mo)), (0, .ref h0)]) hx hb dX12_listOfNames_79 rfl hl (by decide) rfl (fun ls hl => ?_)
              refine lv_aload_n hx hb dX12_listOfNames_80 rfl (lv_at hl 4 rfl) ?_
              refine lv_bipush (v := 44) hx hb dX12_listOfNames_81 (by decide) ?_
              have hP : va_P G.1 pCl (mW G h0 a (upd (upd (upd (upd (upd (upd F 15 (nI fa35)) 16 pl36) 34 (nI (lz + 1))) 64 (nI at34)) 15 (nI fa35)) 64 (nI at34)) (updA (updA (updA (updA B 2 K) 22 (upd lt lz (nI at2))) 23 (upd ln lz (-1))) 2 K)) _ := mW_to (F := F) (l1 := [(15, (nI fa35)), (16, pl36), (34, (nI (lz + 1))), (64, (nI at34))]) (l2 := [(15, (nI fa35)), (16, pl36), (34, (nI (lz + 1))), (64, (nI at34)), (15, (nI fa35)), (64, (nI at34))]) (V := [(nI fa35), pl36, (nI (lz + 1)), (nI at34), (nI fa35), pl36, (nI (lz + 1)), (nI at34), (nI fa35), (nI at34)]) rfl rfl (show (updA (updA (updA (updA (updA B 2 K) 22 lt) 23 ln) 22 (upd lt lz (nI at2))) 23 (upd ln lz (-1))) = (updA (updA (updA (updA B 2 K) 22 (upd lt lz (nI at2))) 23 (upd ln lz (-1))) 2 K) from updsA_eq2 (F := B) (l1 := [(2, K), (22, lt), (23, ln), (22, (upd lt lz (nI at2))), (23, (upd ln lz (-1)))]) (l2 := [(2, K), (22, (upd lt lz (nI at2))), (23, (upd ln lz (-1))), (2, K)]) (V := [K, (upd lt lz (nI at2)), (upd ln lz (-1)), (upd lt lz (nI at2)), (upd ln lz (-1)), K, (upd lt lz (nI at2)), (upd ln lz (-1)), K]) rfl rfl) hP
              have hD : va_D A (mW G h0 a (upd (upd (upd (upd (upd (upd F 15 (nI fa35)) 16 pl36) 34 (nI (lz + 1))) 64 (nI at34)) 15 (nI fa35)) 64 (nI at34)) (updA (updA (updA (updA B 2 K) 22 (upd lt lz (nI at2))) 23 (upd ln lz (-1))) 2 K)) := mW_D hD
              refine pc_V0 (G := G) (As := [.int 44]) (rest := []) hx hb hml hown hq hE hX pX0_al hP hD hS hA hl.1 (R_may l G h0 a (upd (upd (upd (upd F 15 (nI fa35)) 16 pl36) 34 (nI (lz + 1))) 64 (nI at34)) (updA (updA (updA B 2 K) 22 (upd lt lz (nI at2))) 23 (upd ln lz (-1))) at34 T fa35 K 44 (by omega) (by omega) hK (by omega) (by decide) (by decide)) (gV pw_1621 pw_1622 pw_1623 pw_1523 pw_1605) hV_X12_may 0 9 rfl rfl rfl rfl (Nat.le_of_ble_eq_true rfl) dX12_listOfNames_83 ⟨Nat.le_of_ble_eq_true rfl, Nat.le_of_ble_eq_true rfl⟩ ⟨Nat.le_of_ble_eq_true rfl, Nat.le_of_ble_eq_true rfl⟩ (fun v49 u47 H locs hw48 hP hD hS => ?_)
              obtain ⟨at50, r51⟩ := u47
              obtain ⟨hw48, h52, h53, h54, h55, h56, h57⟩ := hw48
              have h52 : r51 ≤ 1 := h52
              have h53 : fa35 + 100 * r51 ≤ 100 := h53
              have h54 : at50 = at34 + r51 := h54
              have h55 : at50 ≤ T := h55
              have h56 : If (r51 = 1) (K at34 = 44) := h56
              have h57 : If (r51 = 0) (fa35 = 0 → ¬ K at34 = 44) := h57
              obtain rfl : v49 = some (.int (nI r51)) := hw48
              have hP : va_P G.1 pCl (mW G h0 a (upd (upd (upd (upd F 15 (nI fa35)) 16 pl36) 34 (nI (lz + 1))) 64 (nI at50)) (updA (updA (updA B 2 K) 22 (upd lt lz (nI at2))) 23 (upd ln lz (-1)))) _ := mW_to (F := F) (l1 := [(15, (nI fa35)), (16, pl36), (34, (nI (lz + 1))), (64, (nI at34)), (15, (nI fa35)), (64, (nI at50))]) (l2 := [(15, (nI fa35)), (16, pl36), (34, (nI (lz + 1))), (64, (nI at50))]) (V := [(nI fa35), pl36, (nI (lz + 1)), (nI at50), (nI fa35), (nI at50), (nI fa35), pl36, (nI (lz + 1)), (nI at50)]) rfl rfl (show (updA (updA (updA (updA B 2 K) 22 (upd lt lz (nI at2))) 23 (upd ln lz (-1))) 2 K) = (updA (updA (updA B 2 K) 22 (upd lt lz (nI at2))) 23 (upd ln lz (-1))) from updsA_eq2 (F := B) (l1 := [(2, K), (22, (upd lt lz (nI at2))), (23, (upd ln lz (-1))), (2, K)]) (l2 := [(2, K), (22, (upd lt lz (nI at2))), (23, (upd ln lz (-1)))]) (V := [K, (upd lt lz (nI at2)), (upd ln lz (-1)), K, K, (upd lt lz (nI at2)), (upd ln lz (-1))]) rfl rfl) hP
              have hD : va_D A (mW G h0 a (upd (upd (upd (upd F 15 (nI fa35)) 16 pl36) 34 (nI (lz + 1))) 64 (nI at50)) (updA (updA (updA B 2 K) 22 (upd lt lz (nI at2))) 23 (upd ln lz (-1)))) := mW_D hD
              refine W.widen (k := 0) (n := 0) (Nat.le_of_ble_eq_true rfl) (Nat.le_of_ble_eq_true rfl) ?_
              refine W.eq (g2 := F0 m 86 ls [.int (nI r51)]) rfl ?_
              refine lv_istore_n (lv' := [(3, .int (nI r51)), (2, .int (nI lz)), (1, .int fi), (4, .int (nI lz)), (0, .ref h0)]) hx hb dX12_listOfNames_86 rfl hl (by decide) rfl (fun ls hl => ?_)
              refine lv_goto (tgt := 6) hx hb dX12_listOfNames_87 (by decide) ?_
              have hno : ¬ 0 < fa := by omega
              obtain ⟨kz58, hk1, hk2, hk3, hk4⟩ := kz_of (mo := r51) (a2 := at50) (T := T) (by omega) (by omega) (by omega)
              have hP : va_P G.1 pCl (mW G h0 a (upd (upd (upd (upd F 15 (nI fa35)) 16 pl36) 34 (nI (lz + 1))) 64 (nI at50)) (updA (updA (updA B 2 K) 22 (upd lt lz (nI at2))) 23 (upd ln lz (-1)))) _ := hP
              have hD : va_D A (mW G h0 a (upd (upd (upd (upd F 15 (nI fa35)) 16 pl36) 34 (nI (lz + 1))) 64 (nI at50)) (updA (updA (updA B 2 K) 22 (upd lt lz (nI at2))) 23 (upd ln lz (-1)))) := mW_D hD
              exact ih_o kz58 at50 fa35 (lz + 1) r51 pl36 fi (nI lz) (upd lt lz (nI at2)) (upd ln lz (-1)) _ _ _ hk1 (by omega) (by omega) hk2 hk3 hk4 (by omega) (by omega) (by omega) (by omega) (by omega) (by omega) (by omega) (fun h9 => absurd h9 hno) (fun h9 => absurd h9 hno) (lsRow_new hlr2 ha3) (hfi.imp id (fun ⟨p, h, e⟩ => ⟨p, by omega, e⟩)) (Or.inr ⟨lz, by omega, rfl⟩) hP hD hS (lv_sub hl [0, 1, 2, 4] rfl)
            · obtain ⟨p59, hp60, rfl⟩ := (hla.resolve_left c46)
              refine lv_aload_n hx hb dX12_listOfNames_69 rfl (lv_at hl 4 rfl) ?_
              refine r_get (v := .ref (a 23)) hx hb hown hq hE hP 33 81 tFX12_33 (by decide) pw_1454 rfl dX12_listOfNames_70 ?_
              refine lv_iload_n hx hb dX12_listOfNames_73 rfl (lv_at hl 3 rfl) ?_
              refine lv_iload hx hb dX12_listOfNames_74 (lv_at hl 1 rfl) ?_
              refine r_sti (f := (upd ln lz (-1))) (j := p59) hx hb hE hP hD hS 23 (ma_23 G a _) rfl (mas_23 G a _) (by omega) (by decide) dX12_listOfNames_76 (fun H locs hP hD hS => ?_)
              refine lv_iload hx hb dX12_listOfNames_77 (lv_at hl 1 rfl) ?_
              refine lv_istore_n (lv' := [(2, .int (nI lz)), (1, .int fi), (4, .int (nI lz)), (3, .int (nI mo)), (0, .ref h0)]) hx hb dX12_listOfNames_79 rfl hl (by decide) rfl (fun ls hl => ?_)
              refine lv_aload_n hx hb dX12_listOfNames_80 rfl (lv_at hl 4 rfl) ?_
              refine lv_bipush (v := 44) hx hb dX12_listOfNames_81 (by decide) ?_
              have hP : va_P G.1 pCl (mW G h0 a (upd (upd (upd (upd (upd (upd F 15 (nI fa35)) 16 pl36) 34 (nI (lz + 1))) 64 (nI at34)) 15 (nI fa35)) 64 (nI at34)) (updA (updA (updA (updA B 2 K) 22 (upd lt lz (nI at2))) 23 (upd (upd ln lz (-1)) p59 (nI lz))) 2 K)) _ := hP
              have hD : va_D A (mW G h0 a (upd (upd (upd (upd (upd (upd F 15 (nI fa35)) 16 pl36) 34 (nI (lz + 1))) 64 (nI at34)) 15 (nI fa35)) 64 (nI at34)) (updA (updA (updA (updA B 2 K) 22 (upd lt lz (nI at2))) 23 (upd (upd ln lz (-1)) p59 (nI lz))) 2 K)) := mW_D hD
              refine pc_V0 (G := G) (As := [.int 44]) (rest := []) hx hb hml hown hq hE hX pX0_al hP hD hS hA hl.1 (R_may l G h0 a (upd (upd (upd (upd F 15 (nI fa35)) 16 pl36) 34 (nI (lz + 1))) 64 (nI at34)) (updA (updA (updA B 2 K) 22 (upd lt lz (nI at2))) 23 (upd (upd ln lz (-1)) p59 (nI lz))) at34 T fa35 K 44 (by omega) (by omega) hK (by omega) (by decide) (by decide)) (gV pw_1621 pw_1622 pw_1623 pw_1523 pw_1605) hV_X12_may 0 9 rfl rfl rfl rfl (Nat.le_of_ble_eq_true rfl) dX12_listOfNames_83 ⟨Nat.le_of_ble_eq_true rfl, Nat.le_of_ble_eq_true rfl⟩ ⟨Nat.le_of_ble_eq_true rfl, Nat.le_of_ble_eq_true rfl⟩ (fun v63 u61 H locs hw62 hP hD hS => ?_)
              obtain ⟨at64, r65⟩ := u61
              obtain ⟨hw62, h66, h67, h68, h69, h70, h71⟩ := hw62
              have h66 : r65 ≤ 1 := h66
              have h67 : fa35 + 100 * r65 ≤ 100 := h67
              have h68 : at64 = at34 + r65 := h68
              have h69 : at64 ≤ T := h69
              have h70 : If (r65 = 1) (K at34 = 44) := h70
              have h71 : If (r65 = 0) (fa35 = 0 → ¬ K at34 = 44) := h71
              obtain rfl : v63 = some (.int (nI r65)) := hw62
              have hP : va_P G.1 pCl (mW G h0 a (upd (upd (upd (upd F 15 (nI fa35)) 16 pl36) 34 (nI (lz + 1))) 64 (nI at64)) (updA (updA (updA B 2 K) 22 (upd lt lz (nI at2))) 23 (upd (upd ln lz (-1)) p59 (nI lz)))) _ := mW_to (F := F) (l1 := [(15, (nI fa35)), (16, pl36), (34, (nI (lz + 1))), (64, (nI at34)), (15, (nI fa35)), (64, (nI at64))]) (l2 := [(15, (nI fa35)), (16, pl36), (34, (nI (lz + 1))), (64, (nI at64))]) (V := [(nI fa35), pl36, (nI (lz + 1)), (nI at64), (nI fa35), (nI at64), (nI fa35), pl36, (nI (lz + 1)), (nI at64)]) rfl rfl (show (updA (updA (updA (updA B 2 K) 22 (upd lt lz (nI at2))) 23 (upd (upd ln lz (-1)) p59 (nI lz))) 2 K) = (updA (updA (updA B 2 K) 22 (upd lt lz (nI at2))) 23 (upd (upd ln lz (-1)) p59 (nI lz))) from updsA_eq2 (F := B) (l1 := [(2, K), (22, (upd lt lz (nI at2))), (23, (upd (upd ln lz (-1)) p59 (nI lz))), (2, K)]) (l2 := [(2, K), (22, (upd lt lz (nI at2))), (23, (upd (upd ln lz (-1)) p59 (nI lz)))]) (V := [K, (upd lt lz (nI at2)), (upd (upd ln lz (-1)) p59 (nI lz)), K, K, (upd lt lz (nI at2)), (upd (upd ln lz (-1)) p59 (nI lz))]) rfl rfl) hP
              have hD : va_D A (mW G h0 a (upd (upd (upd (upd F 15 (nI fa35)) 16 pl36) 34 (nI (lz + 1))) 64 (nI at64)) (updA (updA (updA B 2 K) 22 (upd lt lz (nI at2))) 23 (upd (upd ln lz (-1)) p59 (nI lz)))) := mW_D hD
              refine W.widen (k := 0) (n := 0) (Nat.le_of_ble_eq_true rfl) (Nat.le_of_ble_eq_true rfl) ?_
              refine W.eq (g2 := F0 m 86 ls [.int (nI r65)]) rfl ?_
              refine lv_istore_n (lv' := [(3, .int (nI r65)), (2, .int (nI lz)), (1, .int fi), (4, .int (nI lz)), (0, .ref h0)]) hx hb dX12_listOfNames_86 rfl hl (by decide) rfl (fun ls hl => ?_)
              refine lv_goto (tgt := 6) hx hb dX12_listOfNames_87 (by decide) ?_
              have hno : ¬ 0 < fa := by omega
              obtain ⟨kz72, hk1, hk2, hk3, hk4⟩ := kz_of (mo := r65) (a2 := at64) (T := T) (by omega) (by omega) (by omega)
              have hP : va_P G.1 pCl (mW G h0 a (upd (upd (upd (upd F 15 (nI fa35)) 16 pl36) 34 (nI (lz + 1))) 64 (nI at64)) (updA (updA (updA B 2 K) 22 (upd lt lz (nI at2))) 23 (upd (upd ln lz (-1)) p59 (nI lz)))) _ := hP
              have hD : va_D A (mW G h0 a (upd (upd (upd (upd F 15 (nI fa35)) 16 pl36) 34 (nI (lz + 1))) 64 (nI at64)) (updA (updA (updA B 2 K) 22 (upd lt lz (nI at2))) 23 (upd (upd ln lz (-1)) p59 (nI lz)))) := mW_D hD
              exact ih_o kz72 at64 fa35 (lz + 1) r65 pl36 fi (nI lz) (upd lt lz (nI at2)) (upd (upd ln lz (-1)) p59 (nI lz)) _ _ _ hk1 (by omega) (by omega) hk2 hk3 hk4 (by omega) (by omega) (by omega) (by omega) (by omega) (by omega) (by omega) (fun h9 => absurd h9 hno) (fun h9 => absurd h9 hno) (lsRow_link (lsRow_new hlr2 ha3) hp60) (hfi.imp id (fun ⟨p, h, e⟩ => ⟨p, by omega, e⟩)) (Or.inr ⟨lz, by omega, rfl⟩) hP hD hS (lv_sub hl [0, 1, 2, 4] rfl)
          · refine lv_iload hx hb dX12_listOfNames_57 (lv_at hl 0 rfl) ?_
            refine lv_goto (tgt := 63) hx hb dX12_listOfNames_59 (by decide) ?_
            refine lv_istore_n (lv' := [(1, .int (nI lz)), (4, .int (nI lz)), (3, .int (nI mo)), (2, .int la), (0, .ref h0)]) hx hb dX12_listOfNames_63 rfl hl (by decide) rfl (fun ls hl => ?_)
            refine lv_iload_n hx hb dX12_listOfNames_64 rfl (lv_at hl 3 rfl) ?_
            refine lv_iconst (v := (-1)) hx hb dX12_listOfNames_65 (by decide) ?_
            refine lv_icmp_eq (tgt := 77) hx hb dX12_listOfNames_66 (by decide) (fun c73 => ?_) (fun c73 => ?_)
            · refine lv_iload hx hb dX12_listOfNames_77 (lv_at hl 1 rfl) ?_
              refine lv_istore_n (lv' := [(2, .int (nI lz)), (1, .int (nI lz)), (4, .int (nI lz)), (3, .int (nI mo)), (0, .ref h0)]) hx hb dX12_listOfNames_79 rfl hl (by decide) rfl (fun ls hl => ?_)
              refine lv_aload_n hx hb dX12_listOfNames_80 rfl (lv_at hl 4 rfl) ?_
              refine lv_bipush (v := 44) hx hb dX12_listOfNames_81 (by decide) ?_
              have hP : va_P G.1 pCl (mW G h0 a (upd (upd (upd (upd (upd (upd F 15 (nI fa35)) 16 pl36) 34 (nI (lz + 1))) 64 (nI at34)) 15 (nI fa35)) 64 (nI at34)) (updA (updA (updA (updA B 2 K) 22 (upd lt lz (nI at2))) 23 (upd ln lz (-1))) 2 K)) _ := mW_to (F := F) (l1 := [(15, (nI fa35)), (16, pl36), (34, (nI (lz + 1))), (64, (nI at34))]) (l2 := [(15, (nI fa35)), (16, pl36), (34, (nI (lz + 1))), (64, (nI at34)), (15, (nI fa35)), (64, (nI at34))]) (V := [(nI fa35), pl36, (nI (lz + 1)), (nI at34), (nI fa35), pl36, (nI (lz + 1)), (nI at34), (nI fa35), (nI at34)]) rfl rfl (show (updA (updA (updA (updA (updA B 2 K) 22 lt) 23 ln) 22 (upd lt lz (nI at2))) 23 (upd ln lz (-1))) = (updA (updA (updA (updA B 2 K) 22 (upd lt lz (nI at2))) 23 (upd ln lz (-1))) 2 K) from updsA_eq2 (F := B) (l1 := [(2, K), (22, lt), (23, ln), (22, (upd lt lz (nI at2))), (23, (upd ln lz (-1)))]) (l2 := [(2, K), (22, (upd lt lz (nI at2))), (23, (upd ln lz (-1))), (2, K)]) (V := [K, (upd lt lz (nI at2)), (upd ln lz (-1)), (upd lt lz (nI at2)), (upd ln lz (-1)), K, (upd lt lz (nI at2)), (upd ln lz (-1)), K]) rfl rfl) hP
              have hD : va_D A (mW G h0 a (upd (upd (upd (upd (upd (upd F 15 (nI fa35)) 16 pl36) 34 (nI (lz + 1))) 64 (nI at34)) 15 (nI fa35)) 64 (nI at34)) (updA (updA (updA (updA B 2 K) 22 (upd lt lz (nI at2))) 23 (upd ln lz (-1))) 2 K)) := mW_D hD
              refine pc_V0 (G := G) (As := [.int 44]) (rest := []) hx hb hml hown hq hE hX pX0_al hP hD hS hA hl.1 (R_may l G h0 a (upd (upd (upd (upd F 15 (nI fa35)) 16 pl36) 34 (nI (lz + 1))) 64 (nI at34)) (updA (updA (updA B 2 K) 22 (upd lt lz (nI at2))) 23 (upd ln lz (-1))) at34 T fa35 K 44 (by omega) (by omega) hK (by omega) (by decide) (by decide)) (gV pw_1621 pw_1622 pw_1623 pw_1523 pw_1605) hV_X12_may 0 9 rfl rfl rfl rfl (Nat.le_of_ble_eq_true rfl) dX12_listOfNames_83 ⟨Nat.le_of_ble_eq_true rfl, Nat.le_of_ble_eq_true rfl⟩ ⟨Nat.le_of_ble_eq_true rfl, Nat.le_of_ble_eq_true rfl⟩ (fun v76 u74 H locs hw75 hP hD hS => ?_)
              obtain ⟨at77, r78⟩ := u74
              obtain ⟨hw75, h79, h80, h81, h82, h83, h84⟩ := hw75
              have h79 : r78 ≤ 1 := h79
              have h80 : fa35 + 100 * r78 ≤ 100 := h80
              have h81 : at77 = at34 + r78 := h81
              have h82 : at77 ≤ T := h82
              have h83 : If (r78 = 1) (K at34 = 44) := h83
              have h84 : If (r78 = 0) (fa35 = 0 → ¬ K at34 = 44) := h84
              obtain rfl : v76 = some (.int (nI r78)) := hw75
              have hP : va_P G.1 pCl (mW G h0 a (upd (upd (upd (upd F 15 (nI fa35)) 16 pl36) 34 (nI (lz + 1))) 64 (nI at77)) (updA (updA (updA B 2 K) 22 (upd lt lz (nI at2))) 23 (upd ln lz (-1)))) _ := mW_to (F := F) (l1 := [(15, (nI fa35)), (16, pl36), (34, (nI (lz + 1))), (64, (nI at34)), (15, (nI fa35)), (64, (nI at77))]) (l2 := [(15, (nI fa35)), (16, pl36), (34, (nI (lz + 1))), (64, (nI at77))]) (V := [(nI fa35), pl36, (nI (lz + 1)), (nI at77), (nI fa35), (nI at77), (nI fa35), pl36, (nI (lz + 1)), (nI at77)]) rfl rfl (show (updA (updA (updA (updA B 2 K) 22 (upd lt lz (nI at2))) 23 (upd ln lz (-1))) 2 K) = (updA (updA (updA B 2 K) 22 (upd lt lz (nI at2))) 23 (upd ln lz (-1))) from updsA_eq2 (F := B) (l1 := [(2, K), (22, (upd lt lz (nI at2))), (23, (upd ln lz (-1))), (2, K)]) (l2 := [(2, K), (22, (upd lt lz (nI at2))), (23, (upd ln lz (-1)))]) (V := [K, (upd lt lz (nI at2)), (upd ln lz (-1)), K, K, (upd lt lz (nI at2)), (upd ln lz (-1))]) rfl rfl) hP
              have hD : va_D A (mW G h0 a (upd (upd (upd (upd F 15 (nI fa35)) 16 pl36) 34 (nI (lz + 1))) 64 (nI at77)) (updA (updA (updA B 2 K) 22 (upd lt lz (nI at2))) 23 (upd ln lz (-1)))) := mW_D hD
              refine W.widen (k := 0) (n := 0) (Nat.le_of_ble_eq_true rfl) (Nat.le_of_ble_eq_true rfl) ?_
              refine W.eq (g2 := F0 m 86 ls [.int (nI r78)]) rfl ?_
              refine lv_istore_n (lv' := [(3, .int (nI r78)), (2, .int (nI lz)), (1, .int (nI lz)), (4, .int (nI lz)), (0, .ref h0)]) hx hb dX12_listOfNames_86 rfl hl (by decide) rfl (fun ls hl => ?_)
              refine lv_goto (tgt := 6) hx hb dX12_listOfNames_87 (by decide) ?_
              have hno : ¬ 0 < fa := by omega
              obtain ⟨kz85, hk1, hk2, hk3, hk4⟩ := kz_of (mo := r78) (a2 := at77) (T := T) (by omega) (by omega) (by omega)
              have hP : va_P G.1 pCl (mW G h0 a (upd (upd (upd (upd F 15 (nI fa35)) 16 pl36) 34 (nI (lz + 1))) 64 (nI at77)) (updA (updA (updA B 2 K) 22 (upd lt lz (nI at2))) 23 (upd ln lz (-1)))) _ := hP
              have hD : va_D A (mW G h0 a (upd (upd (upd (upd F 15 (nI fa35)) 16 pl36) 34 (nI (lz + 1))) 64 (nI at77)) (updA (updA (updA B 2 K) 22 (upd lt lz (nI at2))) 23 (upd ln lz (-1)))) := mW_D hD
              exact ih_o kz85 at77 fa35 (lz + 1) r78 pl36 (nI lz) (nI lz) (upd lt lz (nI at2)) (upd ln lz (-1)) _ _ _ hk1 (by omega) (by omega) hk2 hk3 hk4 (by omega) (by omega) (by omega) (by omega) (by omega) (by omega) (by omega) (fun h9 => absurd h9 hno) (fun h9 => absurd h9 hno) (lsRow_new hlr2 ha3) (Or.inr ⟨lz, by omega, rfl⟩) (Or.inr ⟨lz, by omega, rfl⟩) hP hD hS (lv_sub hl [0, 1, 2, 4] rfl)
            · obtain ⟨p86, hp87, rfl⟩ := (hla.resolve_left c73)
              refine lv_aload_n hx hb dX12_listOfNames_69 rfl (lv_at hl 4 rfl) ?_
              refine r_get (v := .ref (a 23)) hx hb hown hq hE hP 33 81 tFX12_33 (by decide) pw_1454 rfl dX12_listOfNames_70 ?_
              refine lv_iload_n hx hb dX12_listOfNames_73 rfl (lv_at hl 3 rfl) ?_
              refine lv_iload hx hb dX12_listOfNames_74 (lv_at hl 1 rfl) ?_
              refine r_sti (f := (upd ln lz (-1))) (j := p86) hx hb hE hP hD hS 23 (ma_23 G a _) rfl (mas_23 G a _) (by omega) (by decide) dX12_listOfNames_76 (fun H locs hP hD hS => ?_)
              refine lv_iload hx hb dX12_listOfNames_77 (lv_at hl 1 rfl) ?_
              refine lv_istore_n (lv' := [(2, .int (nI lz)), (1, .int (nI lz)), (4, .int (nI lz)), (3, .int (nI mo)), (0, .ref h0)]) hx hb dX12_listOfNames_79 rfl hl (by decide) rfl (fun ls hl => ?_)
              refine lv_aload_n hx hb dX12_listOfNames_80 rfl (lv_at hl 4 rfl) ?_
              refine lv_bipush (v := 44) hx hb dX12_listOfNames_81 (by decide) ?_
              have hP : va_P G.1 pCl (mW G h0 a (upd (upd (upd (upd (upd (upd F 15 (nI fa35)) 16 pl36) 34 (nI (lz + 1))) 64 (nI at34)) 15 (nI fa35)) 64 (nI at34)) (updA (updA (updA (updA B 2 K) 22 (upd lt lz (nI at2))) 23 (upd (upd ln lz (-1)) p86 (nI lz))) 2 K)) _ := hP
              have hD : va_D A (mW G h0 a (upd (upd (upd (upd (upd (upd F 15 (nI fa35)) 16 pl36) 34 (nI (lz + 1))) 64 (nI at34)) 15 (nI fa35)) 64 (nI at34)) (updA (updA (updA (updA B 2 K) 22 (upd lt lz (nI at2))) 23 (upd (upd ln lz (-1)) p86 (nI lz))) 2 K)) := mW_D hD
              refine pc_V0 (G := G) (As := [.int 44]) (rest := []) hx hb hml hown hq hE hX pX0_al hP hD hS hA hl.1 (R_may l G h0 a (upd (upd (upd (upd F 15 (nI fa35)) 16 pl36) 34 (nI (lz + 1))) 64 (nI at34)) (updA (updA (updA B 2 K) 22 (upd lt lz (nI at2))) 23 (upd (upd ln lz (-1)) p86 (nI lz))) at34 T fa35 K 44 (by omega) (by omega) hK (by omega) (by decide) (by decide)) (gV pw_1621 pw_1622 pw_1623 pw_1523 pw_1605) hV_X12_may 0 9 rfl rfl rfl rfl (Nat.le_of_ble_eq_true rfl) dX12_listOfNames_83 ⟨Nat.le_of_ble_eq_true rfl, Nat.le_of_ble_eq_true rfl⟩ ⟨Nat.le_of_ble_eq_true rfl, Nat.le_of_ble_eq_true rfl⟩ (fun v90 u88 H locs hw89 hP hD hS => ?_)
              obtain ⟨at91, r92⟩ := u88
              obtain ⟨hw89, h93, h94, h95, h96, h97, h98⟩ := hw89
              have h93 : r92 ≤ 1 := h93
              have h94 : fa35 + 100 * r92 ≤ 100 := h94
              have h95 : at91 = at34 + r92 := h95
              have h96 : at91 ≤ T := h96
              have h97 : If (r92 = 1) (K at34 = 44) := h97
              have h98 : If (r92 = 0) (fa35 = 0 → ¬ K at34 = 44) := h98
              obtain rfl : v90 = some (.int (nI r92)) := hw89
              have hP : va_P G.1 pCl (mW G h0 a (upd (upd (upd (upd F 15 (nI fa35)) 16 pl36) 34 (nI (lz + 1))) 64 (nI at91)) (updA (updA (updA B 2 K) 22 (upd lt lz (nI at2))) 23 (upd (upd ln lz (-1)) p86 (nI lz)))) _ := mW_to (F := F) (l1 := [(15, (nI fa35)), (16, pl36), (34, (nI (lz + 1))), (64, (nI at34)), (15, (nI fa35)), (64, (nI at91))]) (l2 := [(15, (nI fa35)), (16, pl36), (34, (nI (lz + 1))), (64, (nI at91))]) (V := [(nI fa35), pl36, (nI (lz + 1)), (nI at91), (nI fa35), (nI at91), (nI fa35), pl36, (nI (lz + 1)), (nI at91)]) rfl rfl (show (updA (updA (updA (updA B 2 K) 22 (upd lt lz (nI at2))) 23 (upd (upd ln lz (-1)) p86 (nI lz))) 2 K) = (updA (updA (updA B 2 K) 22 (upd lt lz (nI at2))) 23 (upd (upd ln lz (-1)) p86 (nI lz))) from updsA_eq2 (F := B) (l1 := [(2, K), (22, (upd lt lz (nI at2))), (23, (upd (upd ln lz (-1)) p86 (nI lz))), (2, K)]) (l2 := [(2, K), (22, (upd lt lz (nI at2))), (23, (upd (upd ln lz (-1)) p86 (nI lz)))]) (V := [K, (upd lt lz (nI at2)), (upd (upd ln lz (-1)) p86 (nI lz)), K, K, (upd lt lz (nI at2)), (upd (upd ln lz (-1)) p86 (nI lz))]) rfl rfl) hP
              have hD : va_D A (mW G h0 a (upd (upd (upd (upd F 15 (nI fa35)) 16 pl36) 34 (nI (lz + 1))) 64 (nI at91)) (updA (updA (updA B 2 K) 22 (upd lt lz (nI at2))) 23 (upd (upd ln lz (-1)) p86 (nI lz)))) := mW_D hD
              refine W.widen (k := 0) (n := 0) (Nat.le_of_ble_eq_true rfl) (Nat.le_of_ble_eq_true rfl) ?_
              refine W.eq (g2 := F0 m 86 ls [.int (nI r92)]) rfl ?_
              refine lv_istore_n (lv' := [(3, .int (nI r92)), (2, .int (nI lz)), (1, .int (nI lz)), (4, .int (nI lz)), (0, .ref h0)]) hx hb dX12_listOfNames_86 rfl hl (by decide) rfl (fun ls hl => ?_)
              refine lv_goto (tgt := 6) hx hb dX12_listOfNames_87 (by decide) ?_
              have hno : ¬ 0 < fa := by omega
              obtain ⟨kz99, hk1, hk2, hk3, hk4⟩ := kz_of (mo := r92) (a2 := at91) (T := T) (by omega) (by omega) (by omega)
              have hP : va_P G.1 pCl (mW G h0 a (upd (upd (upd (upd F 15 (nI fa35)) 16 pl36) 34 (nI (lz + 1))) 64 (nI at91)) (updA (updA (updA B 2 K) 22 (upd lt lz (nI at2))) 23 (upd (upd ln lz (-1)) p86 (nI lz)))) _ := hP
              have hD : va_D A (mW G h0 a (upd (upd (upd (upd F 15 (nI fa35)) 16 pl36) 34 (nI (lz + 1))) 64 (nI at91)) (updA (updA (updA B 2 K) 22 (upd lt lz (nI at2))) 23 (upd (upd ln lz (-1)) p86 (nI lz)))) := mW_D hD
              exact ih_o kz99 at91 fa35 (lz + 1) r92 pl36 (nI lz) (nI lz) (upd lt lz (nI at2)) (upd (upd ln lz (-1)) p86 (nI lz)) _ _ _ hk1 (by omega) (by omega) hk2 hk3 hk4 (by omega) (by omega) (by omega) (by omega) (by omega) (by omega) (by omega) (fun h9 => absurd h9 hno) (fun h9 => absurd h9 hno) (lsRow_link (lsRow_new hlr2 ha3) hp87) (Or.inr ⟨lz, by omega, rfl⟩) (Or.inr ⟨lz, by omega, rfl⟩) hP hD hS (lv_sub hl [0, 1, 2, 4] rfl)
  have hP : va_P G.1 pCl (mW G h0 a (upd (upd (upd (upd F 15 (nI fa)) 16 (F 16)) 34 (nI ls0)) 64 (nI at0)) (updA (updA (updA B 2 K) 22 lt0) 23 ln0)) _ := mW_to (F := F) (l1 := [(15, (nI fa)), (34, (nI ls0)), (64, (nI at0))]) (l2 := [(15, (nI fa)), (16, (F 16)), (34, (nI ls0)), (64, (nI at0))]) (V := [(nI fa), (nI ls0), (nI at0), (nI fa), (F 16), (nI ls0), (nI at0)]) rfl rfl rfl hP
  have hD : va_D A (mW G h0 a (upd (upd (upd (upd F 15 (nI fa)) 16 (F 16)) 34 (nI ls0)) 64 (nI at0)) (updA (updA (updA B 2 K) 22 lt0) 23 ln0)) := mW_D hD
  exact loop_o ((T + 1) + 1) at0 at0 fa ls0 1 (F 16) (-1) (-1) lt0 ln0 _ _ _ (by omega) (by omega) (by omega) (by omega) (by omega) (by omega) (by omega) (by omega) (by omega) (by omega) (by omega) (by omega) (by omega) (fun _ => ⟨rfl, rfl⟩) (fun _ => rfl) hlr (Or.inl rfl) (Or.inl rfl) hP hD hS (lv_sub hl [0, 1, 2, 3] rfl)
