section PW
variable {p : Program} {l : Launch} {e : Env} {R : Room} {s : State} {m : MethodId} {args : Array Value} {below : List Frame} {meth : Method} {c : Code} {H : Heap} {locs : List Loc} {cells slots : Nat} {Q : State → Prop}
variable {cc : ByteArray} {pc : Nat} {ls : Array Slot} {rest : List Value}
theorem pn_ldcSW (hexec : p.tables.exec = Jvm.exec) (hb : c.code = cc) {own tx : String} {index q : Nat} (hown : s.vm.findClass own = some m.cls) (hZ : vk_R own index tx q s) (hdg : decode cc pc = .ok (.ldc_w index, 3))
    (k : W p l e R s m args below meth c H locs cells slots Q (F0 m (pc + 3) ls (.ref q :: rest))) : W p l e R s m args below meth c H locs cells slots Q (F0 m pc ls rest) := by
  intro T hT X
  obtain ⟨t, a1, b1⟩ := k T hT X
  exact ⟨t, Stand.ldcStringW X hexec hown (text := tx) (a := q) hZ.1 hZ.2 (g := F0 m pc ls rest) rfl (by rw [hb]; exact hdg) t a1, b1⟩
end PW
theorem nI_mulN (a b : Nat) : nI a * nI b = nI (a * b) := by
  unfold nI
  exact (Int32.ofNat_mul a b).symm
theorem dX12_ch_0 : decode cX12_ch 0 = .ok (.iload_n 1, 1) := by decide +kernel
theorem dX12_ch_1 : decode cX12_ch 1 = .ok (.aload_n 0, 1) := by decide +kernel
theorem dX12_ch_2 : decode cX12_ch 2 = .ok (.getfield 258, 3) := by decide +kernel
theorem dX12_ch_5 : decode cX12_ch 5 = .ok (.if_icmp .ge 12, 3) := by decide +kernel
theorem dX12_ch_17 : decode cX12_ch 17 = .ok (.iconst (-1), 1) := by decide +kernel
theorem dX12_ch_18 : decode cX12_ch 18 = .ok (.ireturn, 1) := by decide +kernel
set_option maxHeartbeats 4000000 in
set_option maxRecDepth 100000 in
/-- ch(0) of an empty text: NONE -/
theorem m_ch (l : Launch) (G : pT) (h0 : Nat) (a : Nat → Nat) (fs : List Value) (hn : fs.length = 134) (hf_4 : fs[4]? = some (.int 0)) : PM l G pX0 yX12_ch cX12_ch 2 (some .int) ({ frames := 2, cells := 0, slots := 0, locals := 60 }) [.ref h0, .int 0] [(h0, .inr (9, fs))] (fun (v : Option Value) (u : Unit) => v = some (.int (-1))) (fun u => [(h0, .inr (9, fs))]) := by
  intro sz
  refine Met.ofW (cc := cX12_ch) (maxL := 2) (ret := (some .int)) (by decide) rfl ?_
  intro p e s m args below meth c s₁ B hml hv
  obtain ⟨rfl, hsz, hP, hD0, hE, hX⟩ := hv
  have hx := B.exec
  have hb := B.bytes
  have hr := B.returns
  have hts := atoms_spec (ws := Cond.code yX12_ch cX12_ch 2 (some .int) :: pw) B.pre
  have hq : ∀ w ∈ pw, w.before _ s = true := fun w h => hts w (List.mem_cons_of_mem _ h)
  have hown : s.vm.findClass RX12 = some m.cls := findClass_of_methodNamed B.named
  have hlocks := B.notSynchronized
  subst hsz
  have hD := hD0.self (sz := s.heap.size)
  have hA : ∀ q : Nat, s.heap.size ≤ q → va_A [(h0, .inr (9, fs))] s.heap.size q := fun q h => Or.inr h
  have hP : va_P G.1 pCl [(h0, .inr (9, fs))] s.heap := hP
  generalize va_A [(h0, .inr (9, fs))] s.heap.size = A at hD hE hA ⊢
  have hS : va_S A s.heap s.heap [] := va_S.rf
  have hl := lv_entry ([.ref h0, .int 0]) (n := 2) (Nat.le_of_ble_eq_true rfl)
  rw [lg_entry_eq]
  generalize (lg_sl ([.ref h0, .int 0]) ++ List.replicate (2 - (lg_sl ([.ref h0, .int 0])).length) Slot.unset).toArray = ls at hl ⊢
  have hl : lv_has ls 2 [(0, .ref h0), (1, .int 0)] := hl
  refine lv_iload_n hx hb dX12_ch_0 rfl (lv_at hl 1 rfl) ?_
  refine lv_aload_n hx hb dX12_ch_1 rfl (lv_at hl 0 rfl) ?_
  refine va_get (D := G.1) (ci := 9) (v := .int 0) (C := RX12) (T := TX12) (N := 134) hx hb hq pin_wsX120 hown hE.1.1 hP 0 rfl rfl 4 (by decide) (by rw [tFX12_4]; exact hq _ pw_261) (fun _ h9 => h9) hf_4 dX12_ch_2 ?_
  refine lv_icmp_ge (tgt := 17) hx hb dX12_ch_5 (by decide) (fun c1 => ?_) (fun c1 => absurd c1 (by decide))
  refine lv_iconst (v := (-1)) hx hb dX12_ch_17 (by decide) ?_
  refine W.widen (k := 0) (n := 0) (Nat.le_of_ble_eq_true rfl) (Nat.le_of_ble_eq_true rfl) ?_
  exact W.iret (v := (-1)) hx hb hr (fun t ht hW => ⟨⟨_, (), rfl, rfl, by rw [ht]; exact hP.sub [0] rfl, hD.sub [0] (by decide) rfl⟩, hS.F ht⟩) hS.2.2 dX12_ch_18
theorem dX12_built_0 : decode cX12_built 0 = .ok (.aload_n 0, 1) := by decide +kernel
theorem dX12_built_1 : decode cX12_built 1 = .ok (.getfield 28, 3) := by decide +kernel
theorem dX12_built_4 : decode cX12_built 4 = .ok (.aload_n 0, 1) := by decide +kernel
theorem dX12_built_5 : decode cX12_built 5 = .ok (.getfield 277, 3) := by decide +kernel
theorem dX12_built_8 : decode cX12_built 8 = .ok (.aload_n 0, 1) := by decide +kernel
theorem dX12_built_9 : decode cX12_built 9 = .ok (.getfield 280, 3) := by decide +kernel
theorem dX12_built_12 : decode cX12_built 12 = .ok (.iastore, 1) := by decide +kernel
theorem dX12_built_13 : decode cX12_built 13 = .ok (.aload_n 0, 1) := by decide +kernel
theorem dX12_built_14 : decode cX12_built 14 = .ok (.getfield 31, 3) := by decide +kernel
theorem dX12_built_17 : decode cX12_built 17 = .ok (.aload_n 0, 1) := by decide +kernel
theorem dX12_built_18 : decode cX12_built 18 = .ok (.getfield 277, 3) := by decide +kernel
theorem dX12_built_21 : decode cX12_built 21 = .ok (.aload_n 1, 1) := by decide +kernel
theorem dX12_built_22 : decode cX12_built 22 = .ok (.invokevirtual 267, 3) := by decide +kernel
theorem dX12_built_25 : decode cX12_built 25 = .ok (.iastore, 1) := by decide +kernel
theorem dX12_built_26 : decode cX12_built 26 = .ok (.iconst 0, 1) := by decide +kernel
theorem dX12_built_27 : decode cX12_built 27 = .ok (.istore_n 2, 1) := by decide +kernel
theorem dX12_built_28 : decode cX12_built 28 = .ok (.iload_n 2, 1) := by decide +kernel
theorem dX12_built_29 : decode cX12_built 29 = .ok (.aload_n 1, 1) := by decide +kernel
theorem dX12_built_30 : decode cX12_built 30 = .ok (.invokevirtual 267, 3) := by decide +kernel
theorem dX12_built_33 : decode cX12_built 33 = .ok (.if_icmp .ge 34, 3) := by decide +kernel
theorem dX12_built_67 : decode cX12_built 67 = .ok (.aload_n 0, 1) := by decide +kernel
theorem dX12_built_68 : decode cX12_built 68 = .ok (.dup, 1) := by decide +kernel
theorem dX12_built_69 : decode cX12_built 69 = .ok (.getfield 277, 3) := by decide +kernel
theorem dX12_built_72 : decode cX12_built 72 = .ok (.iconst 1, 1) := by decide +kernel
theorem dX12_built_73 : decode cX12_built 73 = .ok (.iadd, 1) := by decide +kernel
theorem dX12_built_74 : decode cX12_built 74 = .ok (.putfield 277, 3) := by decide +kernel
theorem dX12_built_77 : decode cX12_built 77 = .ok (.return_, 1) := by decide +kernel
theorem dX12_built_36 : decode cX12_built 36 = .ok (.aload_n 0, 1) := by decide +kernel
theorem dX12_built_37 : decode cX12_built 37 = .ok (.getfield 34, 3) := by decide +kernel
theorem dX12_built_40 : decode cX12_built 40 = .ok (.aload_n 0, 1) := by decide +kernel
theorem dX12_built_41 : decode cX12_built 41 = .ok (.getfield 280, 3) := by decide +kernel
theorem dX12_built_44 : decode cX12_built 44 = .ok (.aload_n 1, 1) := by decide +kernel
theorem dX12_built_45 : decode cX12_built 45 = .ok (.iload_n 2, 1) := by decide +kernel
theorem dX12_built_46 : decode cX12_built 46 = .ok (.invokevirtual 273, 3) := by decide +kernel
theorem dX12_built_49 : decode cX12_built 49 = .ok (.i2b, 1) := by decide +kernel
theorem dX12_built_50 : decode cX12_built 50 = .ok (.bastore, 1) := by decide +kernel
theorem dX12_built_51 : decode cX12_built 51 = .ok (.aload_n 0, 1) := by decide +kernel
theorem dX12_built_52 : decode cX12_built 52 = .ok (.dup, 1) := by decide +kernel
theorem dX12_built_53 : decode cX12_built 53 = .ok (.getfield 280, 3) := by decide +kernel
theorem dX12_built_56 : decode cX12_built 56 = .ok (.iconst 1, 1) := by decide +kernel
theorem dX12_built_57 : decode cX12_built 57 = .ok (.iadd, 1) := by decide +kernel
theorem dX12_built_58 : decode cX12_built 58 = .ok (.putfield 280, 3) := by decide +kernel
theorem dX12_built_61 : decode cX12_built 61 = .ok (.iinc 2 1, 3) := by decide +kernel
theorem dX12_built_64 : decode cX12_built 64 = .ok (.goto (-36), 3) := by decide +kernel
set_option maxHeartbeats 4000000 in
set_option maxRecDepth 100000 in
/-- built of a constant -/
theorem m_built (l : Launch) (G : pT) (h0 : Nat) (a : Nat → Nat) (fs : List Value) (i : Nat) (n : Nat) (ub : Nat) (tb : Nat) (f10 : Nat → Int32) (f11 : Nat → Int32) (f12 : Nat → Int32) (hn : fs.length = 134) (hf_14 : fs[14]? = some (.int (nI n))) (hf_13 : fs[13]? = some (.int (nI ub))) (hf_10 : fs[10]? = some (.ref (a 6))) (hf_11 : fs[11]? = some (.ref (a 7))) (hf_12 : fs[12]? = some (.ref (a 8))) (hi : i < 15) (ht : sLen.getD i 0 = tb) (hnn : n < 100) (huu : ub + tb < 1000) : PM l G pX0 yX12_built cX12_built 3 none ({ frames := 6, cells := 0, slots := 0, locals := 145 }) [.ref h0, .ref (G.2.2.1 i)] [(h0, .inr (9, fs)), ((a 6), .inl (G.2.1 0, 5100, .inl f10)), ((a 7), .inl (G.2.1 0, 5100, .inl f11)), ((a 8), .inl (G.2.1 1, 5100, .inl f12))] (fun (v : Option Value) (u : List Value × (Nat → Int32) × (Nat → Int32) × (Nat → Int32)) => v = none ∧ u.1.length = 134 ∧ u.1[13]? = some (.int (nI (ub + tb))) ∧ u.1[14]? = some (.int (nI (n + 1))) ∧ (∀ j : Nat, j ≠ 13 → j ≠ 14 → u.1[j]? = fs[j]?)) (fun u => [(h0, .inr (9, u.1)), ((a 6), .inl (G.2.1 0, 5100, .inl u.2.1)), ((a 7), .inl (G.2.1 0, 5100, .inl u.2.2.1)), ((a 8), .inl (G.2.1 1, 5100, .inl u.2.2.2))]) := by
  intro sz
  refine Met.ofW (cc := cX12_built) (maxL := 3) (ret := none) (by decide) rfl ?_
  intro p e s m args below meth c s₁ B hml hv
  obtain ⟨rfl, hsz, hP, hD0, hE, hX⟩ := hv
  have hx := B.exec
  have hb := B.bytes
  have hr := B.returns
  have hts := atoms_spec (ws := Cond.code yX12_built cX12_built 3 none :: pw) B.pre
  have hq : ∀ w ∈ pw, w.before _ s = true := fun w h => hts w (List.mem_cons_of_mem _ h)
  have hown : s.vm.findClass RX12 = some m.cls := findClass_of_methodNamed B.named
  have hlocks := B.notSynchronized
  subst hsz
  have hD := hD0.self (sz := s.heap.size)
  have hA : ∀ q : Nat, s.heap.size ≤ q → va_A [(h0, .inr (9, fs)), ((a 6), .inl (G.2.1 0, 5100, .inl f10)), ((a 7), .inl (G.2.1 0, 5100, .inl f11)), ((a 8), .inl (G.2.1 1, 5100, .inl f12))] s.heap.size q := fun q h => Or.inr h
  have hP : va_P G.1 pCl [(h0, .inr (9, fs)), ((a 6), .inl (G.2.1 0, 5100, .inl f10)), ((a 7), .inl (G.2.1 0, 5100, .inl f11)), ((a 8), .inl (G.2.1 1, 5100, .inl f12))] s.heap := hP
  generalize va_A [(h0, .inr (9, fs)), ((a 6), .inl (G.2.1 0, 5100, .inl f10)), ((a 7), .inl (G.2.1 0, 5100, .inl f11)), ((a 8), .inl (G.2.1 1, 5100, .inl f12))] s.heap.size = A at hD hE hA ⊢
  have hS : va_S A s.heap s.heap [] := va_S.rf
  have hl := lv_entry ([.ref h0, .ref (G.2.2.1 i)]) (n := 3) (Nat.le_of_ble_eq_true rfl)
  rw [lg_entry_eq]
  generalize (lg_sl ([.ref h0, .ref (G.2.2.1 i)]) ++ List.replicate (3 - (lg_sl ([.ref h0, .ref (G.2.2.1 i)])).length) Slot.unset).toArray = ls at hl ⊢
  have hl : lv_has ls 3 [(0, .ref h0), (1, .ref (G.2.2.1 i))] := hl
  refine lv_aload_n hx hb dX12_built_0 rfl (lv_at hl 0 rfl) ?_
  refine va_get (D := G.1) (ci := 9) (v := .ref (a 6)) (C := RX12) (T := TX12) (N := 134) hx hb hq pin_wsX120 hown hE.1.1 hP 0 rfl rfl 10 (by decide) (by rw [tFX12_10]; exact hq _ pw_184) (fun _ h9 => h9) hf_10 dX12_built_1 ?_
  refine lv_aload_n hx hb dX12_built_4 rfl (lv_at hl 0 rfl) ?_
  refine va_get (D := G.1) (ci := 9) (v := .int (nI n)) (C := RX12) (T := TX12) (N := 134) hx hb hq pin_wsX120 hown hE.1.1 hP 0 rfl rfl 14 (by decide) (by rw [tFX12_14]; exact hq _ pw_262) (fun _ h9 => h9) hf_14 dX12_built_5 ?_
  refine lv_aload_n hx hb dX12_built_8 rfl (lv_at hl 0 rfl) ?_
  refine va_get (D := G.1) (ci := 9) (v := .int (nI ub)) (C := RX12) (T := TX12) (N := 134) hx hb hq pin_wsX120 hown hE.1.1 hP 0 rfl rfl 13 (by decide) (by rw [tFX12_13]; exact hq _ pw_263) (fun _ h9 => h9) hf_13 dX12_built_9 ?_
  refine va_iast hx hb hE.1.1 hP hD hS 1 0 rfl rfl (vp_in_nI (by omega) (by decide)) dX12_built_12 (fun H locs hP hD hS => ?_)
  have hP : va_P G.1 pCl [(h0, .inr (9, fs)), ((a 6), .inl (G.2.1 0, 5100, .inl (upd f10 (Int32.toNatClampNeg (nI n)) (nI ub)))), ((a 7), .inl (G.2.1 0, 5100, .inl f11)), ((a 8), .inl (G.2.1 1, 5100, .inl f12))] H := hP
  have hD : va_D A [(h0, .inr (9, fs)), ((a 6), .inl (G.2.1 0, 5100, .inl (upd f10 (Int32.toNatClampNeg (nI n)) (nI ub)))), ((a 7), .inl (G.2.1 0, 5100, .inl f11)), ((a 8), .inl (G.2.1 1, 5100, .inl f12))] := hD
  generalize (upd f10 (Int32.toNatClampNeg (nI n)) (nI ub)) = f1 at hP hD
  refine lv_aload_n hx hb dX12_built_13 rfl (lv_at hl 0 rfl) ?_
  refine va_get (D := G.1) (ci := 9) (v := .ref (a 7)) (C := RX12) (T := TX12) (N := 134) hx hb hq pin_wsX120 hown hE.1.1 hP 0 rfl rfl 11 (by decide) (by rw [tFX12_11]; exact hq _ pw_185) (fun _ h9 => h9) hf_11 dX12_built_14 ?_
  refine lv_aload_n hx hb dX12_built_17 rfl (lv_at hl 0 rfl) ?_
  refine va_get (D := G.1) (ci := 9) (v := .int (nI n)) (C := RX12) (T := TX12) (N := 134) hx hb hq pin_wsX120 hown hE.1.1 hP 0 rfl rfl 14 (by decide) (by rw [tFX12_14]; exact hq _ pw_262) (fun _ h9 => h9) hf_14 dX12_built_18 ?_
  refine lv_aload_n hx hb dX12_built_21 rfl (lv_at hl 1 rfl) ?_
  refine pc_VR (G := G) (As := []) (rest := [.int (nI n), .ref (a 7)]) (wr := [(h0, .inr (9, fs)), ((a 6), .inl (G.2.1 0, 5100, .inl f1)), ((a 7), .inl (G.2.1 0, 5100, .inl f11)), ((a 8), .inl (G.2.1 1, 5100, .inl f12))]) hx hb hml hown hq hE hX pX0_al hP hD hS hA hl.1 (c_length l G i hi) (gV pw_264 pw_599 pw_600 pw_601 pw_598) hV_J0_length_8abf5 (vk_recv hE.2.1 hi hS) [] [0, 1, 2, 3] rfl rfl (by decide) (by decide) (by decide) rfl (Nat.le_of_ble_eq_true rfl) dX12_built_22 ⟨Nat.le_of_ble_eq_true rfl, Nat.le_of_ble_eq_true rfl⟩ ⟨Nat.le_of_ble_eq_true rfl, Nat.le_of_ble_eq_true rfl⟩ (fun v4 u2 H locs hw3 hP hD hS => ?_)
  obtain rfl : v4 = some (.int (nI (sLen.getD i 0))) := hw3
  have hP : va_P G.1 pCl [(h0, .inr (9, fs)), ((a 6), .inl (G.2.1 0, 5100, .inl f1)), ((a 7), .inl (G.2.1 0, 5100, .inl f11)), ((a 8), .inl (G.2.1 1, 5100, .inl f12))] H := hP
  have hD : va_D A [(h0, .inr (9, fs)), ((a 6), .inl (G.2.1 0, 5100, .inl f1)), ((a 7), .inl (G.2.1 0, 5100, .inl f11)), ((a 8), .inl (G.2.1 1, 5100, .inl f12))] := hD
  refine W.widen (k := 0) (n := 0) (Nat.le_of_ble_eq_true rfl) (Nat.le_of_ble_eq_true rfl) ?_
  refine W.eq (g2 := F0 m 25 ls [.int (nI (sLen.getD i 0)), .int (nI n), .ref (a 7)]) rfl ?_
  refine va_iast hx hb hE.1.1 hP hD hS 2 0 rfl rfl (vp_in_nI (by omega) (by decide)) dX12_built_25 (fun H locs hP hD hS => ?_)
  have hP : va_P G.1 pCl [(h0, .inr (9, fs)), ((a 6), .inl (G.2.1 0, 5100, .inl f1)), ((a 7), .inl (G.2.1 0, 5100, .inl (upd f11 (Int32.toNatClampNeg (nI n)) (nI (sLen.getD i 0))))), ((a 8), .inl (G.2.1 1, 5100, .inl f12))] H := hP
  have hD : va_D A [(h0, .inr (9, fs)), ((a 6), .inl (G.2.1 0, 5100, .inl f1)), ((a 7), .inl (G.2.1 0, 5100, .inl (upd f11 (Int32.toNatClampNeg (nI n)) (nI (sLen.getD i 0))))), ((a 8), .inl (G.2.1 1, 5100, .inl f12))] := hD
  generalize (upd f11 (Int32.toNatClampNeg (nI n)) (nI (sLen.getD i 0))) = f5 at hP hD
  refine lv_iconst (v := 0) hx hb dX12_built_26 (by decide) ?_
  refine lv_istore_n (lv' := [(2, .int 0), (0, .ref h0), (1, .ref (G.2.2.1 i))]) hx hb dX12_built_27 rfl hl (by decide) rfl (fun ls hl => ?_)
  have loop_b : ∀ (n_b k : Nat) (fl : List Value) (gl : Nat → Int32) (H : Heap) (locs : List Loc) (ls : Array Slot), k ≤ tb → tb + 1 ≤ k + n_b → (fl.length = 134) → (fl[13]? = some (.int (nI (ub + k)))) → (∀ j : Nat, j ≠ 13 → fl[j]? = fs[j]?) → va_P G.1 pCl [(h0, .inr (9, fl)), ((a 6), .inl (G.2.1 0, 5100, .inl f1)), ((a 7), .inl (G.2.1 0, 5100, .inl f5)), ((a 8), .inl (G.2.1 1, 5100, .inl gl))] H → va_D A [(h0, .inr (9, fl)), ((a 6), .inl (G.2.1 0, 5100, .inl f1)), ((a 7), .inl (G.2.1 0, 5100, .inl f5)), ((a 8), .inl (G.2.1 1, 5100, .inl gl))] → va_S A s.heap H locs → lv_has ls 3 [(2, .int (nI k)), (0, .ref h0), (1, .ref (G.2.2.1 i))] → W p l e (headSpec (Cond.code yX12_built cX12_built 3 none :: pw) ({ frames := 6, cells := 0, slots := 0, locals := 145 } : Room)).room s m ([.ref h0, .ref (G.2.2.1 i)] : List Value).toArray below meth c H locs 0 0 (MQ below (pQ G A (fun (v : Option Value) (u : List Value × (Nat → Int32) × (Nat → Int32) × (Nat → Int32)) => v = none ∧ u.1.length = 134 ∧ u.1[13]? = some (.int (nI (ub + tb))) ∧ u.1[14]? = some (.int (nI (n + 1))) ∧ (∀ j : Nat, j ≠ 13 → j ≠ 14 → u.1[j]? = fs[j]?)) (fun u => [(h0, .inr (9, u.1)), ((a 6), .inl (G.2.1 0, 5100, .inl u.2.1)), ((a 7), .inl (G.2.1 0, 5100, .inl u.2.2.1)), ((a 8), .inl (G.2.1 1, 5100, .inl u.2.2.2))])) ([.ref h0, .ref (G.2.2.1 i)] : List Value).toArray s ({ frames := 6, cells := 0, slots := 0, locals := 145 } : Room).cells ({ frames := 6, cells := 0, slots := 0, locals := 145 } : Room).slots A) (F0 m 28 ls []) := by
    intro n_b
    induction n_b with
    | zero => intro k fl gl H locs ls hk_b hn_b; omega
    | succ n_b ih_b =>
      intro k fl gl H locs ls hk_b hn_b hnl hul hfl hP hD hS hl
      refine lv_iload_n hx hb dX12_built_28 rfl (lv_at hl 0 rfl) ?_
      refine lv_aload_n hx hb dX12_built_29 rfl (lv_at hl 2 rfl) ?_
      refine pc_VR (G := G) (As := []) (rest := [.int (nI k)]) (wr := [(h0, .inr (9, fl)), ((a 6), .inl (G.2.1 0, 5100, .inl f1)), ((a 7), .inl (G.2.1 0, 5100, .inl f5)), ((a 8), .inl (G.2.1 1, 5100, .inl gl))]) hx hb hml hown hq hE hX pX0_al hP hD hS hA hl.1 (c_length l G i hi) (gV pw_264 pw_599 pw_600 pw_601 pw_598) hV_J0_length_8abf5 (vk_recv hE.2.1 hi hS) [] [0, 1, 2, 3] rfl rfl (by decide) (by decide) (by decide) rfl (Nat.le_of_ble_eq_true rfl) dX12_built_30 ⟨Nat.le_of_ble_eq_true rfl, Nat.le_of_ble_eq_true rfl⟩ ⟨Nat.le_of_ble_eq_true rfl, Nat.le_of_ble_eq_true rfl⟩ (fun v8 u6 H locs hw7 hP hD hS => ?_)
      obtain rfl : v8 = some (.int (nI (sLen.getD i 0))) := hw7
      have hP : va_P G.1 pCl [(h0, .inr (9, fl)), ((a 6), .inl (G.2.1 0, 5100, .inl f1)), ((a 7), .inl (G.2.1 0, 5100, .inl f5)), ((a 8), .inl (G.2.1 1, 5100, .inl gl))] H := hP
      have hD : va_D A [(h0, .inr (9, fl)), ((a 6), .inl (G.2.1 0, 5100, .inl f1)), ((a 7), .inl (G.2.1 0, 5100, .inl f5)), ((a 8), .inl (G.2.1 1, 5100, .inl gl))] := hD
      refine W.widen (k := 0) (n := 0) (Nat.le_of_ble_eq_true rfl) (Nat.le_of_ble_eq_true rfl) ?_
      refine W.eq (g2 := F0 m 33 ls [.int (nI (sLen.getD i 0)), .int (nI k)]) rfl ?_
      refine lv_icmp_ge (tgt := 67) hx hb dX12_built_33 (by decide) (fun c9 => ?_) (fun c9 => ?_)
      · have hkt : k = tb := Nat.le_antisymm hk_b (Nat.le_of_not_lt (fun h => absurd c9 (by rw [ht]; exact nI_ge h (by omega))))
        rw [hkt] at hul
        refine lv_aload_n hx hb dX12_built_67 rfl (lv_at hl 1 rfl) ?_
        refine lv_dup hx hb dX12_built_68 rfl ?_
        refine va_get (D := G.1) (ci := 9) (v := .int (nI n)) (C := RX12) (T := TX12) (N := 134) hx hb hq pin_wsX120 hown hE.1.1 hP 0 rfl rfl 14 (by decide) (by rw [tFX12_14]; exact hq _ pw_262) (fun _ h9 => h9) (by rw [hfl 14 (by decide)]; exact hf_14) dX12_built_69 ?_
        refine lv_iconst (v := 1) hx hb dX12_built_72 (by decide) ?_
        refine lv_iadd hx hb dX12_built_73 ?_
        refine lv_topi (fun x10 e11 => ?_)
        obtain rfl : x10 = nI (n + 1) := e11.trans (nI_add (n) (1))
        refine va_put (D := G.1) (ci := 9) (v := .int (nI (n + 1))) (ty := .int) (C := RX12) (T := TX12) (N := 134) hx hb hq pin_wsX120 tyX12 tyX12_ok nmX12 hown hE.1.1 hP hD hS 0 rfl rfl 14 (by decide) (by rw [tFX12_14]; exact hq _ pw_262) (fun _ h9 => h9) (by rw [tFX12_14]) (by rw [tFX12_14]; decide +kernel) rfl rfl (by rw [hnl]; decide) dX12_built_74 (fun H locs hP hD hS => ?_)
        obtain ⟨fs12, e13⟩ : ∃ z : List Value, z = fl.set 14 (.int (nI (n + 1))) := ⟨_, rfl⟩
        have hn14 : fs12.length = 134 := by rw [e13, List.length_set]; exact hnl
        have hP : va_P G.1 pCl [(h0, .inr (9, fs12)), ((a 6), .inl (G.2.1 0, 5100, .inl f1)), ((a 7), .inl (G.2.1 0, 5100, .inl f5)), ((a 8), .inl (G.2.1 1, 5100, .inl gl))] H := by rw [e13]; exact hP
        have hD : va_D A [(h0, .inr (9, fs12)), ((a 6), .inl (G.2.1 0, 5100, .inl f1)), ((a 7), .inl (G.2.1 0, 5100, .inl f5)), ((a 8), .inl (G.2.1 1, 5100, .inl gl))] := by rw [e13]; exact hD
        refine W.widen (k := 0) (n := 0) (Nat.le_of_ble_eq_true rfl) (Nat.le_of_ble_eq_true rfl) ?_
        exact W.vret hx hb hr (fun t ht hW => ⟨⟨_, (fs12, f1, f5, gl), rfl, ⟨rfl, hn14, (by rw [e13, List.getElem?_set_ne (by decide)]; exact hul), (by rw [e13]; exact List.getElem?_set_self (by rw [hnl]; decide)), (fun j h_13 h_14 => by rw [e13, List.getElem?_set_ne (Ne.symm h_14), hfl j h_13])⟩, by rw [ht]; exact hP.sub [0, 1, 2, 3] rfl, hD.sub [0, 1, 2, 3] (by decide) rfl⟩, hS.F ht⟩) hS.2.2 dX12_built_77
      · have hlt : k < tb := Nat.lt_of_not_le (fun h => c9 (by rw [ht]; exact nI_le h (by omega)))
        refine lv_aload_n hx hb dX12_built_36 rfl (lv_at hl 1 rfl) ?_
        refine va_get (D := G.1) (ci := 9) (v := .ref (a 8)) (C := RX12) (T := TX12) (N := 134) hx hb hq pin_wsX120 hown hE.1.1 hP 0 rfl rfl 12 (by decide) (by rw [tFX12_12]; exact hq _ pw_186) (fun _ h9 => h9) (by rw [hfl 12 (by decide)]; exact hf_12) dX12_built_37 ?_
        refine lv_aload_n hx hb dX12_built_40 rfl (lv_at hl 1 rfl) ?_
        refine va_get (D := G.1) (ci := 9) (v := .int (nI (ub + k))) (C := RX12) (T := TX12) (N := 134) hx hb hq pin_wsX120 hown hE.1.1 hP 0 rfl rfl 13 (by decide) (by rw [tFX12_13]; exact hq _ pw_263) (fun _ h9 => h9) hul dX12_built_41 ?_
        refine lv_aload_n hx hb dX12_built_44 rfl (lv_at hl 2 rfl) ?_
        refine lv_iload_n hx hb dX12_built_45 rfl (lv_at hl 0 rfl) ?_
        refine pc_VR (G := G) (As := [.int (nI k)]) (rest := [.int (nI (ub + k)), .ref (a 8)]) (wr := [(h0, .inr (9, fl)), ((a 6), .inl (G.2.1 0, 5100, .inl f1)), ((a 7), .inl (G.2.1 0, 5100, .inl f5)), ((a 8), .inl (G.2.1 1, 5100, .inl gl))]) hx hb hml hown hq hE hX pX0_al hP hD hS hA hl.1 (c_charAt l G i k hi (by rw [ht]; exact hlt)) (gV pw_265 pw_606 pw_607 pw_601 pw_605) hV_J0_charAt_5068e (vk_recv hE.2.1 hi hS) [] [0, 1, 2, 3] rfl rfl (by decide) (by decide) (by decide) rfl (Nat.le_of_ble_eq_true rfl) dX12_built_46 ⟨Nat.le_of_ble_eq_true rfl, Nat.le_of_ble_eq_true rfl⟩ ⟨Nat.le_of_ble_eq_true rfl, Nat.le_of_ble_eq_true rfl⟩ (fun v17 u15 H locs hw16 hP hD hS => ?_)
        obtain ⟨x18, rfl, hc19⟩ := hw16
        have hP : va_P G.1 pCl [(h0, .inr (9, fl)), ((a 6), .inl (G.2.1 0, 5100, .inl f1)), ((a 7), .inl (G.2.1 0, 5100, .inl f5)), ((a 8), .inl (G.2.1 1, 5100, .inl gl))] H := hP
        have hD : va_D A [(h0, .inr (9, fl)), ((a 6), .inl (G.2.1 0, 5100, .inl f1)), ((a 7), .inl (G.2.1 0, 5100, .inl f5)), ((a 8), .inl (G.2.1 1, 5100, .inl gl))] := hD
        refine W.widen (k := 0) (n := 0) (Nat.le_of_ble_eq_true rfl) (Nat.le_of_ble_eq_true rfl) ?_
        refine W.eq (g2 := F0 m 49 ls [.int x18, .int (nI (ub + k)), .ref (a 8)]) rfl ?_
        refine lv_i2b hx hb dX12_built_49 rfl ?_
        refine lv_topi (fun x20 e21 => ?_)
        refine va_bast hx hb hE.1.1 hP hD hS 3 1 rfl rfl (vp_in_nI (by omega) (by decide)) dX12_built_50 (fun H locs hP hD hS => ?_)
        have hP : va_P G.1 pCl [(h0, .inr (9, fl)), ((a 6), .inl (G.2.1 0, 5100, .inl f1)), ((a 7), .inl (G.2.1 0, 5100, .inl f5)), ((a 8), .inl (G.2.1 1, 5100, .inl (upd gl (Int32.toNatClampNeg (nI (ub + k))) (vp_nar .byte x20))))] H := hP
        have hD : va_D A [(h0, .inr (9, fl)), ((a 6), .inl (G.2.1 0, 5100, .inl f1)), ((a 7), .inl (G.2.1 0, 5100, .inl f5)), ((a 8), .inl (G.2.1 1, 5100, .inl (upd gl (Int32.toNatClampNeg (nI (ub + k))) (vp_nar .byte x20))))] := hD
        generalize (upd gl (Int32.toNatClampNeg (nI (ub + k))) (vp_nar .byte x20)) = f22 at hP hD
        refine lv_aload_n hx hb dX12_built_51 rfl (lv_at hl 1 rfl) ?_
        refine lv_dup hx hb dX12_built_52 rfl ?_
        refine va_get (D := G.1) (ci := 9) (v := .int (nI (ub + k))) (C := RX12) (T := TX12) (N := 134) hx hb hq pin_wsX120 hown hE.1.1 hP 0 rfl rfl 13 (by decide) (by rw [tFX12_13]; exact hq _ pw_263) (fun _ h9 => h9) hul dX12_built_53 ?_
        refine lv_iconst (v := 1) hx hb dX12_built_56 (by decide) ?_
        refine lv_iadd hx hb dX12_built_57 ?_
        refine lv_topi (fun x23 e24 => ?_)
        obtain rfl : x23 = nI ((ub + k) + 1) := e24.trans (nI_add ((ub + k)) (1))
        refine va_put (D := G.1) (ci := 9) (v := .int (nI ((ub + k) + 1))) (ty := .int) (C := RX12) (T := TX12) (N := 134) hx hb hq pin_wsX120 tyX12 tyX12_ok nmX12 hown hE.1.1 hP hD hS 0 rfl rfl 13 (by decide) (by rw [tFX12_13]; exact hq _ pw_263) (fun _ h9 => h9) (by rw [tFX12_13]) (by rw [tFX12_13]; decide +kernel) rfl rfl (by rw [hnl]; decide) dX12_built_58 (fun H locs hP hD hS => ?_)
        obtain ⟨fs25, e26⟩ : ∃ z : List Value, z = fl.set 13 (.int (nI ((ub + k) + 1))) := ⟨_, rfl⟩
        have hn27 : fs25.length = 134 := by rw [e26, List.length_set]; exact hnl
        have hP : va_P G.1 pCl [(h0, .inr (9, fs25)), ((a 6), .inl (G.2.1 0, 5100, .inl f1)), ((a 7), .inl (G.2.1 0, 5100, .inl f5)), ((a 8), .inl (G.2.1 1, 5100, .inl f22))] H := by rw [e26]; exact hP
        have hD : va_D A [(h0, .inr (9, fs25)), ((a 6), .inl (G.2.1 0, 5100, .inl f1)), ((a 7), .inl (G.2.1 0, 5100, .inl f5)), ((a 8), .inl (G.2.1 1, 5100, .inl f22))] := by rw [e26]; exact hD
        refine lv_iinc (v := (nI (k + 1))) (lv' := [(2, .int (nI (k + 1))), (0, .ref h0), (1, .ref (G.2.2.1 i))]) hx hb dX12_built_61 hl (k := 0) rfl (nI_1 k) (by decide) rfl (fun ls hl => ?_)
        refine lv_goto (tgt := 28) hx hb dX12_built_64 (by decide) ?_
        exact ih_b (k + 1) fs25 f22 _ _ _ (by omega) (by omega) hn27 (by rw [e26]; exact List.getElem?_set_self (by rw [hnl]; decide)) (fun j h_13 => by rw [e26, List.getElem?_set_ne (Ne.symm h_13), hfl j h_13]) hP hD hS (lv_sub hl [0, 1, 2] rfl)
  exact loop_b (tb + 1) 0 fs f12 _ _ _ (by omega) (by omega) hn hf_13 (fun j _ => rfl) hP hD hS (lv_sub hl [0, 1, 2] rfl)
