def Pfront (l : Launch) (G : pT) (n : Nat) : Prop := ∀ (h0 : Nat) (a : Nat → Nat) (F : Nat → Int32) (B : Nat → Nat → Int32) (at0 : Nat) (T : Nat) (K : Nat → Int32) (ne : Nat) (nd : Nat) (wr : Nat) (lk : Int32) (yt : Nat → Int32), (at0 ≤ T) → (T ≤ 5000) → (K T = 0 ∨ K T = 3) → (ne ≤ 20) → (nd ≤ 2 * at0) → (wr ≤ at0) → (tkRow yt wr T) → (21 ≤ n + ne) → PM l G pX0 yX12_front cX12_front 4 (some .int) ({ frames := (20 * n + 14), cells := 0, slots := 0, locals := (1000 * n + 560) }) [.ref h0] (mW G h0 a (upd (upd (upd (upd (upd (upd F 15 0) 27 (nI nd)) 31 (nI wr)) 64 (nI at0)) 65 (nI ne)) 66 lk) (updA (updA B 2 K) 19 yt)) (fun (v : Option Value) (u : Nat × Nat × Int32 × Int32 × Nat × Nat × Nat × (Nat → Int32) × (Nat → Int32) × (Nat → Int32) × (Nat → Int32) × (Nat → Int32) × (Nat → Int32) × (Nat → Int32) × (Nat → Int32) × (Nat → Int32) × (Nat → Int32) × (Nat → Int32) × (Nat → Int32)) => v = some (.int (nI u.2.2.2.2.2.2.1)) ∧ (at0 ≤ u.1) ∧ (u.1 ≤ T) ∧ (u.2.1 ≤ 100) ∧ (nd ≤ u.2.2.2.2.1) ∧ (u.2.2.2.2.1 + 2 * at0 ≤ nd + 2 * u.1 + 100000 * u.2.1) ∧ (u.2.2.2.2.1 + 2 * at0 ≤ nd + 2 * u.1 + 40 * (21 - ne)) ∧ (wr ≤ u.2.2.2.2.2.1) ∧ (u.2.2.2.2.2.1 + at0 ≤ wr + u.1) ∧ (u.2.2.2.2.2.2.1 ≤ u.2.2.2.2.1) ∧ (at0 + 1 ≤ u.1 + u.2.1) ∧ (tkRow u.2.2.2.2.2.2.2.2.2.2.2.2.2.2.2.2.2.1 u.2.2.2.2.2.1 T)) (fun u => (mW G h0 a (upd (upd (upd (upd (upd (upd (upd F 15 (nI u.2.1)) 16 u.2.2.1) 27 (nI u.2.2.2.2.1)) 31 (nI u.2.2.2.2.2.1)) 64 (nI u.1)) 65 (nI ne)) 66 u.2.2.2.1) (updA (updA (updA (updA (updA (updA (updA (updA (updA (updA (updA (updA (updA B 2 K) 9 u.2.2.2.2.2.2.2.1) 10 u.2.2.2.2.2.2.2.2.1) 11 u.2.2.2.2.2.2.2.2.2.1) 12 u.2.2.2.2.2.2.2.2.2.2.1) 13 u.2.2.2.2.2.2.2.2.2.2.2.1) 14 u.2.2.2.2.2.2.2.2.2.2.2.2.1) 15 u.2.2.2.2.2.2.2.2.2.2.2.2.2.1) 16 u.2.2.2.2.2.2.2.2.2.2.2.2.2.2.1) 17 u.2.2.2.2.2.2.2.2.2.2.2.2.2.2.2.1) 18 u.2.2.2.2.2.2.2.2.2.2.2.2.2.2.2.2.1) 19 u.2.2.2.2.2.2.2.2.2.2.2.2.2.2.2.2.2.1) 20 u.2.2.2.2.2.2.2.2.2.2.2.2.2.2.2.2.2.2)))
def Pchain (l : Launch) (G : pT) (n : Nat) : Prop := ∀ (h0 : Nat) (a : Nat → Nat) (F : Nat → Int32) (B : Nat → Nat → Int32) (at0 : Nat) (T : Nat) (K : Nat → Int32) (ne : Nat) (nd : Nat) (wr : Nat) (lk : Int32) (yt : Nat → Int32), (at0 ≤ T) → (T ≤ 5000) → (K T = 0 ∨ K T = 3) → (ne ≤ 20) → (nd ≤ 2 * at0) → (wr ≤ at0) → (tkRow yt wr T) → (21 ≤ n + ne) → PM l G pX0 yX12_chain cX12_chain 4 (some .int) ({ frames := (20 * n + 12), cells := 0, slots := 0, locals := (1000 * n + 480) }) [.ref h0] (mW G h0 a (upd (upd (upd (upd (upd (upd F 15 0) 27 (nI nd)) 31 (nI wr)) 64 (nI at0)) 65 (nI ne)) 66 lk) (updA (updA B 2 K) 19 yt)) (fun (v : Option Value) (u : Nat × Nat × Int32 × Int32 × Nat × Nat × Nat × (Nat → Int32) × (Nat → Int32) × (Nat → Int32) × (Nat → Int32) × (Nat → Int32) × (Nat → Int32) × (Nat → Int32) × (Nat → Int32) × (Nat → Int32) × (Nat → Int32) × (Nat → Int32) × (Nat → Int32)) => v = some (.int (nI u.2.2.2.2.2.2.1)) ∧ (at0 ≤ u.1) ∧ (u.1 ≤ T) ∧ (u.2.1 ≤ 100) ∧ (nd ≤ u.2.2.2.2.1) ∧ (u.2.2.2.2.1 + 2 * at0 ≤ nd + 2 * u.1 + 100000 * u.2.1) ∧ (u.2.2.2.2.1 + 2 * at0 ≤ nd + 2 * u.1 + 40 * (21 - ne)) ∧ (wr ≤ u.2.2.2.2.2.1) ∧ (u.2.2.2.2.2.1 + at0 ≤ wr + u.1) ∧ (u.2.2.2.2.2.2.1 ≤ u.2.2.2.2.1) ∧ (at0 + 1 ≤ u.1 + u.2.1) ∧ (tkRow u.2.2.2.2.2.2.2.2.2.2.2.2.2.2.2.2.2.1 u.2.2.2.2.2.1 T)) (fun u => (mW G h0 a (upd (upd (upd (upd (upd (upd (upd F 15 (nI u.2.1)) 16 u.2.2.1) 27 (nI u.2.2.2.2.1)) 31 (nI u.2.2.2.2.2.1)) 64 (nI u.1)) 65 (nI ne)) 66 u.2.2.2.1) (updA (updA (updA (updA (updA (updA (updA (updA (updA (updA (updA (updA (updA B 2 K) 9 u.2.2.2.2.2.2.2.1) 10 u.2.2.2.2.2.2.2.2.1) 11 u.2.2.2.2.2.2.2.2.2.1) 12 u.2.2.2.2.2.2.2.2.2.2.1) 13 u.2.2.2.2.2.2.2.2.2.2.2.1) 14 u.2.2.2.2.2.2.2.2.2.2.2.2.1) 15 u.2.2.2.2.2.2.2.2.2.2.2.2.2.1) 16 u.2.2.2.2.2.2.2.2.2.2.2.2.2.2.1) 17 u.2.2.2.2.2.2.2.2.2.2.2.2.2.2.2.1) 18 u.2.2.2.2.2.2.2.2.2.2.2.2.2.2.2.2.1) 19 u.2.2.2.2.2.2.2.2.2.2.2.2.2.2.2.2.2.1) 20 u.2.2.2.2.2.2.2.2.2.2.2.2.2.2.2.2.2.2)))
theorem dX12_front_11 : decode cX12_front 11 = .ok (.aload_n 0, 1) := by decide +kernel
theorem dX12_front_12 : decode cX12_front 12 = .ok (.invokevirtual 381, 3) := by decide +kernel
theorem dX12_front_39 : decode cX12_front 39 = .ok (.aload_n 0, 1) := by decide +kernel
theorem dX12_front_40 : decode cX12_front 40 = .ok (.getfield 343, 3) := by decide +kernel
theorem dX12_front_43 : decode cX12_front 43 = .ok (.istore_n 2, 1) := by decide +kernel
theorem dX12_front_44 : decode cX12_front 44 = .ok (.aload_n 0, 1) := by decide +kernel
theorem dX12_front_45 : decode cX12_front 45 = .ok (.invokevirtual 441, 3) := by decide +kernel
theorem dX12_front_48 : decode cX12_front 48 = .ok (.aload_n 0, 1) := by decide +kernel
theorem dX12_front_49 : decode cX12_front 49 = .ok (.dup, 1) := by decide +kernel
theorem dX12_front_50 : decode cX12_front 50 = .ok (.getfield 343, 3) := by decide +kernel
theorem dX12_front_53 : decode cX12_front 53 = .ok (.iconst 1, 1) := by decide +kernel
theorem dX12_front_54 : decode cX12_front 54 = .ok (.iadd, 1) := by decide +kernel
theorem dX12_front_55 : decode cX12_front 55 = .ok (.putfield 343, 3) := by decide +kernel
theorem dX12_front_58 : decode cX12_front 58 = .ok (.aload_n 0, 1) := by decide +kernel
theorem dX12_front_59 : decode cX12_front 59 = .ok (.bipush 17, 2) := by decide +kernel
theorem dX12_front_61 : decode cX12_front 61 = .ok (.iload_n 2, 1) := by decide +kernel
theorem dX12_front_62 : decode cX12_front 62 = .ok (.iload_n 2, 1) := by decide +kernel
theorem dX12_front_63 : decode cX12_front 63 = .ok (.aload_n 0, 1) := by decide +kernel
theorem dX12_front_64 : decode cX12_front 64 = .ok (.invokevirtual 475, 3) := by decide +kernel
theorem dX12_front_67 : decode cX12_front 67 = .ok (.iconst (-1), 1) := by decide +kernel
theorem dX12_front_68 : decode cX12_front 68 = .ok (.invokevirtual 428, 3) := by decide +kernel
theorem dX12_front_71 : decode cX12_front 71 = .ok (.istore_n 3, 1) := by decide +kernel
theorem dX12_front_72 : decode cX12_front 72 = .ok (.aload_n 0, 1) := by decide +kernel
theorem dX12_front_73 : decode cX12_front 73 = .ok (.dup, 1) := by decide +kernel
theorem dX12_front_74 : decode cX12_front 74 = .ok (.getfield 366, 3) := by decide +kernel
theorem dX12_front_77 : decode cX12_front 77 = .ok (.iconst 1, 1) := by decide +kernel
theorem dX12_front_78 : decode cX12_front 78 = .ok (.isub, 1) := by decide +kernel
theorem dX12_front_79 : decode cX12_front 79 = .ok (.putfield 366, 3) := by decide +kernel
theorem dX12_front_82 : decode cX12_front 82 = .ok (.iload_n 3, 1) := by decide +kernel
theorem dX12_front_83 : decode cX12_front 83 = .ok (.ireturn, 1) := by decide +kernel
theorem hV_X12_node : yX12_node.cls = RX12 ∧ yX12_node.cls ≠ "java/lang/invoke/MethodHandle" ∧ yX12_node.cls ≠ "java/lang/invoke/VarHandle" ∧ (parseMethodDescriptor yX12_node.desc).map (fun d => d.parameters.length) = some 5 := by decide +kernel
set_option maxHeartbeats 2000000 in
set_option maxRecDepth 100000 in
/-- front(), no fault ahead -/
theorem RG_front (l : Launch) (G : pT) (h0 : Nat) (a : Nat → Nat) (F : Nat → Int32) (B : Nat → Nat → Int32) (at0 : Nat) (T : Nat) (K : Nat → Int32) (n : Nat) (ne : Nat) (nd : Nat) (wr : Nat) (lk : Int32) (yt : Nat → Int32) (hat : at0 ≤ T) (hT : T ≤ 5000) (hK : K T = 0 ∨ K T = 3) (hne : ne ≤ 20) (hnd : nd ≤ 2 * at0) (hwr : wr ≤ at0) (hy : tkRow yt wr T) (hn : 21 ≤ n + ne) (ihf : Pfront l G (n - 1)) (hc : Pchain l G n) : PM l G pX0 yX12_front cX12_front 4 (some .int) ({ frames := (20 * n + 14), cells := 0, slots := 0, locals := (1000 * n + 560) }) [.ref h0] (mW G h0 a (upd (upd (upd (upd (upd (upd F 15 0) 27 (nI nd)) 31 (nI wr)) 64 (nI at0)) 65 (nI ne)) 66 lk) (updA (updA B 2 K) 19 yt)) (fun (v : Option Value) (u : Nat × Nat × Int32 × Int32 × Nat × Nat × Nat × (Nat → Int32) × (Nat → Int32) × (Nat → Int32) × (Nat → Int32) × (Nat → Int32) × (Nat → Int32) × (Nat → Int32) × (Nat → Int32) × (Nat → Int32) × (Nat → Int32) × (Nat → Int32) × (Nat → Int32)) => v = some (.int (nI u.2.2.2.2.2.2.1)) ∧ (at0 ≤ u.1) ∧ (u.1 ≤ T) ∧ (u.2.1 ≤ 100) ∧ (nd ≤ u.2.2.2.2.1) ∧ (u.2.2.2.2.1 + 2 * at0 ≤ nd + 2 * u.1 + 100000 * u.2.1) ∧ (u.2.2.2.2.1 + 2 * at0 ≤ nd + 2 * u.1 + 40 * (21 - ne)) ∧ (wr ≤ u.2.2.2.2.2.1) ∧ (u.2.2.2.2.2.1 + at0 ≤ wr + u.1) ∧ (u.2.2.2.2.2.2.1 ≤ u.2.2.2.2.1) ∧ (at0 + 1 ≤ u.1 + u.2.1) ∧ (tkRow u.2.2.2.2.2.2.2.2.2.2.2.2.2.2.2.2.2.1 u.2.2.2.2.2.1 T)) (fun u => (mW G h0 a (upd (upd (upd (upd (upd (upd (upd F 15 (nI u.2.1)) 16 u.2.2.1) 27 (nI u.2.2.2.2.1)) 31 (nI u.2.2.2.2.2.1)) 64 (nI u.1)) 65 (nI ne)) 66 u.2.2.2.1) (updA (updA (updA (updA (updA (updA (updA (updA (updA (updA (updA (updA (updA B 2 K) 9 u.2.2.2.2.2.2.2.1) 10 u.2.2.2.2.2.2.2.2.1) 11 u.2.2.2.2.2.2.2.2.2.1) 12 u.2.2.2.2.2.2.2.2.2.2.1) 13 u.2.2.2.2.2.2.2.2.2.2.2.1) 14 u.2.2.2.2.2.2.2.2.2.2.2.2.1) 15 u.2.2.2.2.2.2.2.2.2.2.2.2.2.1) 16 u.2.2.2.2.2.2.2.2.2.2.2.2.2.2.1) 17 u.2.2.2.2.2.2.2.2.2.2.2.2.2.2.2.1) 18 u.2.2.2.2.2.2.2.2.2.2.2.2.2.2.2.2.1) 19 u.2.2.2.2.2.2.2.2.2.2.2.2.2.2.2.2.2.1) 20 u.2.2.2.2.2.2.2.2.2.2.2.2.2.2.2.2.2.2))) := by
  intro sz
  refine Met.ofW (cc := cX12_front) (maxL := 4) (ret := (some .int)) (by decide) rfl ?_
  intro p e s m args below meth c s₁ B9 hml hv
  obtain ⟨rfl, hsz, hP, hD0, hE, hX⟩ := hv
  have hx := B9.exec
  have hb := B9.bytes
  have hr := B9.returns
  have hts := atoms_spec (ws := Cond.code yX12_front cX12_front 4 (some .int) :: pw) B9.pre
  have hq : ∀ w ∈ pw, w.before _ s = true := fun w h => hts w (List.mem_cons_of_mem _ h)
  have hown : s.vm.findClass RX12 = some m.cls := findClass_of_methodNamed B9.named
  have hlocks := B9.notSynchronized
  subst hsz
  have hD := hD0.self (sz := s.heap.size)
  have hA : ∀ q : Nat, s.heap.size ≤ q → va_A (mW G h0 a (upd (upd (upd (upd (upd (upd F 15 0) 27 (nI nd)) 31 (nI wr)) 64 (nI at0)) 65 (nI ne)) 66 lk) (updA (updA B 2 K) 19 yt)) s.heap.size q := fun q h => Or.inr h
  have hP : va_P G.1 pCl (mW G h0 a (upd (upd (upd (upd (upd (upd F 15 0) 27 (nI nd)) 31 (nI wr)) 64 (nI at0)) 65 (nI ne)) 66 lk) (updA (updA B 2 K) 19 yt)) s.heap := hP
  generalize va_A (mW G h0 a (upd (upd (upd (upd (upd (upd F 15 0) 27 (nI nd)) 31 (nI wr)) 64 (nI at0)) 65 (nI ne)) 66 lk) (updA (updA B 2 K) 19 yt)) s.heap.size = A at hD hE hA ⊢
  have hS : va_S A s.heap s.heap [] := va_S.rf
  have hl := lv_entry ([.ref h0]) (n := 4) (Nat.le_of_ble_eq_true rfl)
  rw [lg_entry_eq]
  generalize (lg_sl ([.ref h0]) ++ List.replicate (4 - (lg_sl ([.ref h0])).length) Slot.unset).toArray = ls at hl ⊢
  have hl : lv_has ls 4 [(0, .ref h0)] := hl
  refine lv_aload_n hx hb dX12_front_0 rfl (lv_at hl 0 rfl) ?_
  refine r_get (v := .int 0) hx hb hown hq hE hP 15 350 tFX12_15 (by decide) pw_1594 rfl dX12_front_1 ?_
  refine lv_if_le (tgt := 11) hx hb dX12_front_4 (by decide) (fun c1 => ?_) (fun c1 => absurd c1 (by decide))
  refine lv_aload_n hx hb dX12_front_11 rfl (lv_at hl 0 rfl) ?_
  have hP : va_P G.1 pCl (mW G h0 a (upd (upd (upd (upd (upd (upd (upd (upd F 15 0) 27 (nI nd)) 31 (nI wr)) 64 (nI at0)) 65 (nI ne)) 66 lk) 15 (nI 0)) 64 (nI at0)) (updA (updA (updA B 2 K) 19 yt) 2 K)) _ := hP
  have hD : va_D A (mW G h0 a (upd (upd (upd (upd (upd (upd (upd (upd F 15 0) 27 (nI nd)) 31 (nI wr)) 64 (nI at0)) 65 (nI ne)) 66 lk) 15 (nI 0)) 64 (nI at0)) (updA (updA (updA B 2 K) 19 yt) 2 K)) := hD
  refine pc_V0 (G := G) (As := []) (rest := []) hx hb hml hown hq hE hX pX0_al hP hD hS hA hl.1 (R_kind l G h0 a (upd (upd (upd (upd (upd (upd F 15 0) 27 (nI nd)) 31 (nI wr)) 64 (nI at0)) 65 (nI ne)) 66 lk) (updA (updA B 2 K) 19 yt) at0 T 0 K (by omega) (by omega) hK (by omega)) (gV pw_1626 pw_1627 pw_1628 pw_1523 pw_1591) hV_X12_kind 0 9 rfl rfl rfl rfl (Nat.le_of_ble_eq_true rfl) dX12_front_12 ⟨Nat.le_of_ble_eq_true rfl, Nat.le_of_ble_eq_true rfl⟩ ⟨(by show 2 + 1 ≤ (20 * n + 14); omega), (by show 8 + (1 + 11) + 60 ≤ (1000 * n + 560); omega)⟩ (fun v4 u2 H locs hw3 hP hD hS => ?_)
  obtain rfl : v4 = some (.int (K at0)) := hw3
  have hP : va_P G.1 pCl (mW G h0 a (upd (upd (upd (upd (upd (upd F 15 0) 27 (nI nd)) 31 (nI wr)) 64 (nI at0)) 65 (nI ne)) 66 lk) (updA (updA B 2 K) 19 yt)) _ := hP
  have hD : va_D A (mW G h0 a (upd (upd (upd (upd (upd (upd F 15 0) 27 (nI nd)) 31 (nI wr)) 64 (nI at0)) 65 (nI ne)) 66 lk) (updA (updA B 2 K) 19 yt)) := hD
  refine W.widen (k := 0) (n := 0) (Nat.le_of_ble_eq_true rfl) (Nat.le_of_ble_eq_true rfl) ?_
  refine W.eq (g2 := F0 m 15 ls [.int (K at0)]) rfl ?_
  refine lv_istore_n (lv' := [(1, .int (K at0)), (0, .ref h0)]) hx hb dX12_front_15 rfl hl (by decide) rfl (fun ls hl => ?_)
  refine lv_iload_n hx hb dX12_front_16 rfl (lv_at hl 0 rfl) ?_
  refine lv_bipush (v := 45) hx hb dX12_front_17 (by decide) ?_
  refine lv_icmp_eq (tgt := 39) hx hb dX12_front_19 (by decide) (fun c5 => ?_) (fun c5 => ?_)
  · have n6 : at0 < T := tk_lt hat hK c5 (by decide) (by decide)
    refine lv_aload_n hx hb dX12_front_39 rfl (lv_at hl 1 rfl) ?_
    refine r_get (v := .int (nI at0)) hx hb hown hq hE hP 64 343 tFX12_64 (by decide) pw_1592 rfl dX12_front_40 ?_
    refine lv_istore_n (lv' := [(2, .int (nI at0)), (1, .int (K at0)), (0, .ref h0)]) hx hb dX12_front_43 rfl hl (by decide) rfl (fun ls hl => ?_)
    refine lv_aload_n hx hb dX12_front_44 rfl (lv_at hl 2 rfl) ?_
    have hP : va_P G.1 pCl (mW G h0 a (upd (upd (upd (upd (upd (upd (upd (upd (upd F 15 0) 27 (nI nd)) 31 (nI wr)) 64 (nI at0)) 65 (nI ne)) 66 lk) 15 (nI 0)) 64 (nI at0)) 65 (nI ne)) (updA (updA (updA B 2 K) 19 yt) 2 K)) _ := hP
    have hD : va_D A (mW G h0 a (upd (upd (upd (upd (upd (upd (upd (upd (upd F 15 0) 27 (nI nd)) 31 (nI wr)) 64 (nI at0)) 65 (nI ne)) 66 lk) 15 (nI 0)) 64 (nI at0)) 65 (nI ne)) (updA (updA (updA B 2 K) 19 yt) 2 K)) := hD
    refine pc_V0 (G := G) (As := []) (rest := []) hx hb hml hown hq hE hX pX0_al hP hD hS hA hl.1 (R_deeper l G h0 a (upd (upd (upd (upd (upd (upd F 15 0) 27 (nI nd)) 31 (nI wr)) 64 (nI at0)) 65 (nI ne)) 66 lk) (updA (updA B 2 K) 19 yt) at0 T 0 K ne (by omega) (by omega) hK (by omega) (by omega)) (gV pw_1637 pw_1638 pw_1639 pw_1523 pw_1611) hV_X12_deeper 0 9 rfl rfl rfl rfl (Nat.le_of_ble_eq_true rfl) dX12_front_45 ⟨Nat.le_of_ble_eq_true rfl, Nat.le_of_ble_eq_true rfl⟩ ⟨(by show 4 + 1 ≤ (20 * n + 14); omega), (by show 8 + (1 + 11) + 103 ≤ (1000 * n + 560); omega)⟩ (fun v9 u7 H locs hw8 hP hD hS => ?_)
    obtain ⟨fa10, pl11⟩ := u7
    obtain ⟨hw8, h12, h13, h14, h15⟩ := hw8
    have h12 : 0 ≤ fa10 := h12
    have h13 : fa10 ≤ 100 := h13
    have h14 : If (0 < 0) (fa10 = 0) := h14
    have h15 : If (ne ≤ 20) (ne + 1 ≤ 20 + fa10) := h15
    obtain rfl : v9 = none := hw8
    have hP : va_P G.1 pCl (mW G h0 a (upd (upd (upd (upd (upd (upd (upd F 15 (nI fa10)) 16 pl11) 27 (nI nd)) 31 (nI wr)) 64 (nI at0)) 65 (nI (ne + 1))) 66 lk) (updA (updA B 2 K) 19 yt)) _ := hP
    have hD : va_D A (mW G h0 a (upd (upd (upd (upd (upd (upd (upd F 15 (nI fa10)) 16 pl11) 27 (nI nd)) 31 (nI wr)) 64 (nI at0)) 65 (nI (ne + 1))) 66 lk) (updA (updA B 2 K) 19 yt)) := hD
    refine W.widen (k := 0) (n := 0) (Nat.le_of_ble_eq_true rfl) (Nat.le_of_ble_eq_true rfl) ?_
    refine W.eq (g2 := F0 m 48 ls []) rfl ?_
    have n16 := h15 hne
    rcases Nat.eq_zero_or_pos fa10 with e17 | e17
    · subst e17
      have hP : va_P G.1 pCl (mW G h0 a (upd (upd (upd (upd (upd (upd (upd F 15 0) 16 pl11) 27 (nI nd)) 31 (nI wr)) 64 (nI at0)) 65 (nI (ne + 1))) 66 lk) (updA (updA B 2 K) 19 yt)) _ := hP
      have hD : va_D A (mW G h0 a (upd (upd (upd (upd (upd (upd (upd F 15 0) 16 pl11) 27 (nI nd)) 31 (nI wr)) 64 (nI at0)) 65 (nI (ne + 1))) 66 lk) (updA (updA B 2 K) 19 yt)) := hD
      refine lv_aload_n hx hb dX12_front_48 rfl (lv_at hl 2 rfl) ?_
      refine lv_dup hx hb dX12_front_49 rfl ?_
      refine r_get (v := .int (nI at0)) hx hb hown hq hE hP 64 343 tFX12_64 (by decide) pw_1592 rfl dX12_front_50 ?_
      refine lv_iconst (v := 1) hx hb dX12_front_53 (by decide) ?_
      refine lv_iadd hx hb dX12_front_54 ?_
      refine lv_topi (fun x18 e19 => ?_)
      obtain rfl : x18 = nI (at0 + 1) := e19.trans (nI_add (at0) (1))
      refine r_put (v := (nI (at0 + 1))) (ty := .int) hx hb hown hq hE hP hD hS 64 343 tFX12_64 (by decide) pw_1592 (by decide) rfl rfl (ms_64 a _ _) dX12_front_55 (fun H locs hP hD hS => ?_)
      refine lv_aload_n hx hb dX12_front_58 rfl (lv_at hl 2 rfl) ?_
      refine lv_bipush (v := 17) hx hb dX12_front_59 (by decide) ?_
      refine lv_iload_n hx hb dX12_front_61 rfl (lv_at hl 0 rfl) ?_
      refine lv_iload_n hx hb dX12_front_62 rfl (lv_at hl 0 rfl) ?_
      refine lv_aload_n hx hb dX12_front_63 rfl (lv_at hl 2 rfl) ?_
      have hP : va_P G.1 pCl (mW G h0 a (upd (upd (upd (upd (upd (upd (upd (upd (upd (upd (upd (upd (upd F 15 0) 16 pl11) 27 (nI nd)) 31 (nI wr)) 64 (nI (at0 + 1))) 65 (nI (ne + 1))) 66 lk) 15 0) 27 (nI nd)) 31 (nI wr)) 64 (nI (at0 + 1))) 65 (nI (ne + 1))) 66 lk) (updA (updA (updA (updA B 2 K) 19 yt) 2 K) 19 yt)) _ := hP
      have hD : va_D A (mW G h0 a (upd (upd (upd (upd (upd (upd (upd (upd (upd (upd (upd (upd (upd F 15 0) 16 pl11) 27 (nI nd)) 31 (nI wr)) 64 (nI (at0 + 1))) 65 (nI (ne + 1))) 66 lk) 15 0) 27 (nI nd)) 31 (nI wr)) 64 (nI (at0 + 1))) 65 (nI (ne + 1))) 66 lk) (updA (updA (updA (updA B 2 K) 19 yt) 2 K) 19 yt)) := hD
      refine pc_V0 (G := G) (As := []) (rest := [.int (nI at0), .int (nI at0), .int 17, .ref h0]) hx hb hml hown hq hE hX pX0_al hP hD hS hA hl.1 (ihf h0 a (upd (upd (upd (upd (upd (upd (upd F 15 0) 16 pl11) 27 (nI nd)) 31 (nI wr)) 64 (nI (at0 + 1))) 65 (nI (ne + 1))) 66 lk) (updA (updA B 2 K) 19 yt) (at0 + 1) T K (ne + 1) nd wr lk yt (by omega) (by omega) hK (by omega) (by omega) (by omega) hy (by omega)) (gV pw_1664 pw_1665 pw_1666 pw_1523 pw_1660) hV_X12_front 0 9 rfl rfl rfl rfl (Nat.le_of_ble_eq_true rfl) dX12_front_64 ⟨Nat.le_of_ble_eq_true rfl, Nat.le_of_ble_eq_true rfl⟩ ⟨(by show (20 * (n - 1) + 14) + 1 ≤ (20 * n + 14); omega), (by show 8 + (4 + 11) + (1000 * (n - 1) + 560) ≤ (1000 * n + 560); omega)⟩ (fun v22 u20 H locs hw21 hP hD hS => ?_)
      obtain ⟨at23, fa24, pl25, lk26, nd27, wr28, r29, g30, g31, g32, g33, g34, g35, g36, g37, g38, g39, yt40, yr41⟩ := u20
      obtain ⟨hw21, h42, h43, h44, h45, h46, h47, h48, h49, h50, h51, h52⟩ := hw21
      have h42 : (at0 + 1) ≤ at23 := h42
      have h43 : at23 ≤ T := h43
      have h44 : fa24 ≤ 100 := h44
      have h45 : nd ≤ nd27 := h45
      have h46 : nd27 + 2 * (at0 + 1) ≤ nd + 2 * at23 + 100000 * fa24 := h46
      have h47 : nd27 + 2 * (at0 + 1) ≤ nd + 2 * at23 + 40 * (21 - (ne + 1)) := h47
      have h48 : wr ≤ wr28 := h48
      have h49 : wr28 + (at0 + 1) ≤ wr + at23 := h49
      have h50 : r29 ≤ nd27 := h50
      have h51 : (at0 + 1) + 1 ≤ at23 + fa24 := h51
      have h52 : tkRow yt40 wr28 T := h52
      obtain rfl : v22 = some (.int (nI r29)) := hw21
      have hP : va_P G.1 pCl (mW G h0 a (upd (upd (upd (upd (upd (upd (upd F 15 (nI fa24)) 16 pl25) 27 (nI nd27)) 31 (nI wr28)) 64 (nI at23)) 65 (nI (ne + 1))) 66 lk26) (updA (updA (updA (updA (updA (updA (updA (updA (updA (updA (updA (updA (updA B 2 K) 9 g30) 10 g31) 11 g32) 12 g33) 13 g34) 14 g35) 15 g36) 16 g37) 17 g38) 18 g39) 19 yt40) 20 yr41)) _ := hP
      have hD : va_D A (mW G h0 a (upd (upd (upd (upd (upd (upd (upd F 15 (nI fa24)) 16 pl25) 27 (nI nd27)) 31 (nI wr28)) 64 (nI at23)) 65 (nI (ne + 1))) 66 lk26) (updA (updA (updA (updA (updA (updA (updA (updA (updA (updA (updA (updA (updA B 2 K) 9 g30) 10 g31) 11 g32) 12 g33) 13 g34) 14 g35) 15 g36) 16 g37) 17 g38) 18 g39) 19 yt40) 20 yr41)) := hD
      refine W.widen (k := 0) (n := 0) (Nat.le_of_ble_eq_true rfl) (Nat.le_of_ble_eq_true rfl) ?_
      refine W.eq (g2 := F0 m 67 ls [.int (nI r29), .int (nI at0), .int (nI at0), .int 17, .ref h0]) rfl ?_
      refine lv_iconst (v := (-1)) hx hb dX12_front_67 (by decide) ?_
      have hP : va_P G.1 pCl (mW G h0 a (upd (upd (upd (upd (upd (upd (upd (upd F 15 (nI fa24)) 16 pl25) 27 (nI nd27)) 31 (nI wr28)) 64 (nI at23)) 65 (nI (ne + 1))) 66 lk26) 27 (nI nd27)) (updA (updA (updA (updA (updA (updA (updA (updA (updA (updA (updA (updA (updA B 2 K) 9 g30) 10 g31) 11 g32) 12 g33) 13 g34) 14 g35) 15 g36) 16 g37) 17 g38) 18 g39) 19 yt40) 20 yr41)) _ := hP
      have hD : va_D A (mW G h0 a (upd (upd (upd (upd (upd (upd (upd (upd F 15 (nI fa24)) 16 pl25) 27 (nI nd27)) 31 (nI wr28)) 64 (nI at23)) 65 (nI (ne + 1))) 66 lk26) 27 (nI nd27)) (updA (updA (updA (updA (updA (updA (updA (updA (updA (updA (updA (updA (updA B 2 K) 9 g30) 10 g31) 11 g32) 12 g33) 13 g34) 14 g35) 15 g36) 16 g37) 17 g38) 18 g39) 19 yt40) 20 yr41)) := hD
      refine pc_V0 (G := G) (As := [.int 17, .int (nI at0), .int (nI at0), .int (nI r29), .int (-1)]) (rest := []) hx hb hml hown hq hE hX pX0_al hP hD hS hA hl.1 (R_node l G h0 a (upd (upd (upd (upd (upd (upd (upd F 15 (nI fa24)) 16 pl25) 27 (nI nd27)) 31 (nI wr28)) 64 (nI at23)) 65 (nI (ne + 1))) 66 lk26) (updA (updA (updA (updA (updA (updA (updA (updA (updA (updA (updA (updA (updA B 2 K) 9 g30) 10 g31) 11 g32) 12 g33) 13 g34) 14 g35) 15 g36) 16 g37) 17 g38) 18 g39) 19 yt40) 20 yr41) 17 (nI at0) (nI at0) (nI r29) (-1) nd27 (by omega)) (gV pw_1650 pw_1651 pw_1652 pw_1523 pw_1589) hV_X12_node 0 9 rfl rfl rfl rfl (Nat.le_of_ble_eq_true rfl) dX12_front_68 ⟨Nat.le_of_ble_eq_true rfl, Nat.le_of_ble_eq_true rfl⟩ ⟨(by show 2 + 1 ≤ (20 * n + 14); omega), (by show 8 + (7 + 11) + 60 ≤ (1000 * n + 560); omega)⟩ (fun v55 u53 H locs hw54 hP hD hS => ?_)
      obtain rfl : v55 = some (.int (nI nd27)) := hw54
      have hP : va_P G.1 pCl (mW G h0 a (upd (upd (upd (upd (upd (upd (upd F 15 (nI fa24)) 16 pl25) 27 (nI (nd27 + 1))) 31 (nI wr28)) 64 (nI at23)) 65 (nI (ne + 1))) 66 lk26) (updA (updA (updA (updA (updA (updA (updA (updA (updA (updA (updA (updA (updA B 2 K) 9 (upd (g30) nd27 17)) 10 (upd (g31) nd27 (nI at0))) 11 (upd (g32) nd27 (nI at0))) 12 (upd (g33) nd27 (nI r29))) 13 (upd (g34) nd27 (-1))) 14 (upd (g35) nd27 (-1))) 15 (upd (g36) nd27 (-1))) 16 (upd (g37) nd27 (-1))) 17 (upd (g38) nd27 0)) 18 (upd (g39) nd27 (-1))) 19 yt40) 20 yr41)) _ := hP
      have hD : va_D A (mW G h0 a (upd (upd (upd (upd (upd (upd (upd F 15 (nI fa24)) 16 pl25) 27 (nI (nd27 + 1))) 31 (nI wr28)) 64 (nI at23)) 65 (nI (ne + 1))) 66 lk26) (updA (updA (updA (updA (updA (updA (updA (updA (updA (updA (updA (updA (updA B 2 K) 9 (upd (g30) nd27 17)) 10 (upd (g31) nd27 (nI at0))) 11 (upd (g32) nd27 (nI at0))) 12 (upd (g33) nd27 (nI r29))) 13 (upd (g34) nd27 (-1))) 14 (upd (g35) nd27 (-1))) 15 (upd (g36) nd27 (-1))) 16 (upd (g37) nd27 (-1))) 17 (upd (g38) nd27 0)) 18 (upd (g39) nd27 (-1))) 19 yt40) 20 yr41)) := hD
      refine W.widen (k := 0) (n := 0) (Nat.le_of_ble_eq_true rfl) (Nat.le_of_ble_eq_true rfl) ?_
      refine W.eq (g2 := F0 m 71 ls [.int (nI nd27)]) rfl ?_
      refine lv_istore_n (lv' := [(3, .int (nI nd27)), (2, .int (nI at0)), (1, .int (K at0)), (0, .ref h0)]) hx hb dX12_front_71 rfl hl (by decide) rfl (fun ls hl => ?_)
      refine lv_aload_n hx hb dX12_front_72 rfl (lv_at hl 3 rfl) ?_
      refine lv_dup hx hb dX12_front_73 rfl ?_
      refine r_get (v := .int (nI (ne + 1))) hx hb hown hq hE hP 65 366 tFX12_65 (by decide) pw_1612 rfl dX12_front_74 ?_
      refine lv_iconst (v := 1) hx hb dX12_front_77 (by decide) ?_
      refine lv_isub hx hb dX12_front_78 ?_
      refine lv_topi (fun x56 e57 => ?_)
      obtain rfl : x56 = nI ((ne + 1) - 1) := e57.trans (nI_subN (a := 1) (b := (ne + 1)) (by omega))
      refine r_put (v := (nI ((ne + 1) - 1))) (ty := .int) hx hb hown hq hE hP hD hS 65 366 tFX12_65 (by decide) pw_1612 (by decide) rfl rfl (ms_65 a _ _) dX12_front_79 (fun H locs hP hD hS => ?_)
      refine lv_iload_n hx hb dX12_front_82 rfl (lv_at hl 0 rfl) ?_
      have hz58 : at0 ≤ at23 := (by omega)
      have hz59 : at23 ≤ T := (by omega)
      have hz60 : fa24 ≤ 100 := (by omega)
      have hz61 : nd ≤ (nd27 + 1) := (by omega)
      have hz62 : (nd27 + 1) + 2 * at0 ≤ nd + 2 * at23 + 100000 * fa24 := (by omega)
      have hz63 : (nd27 + 1) + 2 * at0 ≤ nd + 2 * at23 + 40 * (21 - ne) := (by omega)
      have hz64 : wr ≤ wr28 := (by omega)
      have hz65 : wr28 + at0 ≤ wr + at23 := (by omega)
      have hz66 : nd27 ≤ (nd27 + 1) := (by omega)
      have hz67 : at0 + 1 ≤ at23 + fa24 := (by omega)
      have hz68 : tkRow yt40 wr28 T := h52
      have hP : va_P G.1 pCl (mW G h0 a (upd (upd (upd (upd (upd (upd (upd F 15 (nI fa24)) 16 pl25) 27 (nI (nd27 + 1))) 31 (nI wr28)) 64 (nI at23)) 65 (nI ne)) 66 lk26) (updA (updA (updA (updA (updA (updA (updA (updA (updA (updA (updA (updA (updA B 2 K) 9 (upd (g30) nd27 17)) 10 (upd (g31) nd27 (nI at0))) 11 (upd (g32) nd27 (nI at0))) 12 (upd (g33) nd27 (nI r29))) 13 (upd (g34) nd27 (-1))) 14 (upd (g35) nd27 (-1))) 15 (upd (g36) nd27 (-1))) 16 (upd (g37) nd27 (-1))) 17 (upd (g38) nd27 0)) 18 (upd (g39) nd27 (-1))) 19 yt40) 20 yr41)) _ := hP
      have hD : va_D A (mW G h0 a (upd (upd (upd (upd (upd (upd (upd F 15 (nI fa24)) 16 pl25) 27 (nI (nd27 + 1))) 31 (nI wr28)) 64 (nI at23)) 65 (nI ne)) 66 lk26) (updA (updA (updA (updA (updA (updA (updA (updA (updA (updA (updA (updA (updA B 2 K) 9 (upd (g30) nd27 17)) 10 (upd (g31) nd27 (nI at0))) 11 (upd (g32) nd27 (nI at0))) 12 (upd (g33) nd27 (nI r29))) 13 (upd (g34) nd27 (-1))) 14 (upd (g35) nd27 (-1))) 15 (upd (g36) nd27 (-1))) 16 (upd (g37) nd27 (-1))) 17 (upd (g38) nd27 0)) 18 (upd (g39) nd27 (-1))) 19 yt40) 20 yr41)) := hD
      exact W.iret (v := (nI nd27)) hx hb hr (fun t9 ht9 hW9 => ⟨⟨_, (at23, fa24, pl25, lk26, (nd27 + 1), wr28, nd27, (upd (g30) nd27 17), (upd (g31) nd27 (nI at0)), (upd (g32) nd27 (nI at0)), (upd (g33) nd27 (nI r29)), (upd (g34) nd27 (-1)), (upd (g35) nd27 (-1)), (upd (g36) nd27 (-1)), (upd (g37) nd27 (-1)), (upd (g38) nd27 0), (upd (g39) nd27 (-1)), yt40, yr41), rfl, ⟨rfl, hz58, hz59, hz60, hz61, hz62, hz63, hz64, hz65, hz66, hz67, hz68⟩, by rw [ht9]; exact hP, hD⟩, hS.F ht9⟩) hS.2.2 dX12_front_83
    · have e17 := e17
      refine lv_aload_n hx hb dX12_front_48 rfl (lv_at hl 2 rfl) ?_
      refine lv_dup hx hb dX12_front_49 rfl ?_
      refine r_get (v := .int (nI at0)) hx hb hown hq hE hP 64 343 tFX12_64 (by decide) pw_1592 rfl dX12_front_50 ?_
      refine lv_iconst (v := 1) hx hb dX12_front_53 (by decide) ?_
      refine lv_iadd hx hb dX12_front_54 ?_
      refine lv_topi (fun x69 e70 => ?_)
      obtain rfl : x69 = nI (at0 + 1) := e70.trans (nI_add (at0) (1))
      refine r_put (v := (nI (at0 + 1))) (ty := .int) hx hb hown hq hE hP hD hS 64 343 tFX12_64 (by decide) pw_1592 (by decide) rfl rfl (ms_64 a _ _) dX12_front_55 (fun H locs hP hD hS => ?_)
      refine lv_aload_n hx hb dX12_front_58 rfl (lv_at hl 2 rfl) ?_
      refine lv_bipush (v := 17) hx hb dX12_front_59 (by decide) ?_
      refine lv_iload_n hx hb dX12_front_61 rfl (lv_at hl 0 rfl) ?_
      refine lv_iload_n hx hb dX12_front_62 rfl (lv_at hl 0 rfl) ?_
      refine lv_aload_n hx hb dX12_front_63 rfl (lv_at hl 2 rfl) ?_
      have hP : va_P G.1 pCl (mW G h0 a (upd (upd (upd (upd (upd (upd (upd (upd (upd F 15 (nI fa10)) 16 pl11) 27 (nI nd)) 31 (nI wr)) 64 (nI (at0 + 1))) 65 (nI (ne + 1))) 66 lk) 15 (nI fa10)) 64 (nI (at0 + 1))) (updA (updA (updA B 2 K) 19 yt) 2 K)) _ := hP
      have hD : va_D A (mW G h0 a (upd (upd (upd (upd (upd (upd (upd (upd (upd F 15 (nI fa10)) 16 pl11) 27 (nI nd)) 31 (nI wr)) 64 (nI (at0 + 1))) 65 (nI (ne + 1))) 66 lk) 15 (nI fa10)) 64 (nI (at0 + 1))) (updA (updA (updA B 2 K) 19 yt) 2 K)) := hD
      refine pc_V0 (G := G) (As := []) (rest := [.int (nI at0), .int (nI at0), .int 17, .ref h0]) hx hb hml hown hq hE hX pX0_al hP hD hS hA hl.1 (RF_front l G h0 a (upd (upd (upd (upd (upd (upd (upd F 15 (nI fa10)) 16 pl11) 27 (nI nd)) 31 (nI wr)) 64 (nI (at0 + 1))) 65 (nI (ne + 1))) 66 lk) (updA (updA B 2 K) 19 yt) (at0 + 1) T fa10 K (by omega) (by omega) hK (by omega) e17) (gV pw_1664 pw_1665 pw_1666 pw_1523 pw_1660) hV_X12_front 0 9 rfl rfl rfl rfl (Nat.le_of_ble_eq_true rfl) dX12_front_64 ⟨Nat.le_of_ble_eq_true rfl, Nat.le_of_ble_eq_true rfl⟩ ⟨(by show 4 + 1 ≤ (20 * n + 14); omega), (by show 8 + (4 + 11) + 107 ≤ (1000 * n + 560); omega)⟩ (fun v73 u71 H locs hw72 hP hD hS => ?_)
      obtain rfl : v73 = some (.int 0) := hw72
      have hP : va_P G.1 pCl (mW G h0 a (upd (upd (upd (upd (upd (upd (upd F 15 (nI fa10)) 16 pl11) 27 (nI nd)) 31 (nI wr)) 64 (nI (at0 + 1))) 65 (nI (ne + 1))) 66 lk) (updA (updA B 2 K) 19 yt)) _ := hP
      have hD : va_D A (mW G h0 a (upd (upd (upd (upd (upd (upd (upd F 15 (nI fa10)) 16 pl11) 27 (nI nd)) 31 (nI wr)) 64 (nI (at0 + 1))) 65 (nI (ne + 1))) 66 lk) (updA (updA B 2 K) 19 yt)) := hD
      refine W.widen (k := 0) (n := 0) (Nat.le_of_ble_eq_true rfl) (Nat.le_of_ble_eq_true rfl) ?_
      refine W.eq (g2 := F0 m 67 ls [.int 0, .int (nI at0), .int (nI at0), .int 17, .ref h0]) rfl ?_
      refine lv_iconst (v := (-1)) hx hb dX12_front_67 (by decide) ?_
      have hP : va_P G.1 pCl (mW G h0 a (upd (upd (upd (upd (upd (upd (upd (upd F 15 (nI fa10)) 16 pl11) 27 (nI nd)) 31 (nI wr)) 64 (nI (at0 + 1))) 65 (nI (ne + 1))) 66 lk) 27 (nI nd)) (updA (updA B 2 K) 19 yt)) _ := hP
      have hD : va_D A (mW G h0 a (upd (upd (upd (upd (upd (upd (upd (upd F 15 (nI fa10)) 16 pl11) 27 (nI nd)) 31 (nI wr)) 64 (nI (at0 + 1))) 65 (nI (ne + 1))) 66 lk) 27 (nI nd)) (updA (updA B 2 K) 19 yt)) := hD
      refine pc_V0 (G := G) (As := [.int 17, .int (nI at0), .int (nI at0), .int 0, .int (-1)]) (rest := []) hx hb hml hown hq hE hX pX0_al hP hD hS hA hl.1 (R_node l G h0 a (upd (upd (upd (upd (upd (upd (upd F 15 (nI fa10)) 16 pl11) 27 (nI nd)) 31 (nI wr)) 64 (nI (at0 + 1))) 65 (nI (ne + 1))) 66 lk) (updA (updA B 2 K) 19 yt) 17 (nI at0) (nI at0) 0 (-1) nd (by omega)) (gV pw_1650 pw_1651 pw_1652 pw_1523 pw_1589) hV_X12_node 0 9 rfl rfl rfl rfl (Nat.le_of_ble_eq_true rfl) dX12_front_68 ⟨Nat.le_of_ble_eq_true rfl, Nat.le_of_ble_eq_true rfl⟩ ⟨(by show 2 + 1 ≤ (20 * n + 14); omega), (by show 8 + (7 + 11) + 60 ≤ (1000 * n + 560); omega)⟩ (fun v76 u74 H locs hw75 hP hD hS => ?_)
      obtain rfl : v76 = some (.int (nI nd)) := hw75
      have hP : va_P G.1 pCl (mW G h0 a (upd (upd (upd (upd (upd (upd (upd F 15 (nI fa10)) 16 pl11) 27 (nI (nd + 1))) 31 (nI wr)) 64 (nI (at0 + 1))) 65 (nI (ne + 1))) 66 lk) (updA (updA (updA (updA (updA (updA (updA (updA (updA (updA (updA (updA B 2 K) 9 (upd ((B 9)) nd 17)) 10 (upd ((B 10)) nd (nI at0))) 11 (upd ((B 11)) nd (nI at0))) 12 (upd ((B 12)) nd 0)) 13 (upd ((B 13)) nd (-1))) 14 (upd ((B 14)) nd (-1))) 15 (upd ((B 15)) nd (-1))) 16 (upd ((B 16)) nd (-1))) 17 (upd ((B 17)) nd 0)) 18 (upd ((B 18)) nd (-1))) 19 yt)) _ := hP
      have hD : va_D A (mW G h0 a (upd (upd (upd (upd (upd (upd (upd F 15 (nI fa10)) 16 pl11) 27 (nI (nd + 1))) 31 (nI wr)) 64 (nI (at0 + 1))) 65 (nI (ne + 1))) 66 lk) (updA (updA (updA (updA (updA (updA (updA (updA (updA (updA (updA (updA B 2 K) 9 (upd ((B 9)) nd 17)) 10 (upd ((B 10)) nd (nI at0))) 11 (upd ((B 11)) nd (nI at0))) 12 (upd ((B 12)) nd 0)) 13 (upd ((B 13)) nd (-1))) 14 (upd ((B 14)) nd (-1))) 15 (upd ((B 15)) nd (-1))) 16 (upd ((B 16)) nd (-1))) 17 (upd ((B 17)) nd 0)) 18 (upd ((B 18)) nd (-1))) 19 yt)) := hD
      refine W.widen (k := 0) (n := 0) (Nat.le_of_ble_eq_true rfl) (Nat.le_of_ble_eq_true rfl) ?_
      refine W.eq (g2 := F0 m 71 ls [.int (nI nd)]) rfl ?_
      refine lv_istore_n (lv' := [(3, .int (nI nd)), (2, .int (nI at0)), (1, .int (K at0)), (0, .ref h0)]) hx hb dX12_front_71 rfl hl (by decide) rfl (fun ls hl => ?_)
      refine lv_aload_n hx hb dX12_front_72 rfl (lv_at hl 3 rfl) ?_
      refine lv_dup hx hb dX12_front_73 rfl ?_
      refine r_get (v := .int (nI (ne + 1))) hx hb hown hq hE hP 65 366 tFX12_65 (by decide) pw_1612 rfl dX12_front_74 ?_
      refine lv_iconst (v := 1) hx hb dX12_front_77 (by decide) ?_
      refine lv_isub hx hb dX12_front_78 ?_
      refine lv_topi (fun x77 e78 => ?_)
      obtain rfl : x77 = nI ((ne + 1) - 1) := e78.trans (nI_subN (a := 1) (b := (ne + 1)) (by omega))
      refine r_put (v := (nI ((ne + 1) - 1))) (ty := .int) hx hb hown hq hE hP hD hS 65 366 tFX12_65 (by decide) pw_1612 (by decide) rfl rfl (ms_65 a _ _) dX12_front_79 (fun H locs hP hD hS => ?_)
      refine lv_iload_n hx hb dX12_front_82 rfl (lv_at hl 0 rfl) ?_
      have hz79 : at0 ≤ (at0 + 1) := (by omega)
      have hz80 : (at0 + 1) ≤ T := (by omega)
      have hz81 : fa10 ≤ 100 := (by omega)
      have hz82 : nd ≤ (nd + 1) := (by omega)
      have hz83 : (nd + 1) + 2 * at0 ≤ nd + 2 * (at0 + 1) + 100000 * fa10 := (by omega)
      have hz84 : (nd + 1) + 2 * at0 ≤ nd + 2 * (at0 + 1) + 40 * (21 - ne) := (by omega)
      have hz85 : wr ≤ wr := (by omega)
      have hz86 : wr + at0 ≤ wr + (at0 + 1) := (by omega)
      have hz87 : nd ≤ (nd + 1) := (by omega)
      have hz88 : at0 + 1 ≤ (at0 + 1) + fa10 := (by omega)
      have hz89 : tkRow yt wr T := hy
      have hP : va_P G.1 pCl (mW G h0 a (upd (upd (upd (upd (upd (upd (upd F 15 (nI fa10)) 16 pl11) 27 (nI (nd + 1))) 31 (nI wr)) 64 (nI (at0 + 1))) 65 (nI ne)) 66 lk) (updA (updA (updA (updA (updA (updA (updA (updA (updA (updA (updA (updA (updA B 2 K) 9 (upd ((B 9)) nd 17)) 10 (upd ((B 10)) nd (nI at0))) 11 (upd ((B 11)) nd (nI at0))) 12 (upd ((B 12)) nd 0)) 13 (upd ((B 13)) nd (-1))) 14 (upd ((B 14)) nd (-1))) 15 (upd ((B 15)) nd (-1))) 16 (upd ((B 16)) nd (-1))) 17 (upd ((B 17)) nd 0)) 18 (upd ((B 18)) nd (-1))) 19 yt) 20 (B 20))) _ := hP
      have hD : va_D A (mW G h0 a (upd (upd (upd (upd (upd (upd (upd F 15 (nI fa10)) 16 pl11) 27 (nI (nd + 1))) 31 (nI wr)) 64 (nI (at0 + 1))) 65 (nI ne)) 66 lk) (updA (updA (updA (updA (updA (updA (updA (updA (updA (updA (updA (updA (updA B 2 K) 9 (upd ((B 9)) nd 17)) 10 (upd ((B 10)) nd (nI at0))) 11 (upd ((B 11)) nd (nI at0))) 12 (upd ((B 12)) nd 0)) 13 (upd ((B 13)) nd (-1))) 14 (upd ((B 14)) nd (-1))) 15 (upd ((B 15)) nd (-1))) 16 (upd ((B 16)) nd (-1))) 17 (upd ((B 17)) nd 0)) 18 (upd ((B 18)) nd (-1))) 19 yt) 20 (B 20))) := hD
      exact W.iret (v := (nI nd)) hx hb hr (fun t9 ht9 hW9 => ⟨⟨_, ((at0 + 1), fa10, pl11, lk, (nd + 1), wr, nd, (upd ((B 9)) nd 17), (upd ((B 10)) nd (nI at0)), (upd ((B 11)) nd (nI at0)), (upd ((B 12)) nd 0), (upd ((B 13)) nd (-1)), (upd ((B 14)) nd (-1)), (upd ((B 15)) nd (-1)), (upd ((B 16)) nd (-1)), (upd ((B 17)) nd 0), (upd ((B 18)) nd (-1)), yt, (B 20)), rfl, ⟨rfl, hz79, hz80, hz81, hz82, hz83, hz84, hz85, hz86, hz87, hz88, hz89⟩, by rw [ht9]; exact hP, hD⟩, hS.F ht9⟩) hS.2.2 dX12_front_83
  · refine lv_iload_n hx hb dX12_front_22 rfl (lv_at hl 0 rfl) ?_
    refine lv_bipush (v := 126) hx hb dX12_front_23 (by decide) ?_
    refine lv_icmp_eq (tgt := 39) hx hb dX12_front_25 (by decide) (fun c90 => ?_) (fun c90 => ?_)
    · have n91 : at0 < T := tk_lt hat hK c90 (by decide) (by decide)
      refine lv_aload_n hx hb dX12_front_39 rfl (lv_at hl 1 rfl) ?_
      refine r_get (v := .int (nI at0)) hx hb hown hq hE hP 64 343 tFX12_64 (by decide) pw_1592 rfl dX12_front_40 ?_
      refine lv_istore_n (lv' := [(2, .int (nI at0)), (1, .int (K at0)), (0, .ref h0)]) hx hb dX12_front_43 rfl hl (by decide) rfl (fun ls hl => ?_)
      refine lv_aload_n hx hb dX12_front_44 rfl (lv_at hl 2 rfl) ?_
      have hP : va_P G.1 pCl (mW G h0 a (upd (upd (upd (upd (upd (upd (upd (upd (upd F 15 0) 27 (nI nd)) 31 (nI wr)) 64 (nI at0)) 65 (nI ne)) 66 lk) 15 (nI 0)) 64 (nI at0)) 65 (nI ne)) (updA (updA (updA B 2 K) 19 yt) 2 K)) _ := hP
      have hD : va_D A (mW G h0 a (upd (upd (upd (upd (upd (upd (upd (upd (upd F 15 0) 27 (nI nd)) 31 (nI wr)) 64 (nI at0)) 65 (nI ne)) 66 lk) 15 (nI 0)) 64 (nI at0)) 65 (nI ne)) (updA (updA (updA B 2 K) 19 yt) 2 K)) := hD
      refine pc_V0 (G := G) (As := []) (rest := []) hx hb hml hown hq hE hX pX0_al hP hD hS hA hl.1 (R_deeper l G h0 a (upd (upd (upd (upd (upd (upd F 15 0) 27 (nI nd)) 31 (nI wr)) 64 (nI at0)) 65 (nI ne)) 66 lk) (updA (updA B 2 K) 19 yt) at0 T 0 K ne (by omega) (by omega) hK (by omega) (by omega)) (gV pw_1637 pw_1638 pw_1639 pw_1523 pw_1611) hV_X12_deeper 0 9 rfl rfl rfl rfl (Nat.le_of_ble_eq_true rfl) dX12_front_45 ⟨Nat.le_of_ble_eq_true rfl, Nat.le_of_ble_eq_true rfl⟩ ⟨(by show 4 + 1 ≤ (20 * n + 14); omega), (by show 8 + (1 + 11) + 103 ≤ (1000 * n + 560); omega)⟩ (fun v94 u92 H locs hw93 hP hD hS => ?_)
      obtain ⟨fa95, pl96⟩ := u92
      obtain ⟨hw93, h97, h98, h99, h100⟩ := hw93
      have h97 : 0 ≤ fa95 := h97
      have h98 : fa95 ≤ 100 := h98
      have h99 : If (0 < 0) (fa95 = 0) := h99
      have h100 : If (ne ≤ 20) (ne + 1 ≤ 20 + fa95) := h100
      obtain rfl : v94 = none := hw93
      have hP : va_P G.1 pCl (mW G h0 a (upd (upd (upd (upd (upd (upd (upd F 15 (nI fa95)) 16 pl96) 27 (nI nd)) 31 (nI wr)) 64 (nI at0)) 65 (nI (ne + 1))) 66 lk) (updA (updA B 2 K) 19 yt)) _ := hP
      have hD : va_D A (mW G h0 a (upd (upd (upd (upd (upd (upd (upd F 15 (nI fa95)) 16 pl96) 27 (nI nd)) 31 (nI wr)) 64 (nI at0)) 65 (nI (ne + 1))) 66 lk) (updA (updA B 2 K) 19 yt)) := hD
      refine W.widen (k := 0) (n := 0) (Nat.le_of_ble_eq_true rfl) (Nat.le_of_ble_eq_true rfl) ?_
      refine W.eq (g2 := F0 m 48 ls []) rfl ?_
      have n101 := h100 hne
      rcases Nat.eq_zero_or_pos fa95 with e102 | e102
      · subst e102
        have hP : va_P G.1 pCl (mW G h0 a (upd (upd (upd (upd (upd (upd (upd F 15 0) 16 pl96) 27 (nI nd)) 31 (nI wr)) 64 (nI at0)) 65 (nI (ne + 1))) 66 lk) (updA (updA B 2 K) 19 yt)) _ := hP
        have hD : va_D A (mW G h0 a (upd (upd (upd (upd (upd (upd (upd F 15 0) 16 pl96) 27 (nI nd)) 31 (nI wr)) 64 (nI at0)) 65 (nI (ne + 1))) 66 lk) (updA (updA B 2 K) 19 yt)) := hD
        refine lv_aload_n hx hb dX12_front_48 rfl (lv_at hl 2 rfl) ?_
        refine lv_dup hx hb dX12_front_49 rfl ?_
        refine r_get (v := .int (nI at0)) hx hb hown hq hE hP 64 343 tFX12_64 (by decide) pw_1592 rfl dX12_front_50 ?_
        refine lv_iconst (v := 1) hx hb dX12_front_53 (by decide) ?_
        refine lv_iadd hx hb dX12_front_54 ?_
        refine lv_topi (fun x103 e104 => ?_)
        obtain rfl : x103 = nI (at0 + 1) := e104.trans (nI_add (at0) (1))
        refine r_put (v := (nI (at0 + 1))) (ty := .int) hx hb hown hq hE hP hD hS 64 343 tFX12_64 (by decide) pw_1592 (by decide) rfl rfl (ms_64 a _ _) dX12_front_55 (fun H locs hP hD hS => ?_)
        refine lv_aload_n hx hb dX12_front_58 rfl (lv_at hl 2 rfl) ?_
        refine lv_bipush (v := 17) hx hb dX12_front_59 (by decide) ?_
        refine lv_iload_n hx hb dX12_front_61 rfl (lv_at hl 0 rfl) ?_
        refine lv_iload_n hx hb dX12_front_62 rfl (lv_at hl 0 rfl) ?_
        refine lv_aload_n hx hb dX12_front_63 rfl (lv_at hl 2 rfl) ?_
        have hP : va_P G.1 pCl (mW G h0 a (upd (upd (upd (upd (upd (upd (upd (upd (upd (upd (upd (upd (upd F 15 0) 16 pl96) 27 (nI nd)) 31 (nI wr)) 64 (nI (at0 + 1))) 65 (nI (ne + 1))) 66 lk) 15 0) 27 (nI nd)) 31 (nI wr)) 64 (nI (at0 + 1))) 65 (nI (ne + 1))) 66 lk) (updA (updA (updA (updA B 2 K) 19 yt) 2 K) 19 yt)) _ := hP
        have hD : va_D A (mW G h0 a (upd (upd (upd (upd (upd (upd (upd (upd (upd (upd (upd (upd (upd F 15 0) 16 pl96) 27 (nI nd)) 31 (nI wr)) 64 (nI (at0 + 1))) 65 (nI (ne + 1))) 66 lk) 15 0) 27 (nI nd)) 31 (nI wr)) 64 (nI (at0 + 1))) 65 (nI (ne + 1))) 66 lk) (updA (updA (updA (updA B 2 K) 19 yt) 2 K) 19 yt)) := hD
        refine pc_V0 (G := G) (As := []) (rest := [.int (nI at0), .int (nI at0), .int 17, .ref h0]) hx hb hml hown hq hE hX pX0_al hP hD hS hA hl.1 (ihf h0 a (upd (upd (upd (upd (upd (upd (upd F 15 0) 16 pl96) 27 (nI nd)) 31 (nI wr)) 64 (nI (at0 + 1))) 65 (nI (ne + 1))) 66 lk) (updA (updA B 2 K) 19 yt) (at0 + 1) T K (ne + 1) nd wr lk yt (by omega) (by omega) hK (by omega) (by omega) (by omega) hy (by omega)) (gV pw_1664 pw_1665 pw_1666 pw_1523 pw_1660) hV_X12_front 0 9 rfl rfl rfl rfl (Nat.le_of_ble_eq_true rfl) dX12_front_64 ⟨Nat.le_of_ble_eq_true rfl, Nat.le_of_ble_eq_true rfl⟩ ⟨(by show (20 * (n - 1) + 14) + 1 ≤ (20 * n + 14); omega), (by show 8 + (4 + 11) + (1000 * (n - 1) + 560) ≤ (1000 * n + 560); omega)⟩ (fun v107 u105 H locs hw106 hP hD hS => ?_)
        obtain ⟨at108, fa109, pl110, lk111, nd112, wr113, r114, g115, g116, g117, g118, g119, g120, g121, g122, g123, g124, yt125, yr126⟩ := u105
        obtain ⟨hw106, h127, h128, h129, h130, h131, h132, h133, h134, h135, h136, h137⟩ := hw106
        have h127 : (at0 + 1) ≤ at108 := h127
        have h128 : at108 ≤ T := h128
        have h129 : fa109 ≤ 100 := h129
        have h130 : nd ≤ nd112 := h130
        have h131 : nd112 + 2 * (at0 + 1) ≤ nd + 2 * at108 + 100000 * fa109 := h131
        have h132 : nd112 + 2 * (at0 + 1) ≤ nd + 2 * at108 + 40 * (21 - (ne + 1)) := h132
        have h133 : wr ≤ wr113 := h133
        have h134 : wr113 + (at0 + 1) ≤ wr + at108 := h134
        have h135 : r114 ≤ nd112 := h135
        have h136 : (at0 + 1) + 1 ≤ at108 + fa109 := h136
        have h137 : tkRow yt125 wr113 T := h137
        obtain rfl : v107 = some (.int (nI r114)) := hw106
        have hP : va_P G.1 pCl (mW G h0 a (upd (upd (upd (upd (upd (upd (upd F 15 (nI fa109)) 16 pl110) 27 (nI nd112)) 31 (nI wr113)) 64 (nI at108)) 65 (nI (ne + 1))) 66 lk111) (updA (updA (updA (updA (updA (updA (updA (updA (updA (updA (updA (updA (updA B 2 K) 9 g115) 10 g116) 11 g117) 12 g118) 13 g119) 14 g120) 15 g121) 16 g122) 17 g123) 18 g124) 19 yt125) 20 yr126)) _ := hP
        have hD : va_D A (mW G h0 a (upd (upd (upd (upd (upd (upd (upd F 15 (nI fa109)) 16 pl110) 27 (nI nd112)) 31 (nI wr113)) 64 (nI at108)) 65 (nI (ne + 1))) 66 lk111) (updA (updA (updA (updA (updA (updA (updA (updA (updA (updA (updA (updA (updA B 2 K) 9 g115) 10 g116) 11 g117) 12 g118) 13 g119) 14 g120) 15 g121) 16 g122) 17 g123) 18 g124) 19 yt125) 20 yr126)) := hD
        refine W.widen (k := 0) (n := 0) (Nat.le_of_ble_eq_true rfl) (Nat.le_of_ble_eq_true rfl) ?_
        refine W.eq (g2 := F0 m 67 ls [.int (nI r114), .int (nI at0), .int (nI at0), .int 17, .ref h0]) rfl ?_
        refine lv_iconst (v := (-1)) hx hb dX12_front_67 (by decide) ?_
        have hP : va_P G.1 pCl (mW G h0 a (upd (upd (upd (upd (upd (upd (upd (upd F 15 (nI fa109)) 16 pl110) 27 (nI nd112)) 31 (nI wr113)) 64 (nI at108)) 65 (nI (ne + 1))) 66 lk111) 27 (nI nd112)) (updA (updA (updA (updA (updA (updA (updA (updA (updA (updA (updA (updA (updA B 2 K) 9 g115) 10 g116) 11 g117) 12 g118) 13 g119) 14 g120) 15 g121) 16 g122) 17 g123) 18 g124) 19 yt125) 20 yr126)) _ := hP
        have hD : va_D A (mW G h0 a (upd (upd (upd (upd (upd (upd (upd (upd F 15 (nI fa109)) 16 pl110) 27 (nI nd112)) 31 (nI wr113)) 64 (nI at108)) 65 (nI (ne + 1))) 66 lk111) 27 (nI nd112)) (updA (updA (updA (updA (updA (updA (updA (updA (updA (updA (updA (updA (updA B 2 K) 9 g115) 10 g116) 11 g117) 12 g118) 13 g119) 14 g120) 15 g121) 16 g122) 17 g123) 18 g124) 19 yt125) 20 yr126)) := hD
        refine pc_V0 (G := G) (As := [.int 17, .int (nI at0), .int (nI at0), .int (nI r114), .int (-1)]) (rest := []) hx hb hml hown hq hE hX pX0_al hP hD hS hA hl.1 (R_node l G h0 a (upd (upd (upd (upd (upd (upd (upd F 15 (nI fa109)) 16 pl110) 27 (nI nd112)) 31 (nI wr113)) 64 (nI at108)) 65 (nI (ne + 1))) 66 lk111) (updA (updA (updA (updA (updA (updA (updA (updA (updA (updA (updA (updA (updA B 2 K) 9 g115) 10 g116) 11 g117) 12 g118) 13 g119) 14 g120) 15 g121) 16 g122) 17 g123) 18 g124) 19 yt125) 20 yr126) 17 (nI at0) (nI at0) (nI r114) (-1) nd112 (by omega)) (gV pw_1650 pw_1651 pw_1652 pw_1523 pw_1589) hV_X12_node 0 9 rfl rfl rfl rfl (Nat.le_of_ble_eq_true rfl) dX12_front_68 ⟨Nat.le_of_ble_eq_true rfl, Nat.le_of_ble_eq_true rfl⟩ ⟨(by show 2 + 1 ≤ (20 * n + 14); omega), (by show 8 + (7 + 11) + 60 ≤ (1000 * n + 560); omega)⟩ (fun v140 u138 H locs hw139 hP hD hS => ?_)
        obtain rfl : v140 = some (.int (nI nd112)) := hw139
        have hP : va_P G.1 pCl (mW G h0 a (upd (upd (upd (upd (upd (upd (upd F 15 (nI fa109)) 16 pl110) 27 (nI (nd112 + 1))) 31 (nI wr113)) 64 (nI at108)) 65 (nI (ne + 1))) 66 lk111) (updA (updA (updA (updA (updA (updA (updA (updA (updA (updA (updA (updA (updA B 2 K) 9 (upd (g115) nd112 17)) 10 (upd (g116) nd112 (nI at0))) 11 (upd (g117) nd112 (nI at0))) 12 (upd (g118) nd112 (nI r114))) 13 (upd (g119) nd112 (-1))) 14 (upd (g120) nd112 (-1))) 15 (upd (g121) nd112 (-1))) 16 (upd (g122) nd112 (-1))) 17 (upd (g123) nd112 0)) 18 (upd (g124) nd112 (-1))) 19 yt125) 20 yr126)) _ := hP
        have hD : va_D A (mW G h0 a (upd (upd (upd (upd (upd (upd (upd F 15 (nI fa109)) 16 pl110) 27 (nI (nd112 + 1))) 31 (nI wr113)) 64 (nI at108)) 65 (nI (ne + 1))) 66 lk111) (updA (updA (updA (updA (updA (updA (updA (updA (updA (updA (updA (updA (updA B 2 K) 9 (upd (g115) nd112 17)) 10 (upd (g116) nd112 (nI at0))) 11 (upd (g117) nd112 (nI at0))) 12 (upd (g118) nd112 (nI r114))) 13 (upd (g119) nd112 (-1))) 14 (upd (g120) nd112 (-1))) 15 (upd (g121) nd112 (-1))) 16 (upd (g122) nd112 (-1))) 17 (upd (g123) nd112 0)) 18 (upd (g124) nd112 (-1))) 19 yt125) 20 yr126)) := hD
        refine W.widen (k := 0) (n := 0) (Nat.le_of_ble_eq_true rfl) (Nat.le_of_ble_eq_true rfl) ?_
        refine W.eq (g2 := F0 m 71 ls [.int (nI nd112)]) rfl ?_
        refine lv_istore_n (lv' := [(3, .int (nI nd112)), (2, .int (nI at0)), (1, .int (K at0)), (0, .ref h0)]) hx hb dX12_front_71 rfl hl (by decide) rfl (fun ls hl => ?_)
        refine lv_aload_n hx hb dX12_front_72 rfl (lv_at hl 3 rfl) ?_
        refine lv_dup hx hb dX12_front_73 rfl ?_
        refine r_get (v := .int (nI (ne + 1))) hx hb hown hq hE hP 65 366 tFX12_65 (by decide) pw_1612 rfl dX12_front_74 ?_
        refine lv_iconst (v := 1) hx hb dX12_front_77 (by decide) ?_
        refine lv_isub hx hb dX12_front_78 ?_
        refine lv_topi (fun x141 e142 => ?_)
        obtain rfl : x141 = nI ((ne + 1) - 1) := e142.trans (nI_subN (a := 1) (b := (ne + 1)) (by omega))
        refine r_put (v := (nI ((ne + 1) - 1))) (ty := .int) hx hb hown hq hE hP hD hS 65 366 tFX12_65 (by decide) pw_1612 (by decide) rfl rfl (ms_65 a _ _) dX12_front_79 (fun H locs hP hD hS => ?_)
        refine lv_iload_n hx hb dX12_front_82 rfl (lv_at hl 0 rfl) ?_
        have hz143 : at0 ≤ at108 := (by omega)
        have hz144 : at108 ≤ T := (by omega)
        have hz145 : fa109 ≤ 100 := (by omega)
        have hz146 : nd ≤ (nd112 + 1) := (by omega)
        have hz147 : (nd112 + 1) + 2 * at0 ≤ nd + 2 * at108 + 100000 * fa109 := (by omega)
        have hz148 : (nd112 + 1) + 2 * at0 ≤ nd + 2 * at108 + 40 * (21 - ne) := (by omega)
        have hz149 : wr ≤ wr113 := (by omega)
        have hz150 : wr113 + at0 ≤ wr + at108 := (by omega)
        have hz151 : nd112 ≤ (nd112 + 1) := (by omega)
        have hz152 : at0 + 1 ≤ at108 + fa109 := (by omega)
        have hz153 : tkRow yt125 wr113 T := h137
        have hP : va_P G.1 pCl (mW G h0 a (upd (upd (upd (upd (upd (upd (upd F 15 (nI fa109)) 16 pl110) 27 (nI (nd112 + 1))) 31 (nI wr113)) 64 (nI at108)) 65 (nI ne)) 66 lk111) (updA (updA (updA (updA (updA (updA (updA (updA (updA (updA (updA (updA (updA B 2 K) 9 (upd (g115) nd112 17)) 10 (upd (g116) nd112 (nI at0))) 11 (upd (g117) nd112 (nI at0))) 12 (upd (g118) nd112 (nI r114))) 13 (upd (g119) nd112 (-1))) 14 (upd (g120) nd112 (-1))) 15 (upd (g121) nd112 (-1))) 16 (upd (g122) nd112 (-1))) 17 (upd (g123) nd112 0)) 18 (upd (g124) nd112 (-1))) 19 yt125) 20 yr126)) _ := hP
        have hD : va_D A (mW G h0 a (upd (upd (upd (upd (upd (upd (upd F 15 (nI fa109)) 16 pl110) 27 (nI (nd112 + 1))) 31 (nI wr113)) 64 (nI at108)) 65 (nI ne)) 66 lk111) (updA (updA (updA (updA (updA (updA (updA (updA (updA (updA (updA (updA (updA B 2 K) 9 (upd (g115) nd112 17)) 10 (upd (g116) nd112 (nI at0))) 11 (upd (g117) nd112 (nI at0))) 12 (upd (g118) nd112 (nI r114))) 13 (upd (g119) nd112 (-1))) 14 (upd (g120) nd112 (-1))) 15 (upd (g121) nd112 (-1))) 16 (upd (g122) nd112 (-1))) 17 (upd (g123) nd112 0)) 18 (upd (g124) nd112 (-1))) 19 yt125) 20 yr126)) := hD
        exact W.iret (v := (nI nd112)) hx hb hr (fun t9 ht9 hW9 => ⟨⟨_, (at108, fa109, pl110, lk111, (nd112 + 1), wr113, nd112, (upd (g115) nd112 17), (upd (g116) nd112 (nI at0)), (upd (g117) nd112 (nI at0)), (upd (g118) nd112 (nI r114)), (upd (g119) nd112 (-1)), (upd (g120) nd112 (-1)), (upd (g121) nd112 (-1)), (upd (g122) nd112 (-1)), (upd (g123) nd112 0), (upd (g124) nd112 (-1)), yt125, yr126), rfl, ⟨rfl, hz143, hz144, hz145, hz146, hz147, hz148, hz149, hz150, hz151, hz152, hz153⟩, by rw [ht9]; exact hP, hD⟩, hS.F ht9⟩) hS.2.2 dX12_front_83
      · have e102 := e102
        refine lv_aload_n hx hb dX12_front_48 rfl (lv_at hl 2 rfl) ?_
        refine lv_dup hx hb dX12_front_49 rfl ?_
        refine r_get (v := .int (nI at0)) hx hb hown hq hE hP 64 343 tFX12_64 (by decide) pw_1592 rfl dX12_front_50 ?_
        refine lv_iconst (v := 1) hx hb dX12_front_53 (by decide) ?_
        refine lv_iadd hx hb dX12_front_54 ?_
        refine lv_topi (fun x154 e155 => ?_)
        obtain rfl : x154 = nI (at0 + 1) := e155.trans (nI_add (at0) (1))
        refine r_put (v := (nI (at0 + 1))) (ty := .int) hx hb hown hq hE hP hD hS 64 343 tFX12_64 (by decide) pw_1592 (by decide) rfl rfl (ms_64 a _ _) dX12_front_55 (fun H locs hP hD hS => ?_)
        refine lv_aload_n hx hb dX12_front_58 rfl (lv_at hl 2 rfl) ?_
        refine lv_bipush (v := 17) hx hb dX12_front_59 (by decide) ?_
        refine lv_iload_n hx hb dX12_front_61 rfl (lv_at hl 0 rfl) ?_
        refine lv_iload_n hx hb dX12_front_62 rfl (lv_at hl 0 rfl) ?_
        refine lv_aload_n hx hb dX12_front_63 rfl (lv_at hl 2 rfl) ?_
        have hP : va_P G.1 pCl (mW G h0 a (upd (upd (upd (upd (upd (upd (upd (upd (upd F 15 (nI fa95)) 16 pl96) 27 (nI nd)) 31 (nI wr)) 64 (nI (at0 + 1))) 65 (nI (ne + 1))) 66 lk) 15 (nI fa95)) 64 (nI (at0 + 1))) (updA (updA (updA B 2 K) 19 yt) 2 K)) _ := hP
        have hD : va_D A (mW G h0 a (upd (upd (upd (upd (upd (upd (upd (upd (upd F 15 (nI fa95)) 16 pl96) 27 (nI nd)) 31 (nI wr)) 64 (nI (at0 + 1))) 65 (nI (ne + 1))) 66 lk) 15 (nI fa95)) 64 (nI (at0 + 1))) (updA (updA (updA B 2 K) 19 yt) 2 K)) := hD
        refine pc_V0 (G := G) (As := []) (rest := [.int (nI at0), .int (nI at0), .int 17, .ref h0]) hx hb hml hown hq hE hX pX0_al hP hD hS hA hl.1 (RF_front l G h0 a (upd (upd (upd (upd (upd (upd (upd F 15 (nI fa95)) 16 pl96) 27 (nI nd)) 31 (nI wr)) 64 (nI (at0 + 1))) 65 (nI (ne + 1))) 66 lk) (updA (updA B 2 K) 19 yt) (at0 + 1) T fa95 K (by omega) (by omega) hK (by omega) e102) (gV pw_1664 pw_1665 pw_1666 pw_1523 pw_1660) hV_X12_front 0 9 rfl rfl rfl rfl (Nat.le_of_ble_eq_true rfl) dX12_front_64 ⟨Nat.le_of_ble_eq_true rfl, Nat.le_of_ble_eq_true rfl⟩ ⟨(by show 4 + 1 ≤ (20 * n + 14); omega), (by show 8 + (4 + 11) + 107 ≤ (1000 * n + 560); omega)⟩ (fun v158 u156 H locs hw157 hP hD hS => ?_)
        obtain rfl : v158 = some (.int 0) := hw157
        have hP : va_P G.1 pCl (mW G h0 a (upd (upd (upd (upd (upd (upd (upd F 15 (nI fa95)) 16 pl96) 27 (nI nd)) 31 (nI wr)) 64 (nI (at0 + 1))) 65 (nI (ne + 1))) 66 lk) (updA (updA B 2 K) 19 yt)) _ := hP
        have hD : va_D A (mW G h0 a (upd (upd (upd (upd (upd (upd (upd F 15 (nI fa95)) 16 pl96) 27 (nI nd)) 31 (nI wr)) 64 (nI (at0 + 1))) 65 (nI (ne + 1))) 66 lk) (updA (updA B 2 K) 19 yt)) := hD
        refine W.widen (k := 0) (n := 0) (Nat.le_of_ble_eq_true rfl) (Nat.le_of_ble_eq_true rfl) ?_
        refine W.eq (g2 := F0 m 67 ls [.int 0, .int (nI at0), .int (nI at0), .int 17, .ref h0]) rfl ?_
        refine lv_iconst (v := (-1)) hx hb dX12_front_67 (by decide) ?_
        have hP : va_P G.1 pCl (mW G h0 a (upd (upd (upd (upd (upd (upd (upd (upd F 15 (nI fa95)) 16 pl96) 27 (nI nd)) 31 (nI wr)) 64 (nI (at0 + 1))) 65 (nI (ne + 1))) 66 lk) 27 (nI nd)) (updA (updA B 2 K) 19 yt)) _ := hP
        have hD : va_D A (mW G h0 a (upd (upd (upd (upd (upd (upd (upd (upd F 15 (nI fa95)) 16 pl96) 27 (nI nd)) 31 (nI wr)) 64 (nI (at0 + 1))) 65 (nI (ne + 1))) 66 lk) 27 (nI nd)) (updA (updA B 2 K) 19 yt)) := hD
        refine pc_V0 (G := G) (As := [.int 17, .int (nI at0), .int (nI at0), .int 0, .int (-1)]) (rest := []) hx hb hml hown hq hE hX pX0_al hP hD hS hA hl.1 (R_node l G h0 a (upd (upd (upd (upd (upd (upd (upd F 15 (nI fa95)) 16 pl96) 27 (nI nd)) 31 (nI wr)) 64 (nI (at0 + 1))) 65 (nI (ne + 1))) 66 lk) (updA (updA B 2 K) 19 yt) 17 (nI at0) (nI at0) 0 (-1) nd (by omega)) (gV pw_1650 pw_1651 pw_1652 pw_1523 pw_1589) hV_X12_node 0 9 rfl rfl rfl rfl (Nat.le_of_ble_eq_true rfl) dX12_front_68 ⟨Nat.le_of_ble_eq_true rfl, Nat.le_of_ble_eq_true rfl⟩ ⟨(by show 2 + 1 ≤ (20 * n + 14); omega), (by show 8 + (7 + 11) + 60 ≤ (1000 * n + 560); omega)⟩ (fun v161 u159 H locs hw160 hP hD hS => ?_)
        obtain rfl : v161 = some (.int (nI nd)) := hw160
        have hP : va_P G.1 pCl (mW G h0 a (upd (upd (upd (upd (upd (upd (upd F 15 (nI fa95)) 16 pl96) 27 (nI (nd + 1))) 31 (nI wr)) 64 (nI (at0 + 1))) 65 (nI (ne + 1))) 66 lk) (updA (updA (updA (updA (updA (updA (updA (updA (updA (updA (updA (updA B 2 K) 9 (upd ((B 9)) nd 17)) 10 (upd ((B 10)) nd (nI at0))) 11 (upd ((B 11)) nd (nI at0))) 12 (upd ((B 12)) nd 0)) 13 (upd ((B 13)) nd (-1))) 14 (upd ((B 14)) nd (-1))) 15 (upd ((B 15)) nd (-1))) 16 (upd ((B 16)) nd (-1))) 17 (upd ((B 17)) nd 0)) 18 (upd ((B 18)) nd (-1))) 19 yt)) _ := hP
        have hD : va_D A (mW G h0 a (upd (upd (upd (upd (upd (upd (upd F 15 (nI fa95)) 16 pl96) 27 (nI (nd + 1))) 31 (nI wr)) 64 (nI (at0 + 1))) 65 (nI (ne + 1))) 66 lk) (updA (updA (updA (updA (updA (updA (updA (updA (updA (updA (updA (updA B 2 K) 9 (upd ((B 9)) nd 17)) 10 (upd ((B 10)) nd (nI at0))) 11 (upd ((B 11)) nd (nI at0))) 12 (upd ((B 12)) nd 0)) 13 (upd ((B 13)) nd (-1))) 14 (upd ((B 14)) nd (-1))) 15 (upd ((B 15)) nd (-1))) 16 (upd ((B 16)) nd (-1))) 17 (upd ((B 17)) nd 0)) 18 (upd ((B 18)) nd (-1))) 19 yt)) := hD
        refine W.widen (k := 0) (n := 0) (Nat.le_of_ble_eq_true rfl) (Nat.le_of_ble_eq_true rfl) ?_
        refine W.eq (g2 := F0 m 71 ls [.int (nI nd)]) rfl ?_
        refine lv_istore_n (lv' := [(3, .int (nI nd)), (2, .int (nI at0)), (1, .int (K at0)), (0, .ref h0)]) hx hb dX12_front_71 rfl hl (by decide) rfl (fun ls hl => ?_)
        refine lv_aload_n hx hb dX12_front_72 rfl (lv_at hl 3 rfl) ?_
        refine lv_dup hx hb dX12_front_73 rfl ?_
        refine r_get (v := .int (nI (ne + 1))) hx hb hown hq hE hP 65 366 tFX12_65 (by decide) pw_1612 rfl dX12_front_74 ?_
        refine lv_iconst (v := 1) hx hb dX12_front_77 (by decide) ?_
        refine lv_isub hx hb dX12_front_78 ?_
        refine lv_topi (fun x162 e163 => ?_)
        obtain rfl : x162 = nI ((ne + 1) - 1) := e163.trans (nI_subN (a := 1) (b := (ne + 1)) (by omega))
        refine r_put (v := (nI ((ne + 1) - 1))) (ty := .int) hx hb hown hq hE hP hD hS 65 366 tFX12_65 (by decide) pw_1612 (by decide) rfl rfl (ms_65 a _ _) dX12_front_79 (fun H locs hP hD hS => ?_)
        refine lv_iload_n hx hb dX12_front_82 rfl (lv_at hl 0 rfl) ?_
        have hz164 : at0 ≤ (at0 + 1) := (by omega)
        have hz165 : (at0 + 1) ≤ T := (by omega)
        have hz166 : fa95 ≤ 100 := (by omega)
        have hz167 : nd ≤ (nd + 1) := (by omega)
        have hz168 : (nd + 1) + 2 * at0 ≤ nd + 2 * (at0 + 1) + 100000 * fa95 := (by omega)
        have hz169 : (nd + 1) + 2 * at0 ≤ nd + 2 * (at0 + 1) + 40 * (21 - ne) := (by omega)
        have hz170 : wr ≤ wr := (by omega)
        have hz171 : wr + at0 ≤ wr + (at0 + 1) := (by omega)
        have hz172 : nd ≤ (nd + 1) := (by omega)
        have hz173 : at0 + 1 ≤ (at0 + 1) + fa95 := (by omega)
        have hz174 : tkRow yt wr T := hy
        have hP : va_P G.1 pCl (mW G h0 a (upd (upd (upd (upd (upd (upd (upd F 15 (nI fa95)) 16 pl96) 27 (nI (nd + 1))) 31 (nI wr)) 64 (nI (at0 + 1))) 65 (nI ne)) 66 lk) (updA (updA (updA (updA (updA (updA (updA (updA (updA (updA (updA (updA (updA B 2 K) 9 (upd ((B 9)) nd 17)) 10 (upd ((B 10)) nd (nI at0))) 11 (upd ((B 11)) nd (nI at0))) 12 (upd ((B 12)) nd 0)) 13 (upd ((B 13)) nd (-1))) 14 (upd ((B 14)) nd (-1))) 15 (upd ((B 15)) nd (-1))) 16 (upd ((B 16)) nd (-1))) 17 (upd ((B 17)) nd 0)) 18 (upd ((B 18)) nd (-1))) 19 yt) 20 (B 20))) _ := hP
        have hD : va_D A (mW G h0 a (upd (upd (upd (upd (upd (upd (upd F 15 (nI fa95)) 16 pl96) 27 (nI (nd + 1))) 31 (nI wr)) 64 (nI (at0 + 1))) 65 (nI ne)) 66 lk) (updA (updA (updA (updA (updA (updA (updA (updA (updA (updA (updA (updA (updA B 2 K) 9 (upd ((B 9)) nd 17)) 10 (upd ((B 10)) nd (nI at0))) 11 (upd ((B 11)) nd (nI at0))) 12 (upd ((B 12)) nd 0)) 13 (upd ((B 13)) nd (-1))) 14 (upd ((B 14)) nd (-1))) 15 (upd ((B 15)) nd (-1))) 16 (upd ((B 16)) nd (-1))) 17 (upd ((B 17)) nd 0)) 18 (upd ((B 18)) nd (-1))) 19 yt) 20 (B 20))) := hD
        exact W.iret (v := (nI nd)) hx hb hr (fun t9 ht9 hW9 => ⟨⟨_, ((at0 + 1), fa95, pl96, lk, (nd + 1), wr, nd, (upd ((B 9)) nd 17), (upd ((B 10)) nd (nI at0)), (upd ((B 11)) nd (nI at0)), (upd ((B 12)) nd 0), (upd ((B 13)) nd (-1)), (upd ((B 14)) nd (-1)), (upd ((B 15)) nd (-1)), (upd ((B 16)) nd (-1)), (upd ((B 17)) nd 0), (upd ((B 18)) nd (-1)), yt, (B 20)), rfl, ⟨rfl, hz164, hz165, hz166, hz167, hz168, hz169, hz170, hz171, hz172, hz173, hz174⟩, by rw [ht9]; exact hP, hD⟩, hS.F ht9⟩) hS.2.2 dX12_front_83
    · refine lv_iload_n hx hb dX12_front_28 rfl (lv_at hl 0 rfl) ?_
      refine lv_bipush (v := 33) hx hb dX12_front_29 (by decide) ?_
      refine lv_icmp_eq (tgt := 39) hx hb dX12_front_31 (by decide) (fun c175 => ?_) (fun c175 => ?_)
      · have n176 : at0 < T := tk_lt hat hK c175 (by decide) (by decide)
        refine lv_aload_n hx hb dX12_front_39 rfl (lv_at hl 1 rfl) ?_
        refine r_get (v := .int (nI at0)) hx hb hown hq hE hP 64 343 tFX12_64 (by decide) pw_1592 rfl dX12_front_40 ?_
        refine lv_istore_n (lv' := [(2, .int (nI at0)), (1, .int (K at0)), (0, .ref h0)]) hx hb dX12_front_43 rfl hl (by decide) rfl (fun ls hl => ?_)
        refine lv_aload_n hx hb dX12_front_44 rfl (lv_at hl 2 rfl) ?_
        have hP : va_P G.1 pCl (mW G h0 a (upd (upd (upd (upd (upd (upd (upd (upd (upd F 15 0) 27 (nI nd)) 31 (nI wr)) 64 (nI at0)) 65 (nI ne)) 66 lk) 15 (nI 0)) 64 (nI at0)) 65 (nI ne)) (updA (updA (updA B 2 K) 19 yt) 2 K)) _ := hP
        have hD : va_D A (mW G h0 a (upd (upd (upd (upd (upd (upd (upd (upd (upd F 15 0) 27 (nI nd)) 31 (nI wr)) 64 (nI at0)) 65 (nI ne)) 66 lk) 15 (nI 0)) 64 (nI at0)) 65 (nI ne)) (updA (updA (updA B 2 K) 19 yt) 2 K)) := hD
        refine pc_V0 (G := G) (As := []) (rest := []) hx hb hml hown hq hE hX pX0_al hP hD hS hA hl.1 (R_deeper l G h0 a (upd (upd (upd (upd (upd (upd F 15 0) 27 (nI nd)) 31 (nI wr)) 64 (nI at0)) 65 (nI ne)) 66 lk) (updA (updA B 2 K) 19 yt) at0 T 0 K ne (by omega) (by omega) hK (by omega) (by omega)) (gV pw_1637 pw_1638 pw_1639 pw_1523 pw_1611) hV_X12_deeper 0 9 rfl rfl rfl rfl (Nat.le_of_ble_eq_true rfl) dX12_front_45 ⟨Nat.le_of_ble_eq_true rfl, Nat.le_of_ble_eq_true rfl⟩ ⟨(by show 4 + 1 ≤ (20 * n + 14); omega), (by show 8 + (1 + 11) + 103 ≤ (1000 * n + 560); omega)⟩ (fun v179 u177 H locs hw178 hP hD hS => ?_)
        obtain ⟨fa180, pl181⟩ := u177
        obtain ⟨hw178, h182, h183, h184, h185⟩ := hw178
        have h182 : 0 ≤ fa180 := h182
        have h183 : fa180 ≤ 100 := h183
        have h184 : If (0 < 0) (fa180 = 0) := h184
        have h185 : If (ne ≤ 20) (ne + 1 ≤ 20 + fa180) := h185
        obtain rfl : v179 = none := hw178
        have hP : va_P G.1 pCl (mW G h0 a (upd (upd (upd (upd (upd (upd (upd F 15 (nI fa180)) 16 pl181) 27 (nI nd)) 31 (nI wr)) 64 (nI at0)) 65 (nI (ne + 1))) 66 lk) (updA (updA B 2 K) 19 yt)) _ := hP
        have hD : va_D A (mW G h0 a (upd (upd (upd (upd (upd (upd (upd F 15 (nI fa180)) 16 pl181) 27 (nI nd)) 31 (nI wr)) 64 (nI at0)) 65 (nI (ne + 1))) 66 lk) (updA (updA B 2 K) 19 yt)) := hD
        refine W.widen (k := 0) (n := 0) (Nat.le_of_ble_eq_true rfl) (Nat.le_of_ble_eq_true rfl) ?_
        refine W.eq (g2 := F0 m 48 ls []) rfl ?_
        have n186 := h185 hne
        rcases Nat.eq_zero_or_pos fa180 with e187 | e187
        · subst e187
          have hP : va_P G.1 pCl (mW G h0 a (upd (upd (upd (upd (upd (upd (upd F 15 0) 16 pl181) 27 (nI nd)) 31 (nI wr)) 64 (nI at0)) 65 (nI (ne + 1))) 66 lk) (updA (updA B 2 K) 19 yt)) _ := hP
          have hD : va_D A (mW G h0 a (upd (upd (upd (upd (upd (upd (upd F 15 0) 16 pl181) 27 (nI nd)) 31 (nI wr)) 64 (nI at0)) 65 (nI (ne + 1))) 66 lk) (updA (updA B 2 K) 19 yt)) := hD
          refine lv_aload_n hx hb dX12_front_48 rfl (lv_at hl 2 rfl) ?_
          refine lv_dup hx hb dX12_front_49 rfl ?_
          refine r_get (v := .int (nI at0)) hx hb hown hq hE hP 64 343 tFX12_64 (by decide) pw_1592 rfl dX12_front_50 ?_
          refine lv_iconst (v := 1) hx hb dX12_front_53 (by decide) ?_
          refine lv_iadd hx hb dX12_front_54 ?_
          refine lv_topi (fun x188 e189 => ?_)
          obtain rfl : x188 = nI (at0 + 1) := e189.trans (nI_add (at0) (1))
          refine r_put (v := (nI (at0 + 1))) (ty := .int) hx hb hown hq hE hP hD hS 64 343 tFX12_64 (by decide) pw_1592 (by decide) rfl rfl (ms_64 a _ _) dX12_front_55 (fun H locs hP hD hS => ?_)
          refine lv_aload_n hx hb dX12_front_58 rfl (lv_at hl 2 rfl) ?_
          refine lv_bipush (v := 17) hx hb dX12_front_59 (by decide) ?_
          refine lv_iload_n hx hb dX12_front_61 rfl (lv_at hl 0 rfl) ?_
          refine lv_iload_n hx hb dX12_front_62 rfl (lv_at hl 0 rfl) ?_
          refine lv_aload_n hx hb dX12_front_63 rfl (lv_at hl 2 rfl) ?_
          have hP : va_P G.1 pCl (mW G h0 a (upd (upd (upd (upd (upd (upd (upd (upd (upd (upd (upd (upd (upd F 15 0) 16 pl181) 27 (nI nd)) 31 (nI wr)) 64 (nI (at0 + 1))) 65 (nI (ne + 1))) 66 lk) 15 0) 27 (nI nd)) 31 (nI wr)) 64 (nI (at0 + 1))) 65 (nI (ne + 1))) 66 lk) (updA (updA (updA (updA B 2 K) 19 yt) 2 K) 19 yt)) _ := hP
          have hD : va_D A (mW G h0 a (upd (upd (upd (upd (upd (upd (upd (upd (upd (upd (upd (upd (upd F 15 0) 16 pl181) 27 (nI nd)) 31 (nI wr)) 64 (nI (at0 + 1))) 65 (nI (ne + 1))) 66 lk) 15 0) 27 (nI nd)) 31 (nI wr)) 64 (nI (at0 + 1))) 65 (nI (ne + 1))) 66 lk) (updA (updA (updA (updA B 2 K) 19 yt) 2 K) 19 yt)) := hD
          refine pc_V0 (G := G) (As := []) (rest := [.int (nI at0), .int (nI at0), .int 17, .ref h0]) hx hb hml hown hq hE hX pX0_al hP hD hS hA hl.1 (ihf h0 a (upd (upd (upd (upd (upd (upd (upd F 15 0) 16 pl181) 27 (nI nd)) 31 (nI wr)) 64 (nI (at0 + 1))) 65 (nI (ne + 1))) 66 lk) (updA (updA B 2 K) 19 yt) (at0 + 1) T K (ne + 1) nd wr lk yt (by omega) (by omega) hK (by omega) (by omega) (by omega) hy (by omega)) (gV pw_1664 pw_1665 pw_1666 pw_1523 pw_1660) hV_X12_front 0 9 rfl rfl rfl rfl (Nat.le_of_ble_eq_true rfl) dX12_front_64 ⟨Nat.le_of_ble_eq_true rfl, Nat.le_of_ble_eq_true rfl⟩ ⟨(by show (20 * (n - 1) + 14) + 1 ≤ (20 * n + 14); omega), (by show 8 + (4 + 11) + (1000 * (n - 1) + 560) ≤ (1000 * n + 560); omega)⟩ (fun v192 u190 H locs hw191 hP hD hS => ?_)
          obtain ⟨at193, fa194, pl195, lk196, nd197, wr198, r199, g200, g201, g202, g203, g204, g205, g206, g207, g208, g209, yt210, yr211⟩ := u190
          obtain ⟨hw191, h212, h213, h214, h215, h216, h217, h218, h219, h220, h221, h222⟩ := hw191
          have h212 : (at0 + 1) ≤ at193 := h212
          have h213 : at193 ≤ T := h213
          have h214 : fa194 ≤ 100 := h214
          have h215 : nd ≤ nd197 := h215
          have h216 : nd197 + 2 * (at0 + 1) ≤ nd + 2 * at193 + 100000 * fa194 := h216
          have h217 : nd197 + 2 * (at0 + 1) ≤ nd + 2 * at193 + 40 * (21 - (ne + 1)) := h217
          have h218 : wr ≤ wr198 := h218
          have h219 : wr198 + (at0 + 1) ≤ wr + at193 := h219
          have h220 : r199 ≤ nd197 := h220
          have h221 : (at0 + 1) + 1 ≤ at193 + fa194 := h221
          have h222 : tkRow yt210 wr198 T := h222
          obtain rfl : v192 = some (.int (nI r199)) := hw191
          have hP : va_P G.1 pCl (mW G h0 a (upd (upd (upd (upd (upd (upd (upd F 15 (nI fa194)) 16 pl195) 27 (nI nd197)) 31 (nI wr198)) 64 (nI at193)) 65 (nI (ne + 1))) 66 lk196) (updA (updA (updA (updA (updA (updA (updA (updA (updA (updA (updA (updA (updA B 2 K) 9 g200) 10 g201) 11 g202) 12 g203) 13 g204) 14 g205) 15 g206) 16 g207) 17 g208) 18 g209) 19 yt210) 20 yr211)) _ := hP
          have hD : va_D A (mW G h0 a (upd (upd (upd (upd (upd (upd (upd F 15 (nI fa194)) 16 pl195) 27 (nI nd197)) 31 (nI wr198)) 64 (nI at193)) 65 (nI (ne + 1))) 66 lk196) (updA (updA (updA (updA (updA (updA (updA (updA (updA (updA (updA (updA (updA B 2 K) 9 g200) 10 g201) 11 g202) 12 g203) 13 g204) 14 g205) 15 g206) 16 g207) 17 g208) 18 g209) 19 yt210) 20 yr211)) := hD
          refine W.widen (k := 0) (n := 0) (Nat.le_of_ble_eq_true rfl) (Nat.le_of_ble_eq_true rfl) ?_
          refine W.eq (g2 := F0 m 67 ls [.int (nI r199), .int (nI at0), .int (nI at0), .int 17, .ref h0]) rfl ?_
          refine lv_iconst (v := (-1)) hx hb dX12_front_67 (by decide) ?_
          have hP : va_P G.1 pCl (mW G h0 a (upd (upd (upd (upd (upd (upd (upd (upd F 15 (nI fa194)) 16 pl195) 27 (nI nd197)) 31 (nI wr198)) 64 (nI at193)) 65 (nI (ne + 1))) 66 lk196) 27 (nI nd197)) (updA (updA (updA (updA (updA (updA (updA (updA (updA (updA (updA (updA (updA B 2 K) 9 g200) 10 g201) 11 g202) 12 g203) 13 g204) 14 g205) 15 g206) 16 g207) 17 g208) 18 g209) 19 yt210) 20 yr211)) _ := hP
          have hD : va_D A (mW G h0 a (upd (upd (upd (upd (upd (upd (upd (upd F 15 (nI fa194)) 16 pl195) 27 (nI nd197)) 31 (nI wr198)) 64 (nI at193)) 65 (nI (ne + 1))) 66 lk196) 27 (nI nd197)) (updA (updA (updA (updA (updA (updA (updA (updA (updA (updA (updA (updA (updA B 2 K) 9 g200) 10 g201) 11 g202) 12 g203) 13 g204) 14 g205) 15 g206) 16 g207) 17 g208) 18 g209) 19 yt210) 20 yr211)) := hD
          refine pc_V0 (G := G) (As := [.int 17, .int (nI at0), .int (nI at0), .int (nI r199), .int (-1)]) (rest := []) hx hb hml hown hq hE hX pX0_al hP hD hS hA hl.1 (R_node l G h0 a (upd (upd (upd (upd (upd (upd (upd F 15 (nI fa194)) 16 pl195) 27 (nI nd197)) 31 (nI wr198)) 64 (nI at193)) 65 (nI (ne + 1))) 66 lk196) (updA (updA (updA (updA (updA (updA (updA (updA (updA (updA (updA (updA (updA B 2 K) 9 g200) 10 g201) 11 g202) 12 g203) 13 g204) 14 g205) 15 g206) 16 g207) 17 g208) 18 g209) 19 yt210) 20 yr211) 17 (nI at0) (nI at0) (nI r199) (-1) nd197 (by omega)) (gV pw_1650 pw_1651 pw_1652 pw_1523 pw_1589) hV_X12_node 0 9 rfl rfl rfl rfl (Nat.le_of_ble_eq_true rfl) dX12_front_68 ⟨Nat.le_of_ble_eq_true rfl, Nat.le_of_ble_eq_true rfl⟩ ⟨(by show 2 + 1 ≤ (20 * n + 14); omega), (by show 8 + (7 + 11) + 60 ≤ (1000 * n + 560); omega)⟩ (fun v225 u223 H locs hw224 hP hD hS => ?_)
          obtain rfl : v225 = some (.int (nI nd197)) := hw224
          have hP : va_P G.1 pCl (mW G h0 a (upd (upd (upd (upd (upd (upd (upd F 15 (nI fa194)) 16 pl195) 27 (nI (nd197 + 1))) 31 (nI wr198)) 64 (nI at193)) 65 (nI (ne + 1))) 66 lk196) (updA (updA (updA (updA (updA (updA (updA (updA (updA (updA (updA (updA (updA B 2 K) 9 (upd (g200) nd197 17)) 10 (upd (g201) nd197 (nI at0))) 11 (upd (g202) nd197 (nI at0))) 12 (upd (g203) nd197 (nI r199))) 13 (upd (g204) nd197 (-1))) 14 (upd (g205) nd197 (-1))) 15 (upd (g206) nd197 (-1))) 16 (upd (g207) nd197 (-1))) 17 (upd (g208) nd197 0)) 18 (upd (g209) nd197 (-1))) 19 yt210) 20 yr211)) _ := hP
          have hD : va_D A (mW G h0 a (upd (upd (upd (upd (upd (upd (upd F 15 (nI fa194)) 16 pl195) 27 (nI (nd197 + 1))) 31 (nI wr198)) 64 (nI at193)) 65 (nI (ne + 1))) 66 lk196) (updA (updA (updA (updA (updA (updA (updA (updA (updA (updA (updA (updA (updA B 2 K) 9 (upd (g200) nd197 17)) 10 (upd (g201) nd197 (nI at0))) 11 (upd (g202) nd197 (nI at0))) 12 (upd (g203) nd197 (nI r199))) 13 (upd (g204) nd197 (-1))) 14 (upd (g205) nd197 (-1))) 15 (upd (g206) nd197 (-1))) 16 (upd (g207) nd197 (-1))) 17 (upd (g208) nd197 0)) 18 (upd (g209) nd197 (-1))) 19 yt210) 20 yr211)) := hD
          refine W.widen (k := 0) (n := 0) (Nat.le_of_ble_eq_true rfl) (Nat.le_of_ble_eq_true rfl) ?_
          refine W.eq (g2 := F0 m 71 ls [.int (nI nd197)]) rfl ?_
          refine lv_istore_n (lv' := [(3, .int (nI nd197)), (2, .int (nI at0)), (1, .int (K at0)), (0, .ref h0)]) hx hb dX12_front_71 rfl hl (by decide) rfl (fun ls hl => ?_)
          refine lv_aload_n hx hb dX12_front_72 rfl (lv_at hl 3 rfl) ?_
          refine lv_dup hx hb dX12_front_73 rfl ?_
          refine r_get (v := .int (nI (ne + 1))) hx hb hown hq hE hP 65 366 tFX12_65 (by decide) pw_1612 rfl dX12_front_74 ?_
          refine lv_iconst (v := 1) hx hb dX12_front_77 (by decide) ?_
          refine lv_isub hx hb dX12_front_78 ?_
          refine lv_topi (fun x226 e227 => ?_)
          obtain rfl : x226 = nI ((ne + 1) - 1) := e227.trans (nI_subN (a := 1) (b := (ne + 1)) (by omega))
          refine r_put (v := (nI ((ne + 1) - 1))) (ty := .int) hx hb hown hq hE hP hD hS 65 366 tFX12_65 (by decide) pw_1612 (by decide) rfl rfl (ms_65 a _ _) dX12_front_79 (fun H locs hP hD hS => ?_)
          refine lv_iload_n hx hb dX12_front_82 rfl (lv_at hl 0 rfl) ?_
          have hz228 : at0 ≤ at193 := (by omega)
          have hz229 : at193 ≤ T := (by omega)
          have hz230 : fa194 ≤ 100 := (by omega)
          have hz231 : nd ≤ (nd197 + 1) := (by omega)
          have hz232 : (nd197 + 1) + 2 * at0 ≤ nd + 2 * at193 + 100000 * fa194 := (by omega)
          have hz233 : (nd197 + 1) + 2 * at0 ≤ nd + 2 * at193 + 40 * (21 - ne) := (by omega)
          have hz234 : wr ≤ wr198 := (by omega)
          have hz235 : wr198 + at0 ≤ wr + at193 := (by omega)
          have hz236 : nd197 ≤ (nd197 + 1) := (by omega)
          have hz237 : at0 + 1 ≤ at193 + fa194 := (by omega)
          have hz238 : tkRow yt210 wr198 T := h222
          have hP : va_P G.1 pCl (mW G h0 a (upd (upd (upd (upd (upd (upd (upd F 15 (nI fa194)) 16 pl195) 27 (nI (nd197 + 1))) 31 (nI wr198)) 64 (nI at193)) 65 (nI ne)) 66 lk196) (updA (updA (updA (updA (updA (updA (updA (updA (updA (updA (updA (updA (updA B 2 K) 9 (upd (g200) nd197 17)) 10 (upd (g201) nd197 (nI at0))) 11 (upd (g202) nd197 (nI at0))) 12 (upd (g203) nd197 (nI r199))) 13 (upd (g204) nd197 (-1))) 14 (upd (g205) nd197 (-1))) 15 (upd (g206) nd197 (-1))) 16 (upd (g207) nd197 (-1))) 17 (upd (g208) nd197 0)) 18 (upd (g209) nd197 (-1))) 19 yt210) 20 yr211)) _ := hP
          have hD : va_D A (mW G h0 a (upd (upd (upd (upd (upd (upd (upd F 15 (nI fa194)) 16 pl195) 27 (nI (nd197 + 1))) 31 (nI wr198)) 64 (nI at193)) 65 (nI ne)) 66 lk196) (updA (updA (updA (updA (updA (updA (updA (updA (updA (updA (updA (updA (updA B 2 K) 9 (upd (g200) nd197 17)) 10 (upd (g201) nd197 (nI at0))) 11 (upd (g202) nd197 (nI at0))) 12 (upd (g203) nd197 (nI r199))) 13 (upd (g204) nd197 (-1))) 14 (upd (g205) nd197 (-1))) 15 (upd (g206) nd197 (-1))) 16 (upd (g207) nd197 (-1))) 17 (upd (g208) nd197 0)) 18 (upd (g209) nd197 (-1))) 19 yt210) 20 yr211)) := hD
          exact W.iret (v := (nI nd197)) hx hb hr (fun t9 ht9 hW9 => ⟨⟨_, (at193, fa194, pl195, lk196, (nd197 + 1), wr198, nd197, (upd (g200) nd197 17), (upd (g201) nd197 (nI at0)), (upd (g202) nd197 (nI at0)), (upd (g203) nd197 (nI r199)), (upd (g204) nd197 (-1)), (upd (g205) nd197 (-1)), (upd (g206) nd197 (-1)), (upd (g207) nd197 (-1)), (upd (g208) nd197 0), (upd (g209) nd197 (-1)), yt210, yr211), rfl, ⟨rfl, hz228, hz229, hz230, hz231, hz232, hz233, hz234, hz235, hz236, hz237, hz238⟩, by rw [ht9]; exact hP, hD⟩, hS.F ht9⟩) hS.2.2 dX12_front_83
        · have e187 := e187
          refine lv_aload_n hx hb dX12_front_48 rfl (lv_at hl 2 rfl) ?_
          refine lv_dup hx hb dX12_front_49 rfl ?_
          refine r_get (v := .int (nI at0)) hx hb hown hq hE hP 64 343 tFX12_64 (by decide) pw_1592 rfl dX12_front_50 ?_
          refine lv_iconst (v := 1) hx hb dX12_front_53 (by decide) ?_
          refine lv_iadd hx hb dX12_front_54 ?_
          refine lv_topi (fun x239 e240 => ?_)
          obtain rfl : x239 = nI (at0 + 1) := e240.trans (nI_add (at0) (1))
          refine r_put (v := (nI (at0 + 1))) (ty := .int) hx hb hown hq hE hP hD hS 64 343 tFX12_64 (by decide) pw_1592 (by decide) rfl rfl (ms_64 a _ _) dX12_front_55 (fun H locs hP hD hS => ?_)
          refine lv_aload_n hx hb dX12_front_58 rfl (lv_at hl 2 rfl) ?_
          refine lv_bipush (v := 17) hx hb dX12_front_59 (by decide) ?_
          refine lv_iload_n hx hb dX12_front_61 rfl (lv_at hl 0 rfl) ?_
          refine lv_iload_n hx hb dX12_front_62 rfl (lv_at hl 0 rfl) ?_
          refine lv_aload_n hx hb dX12_front_63 rfl (lv_at hl 2 rfl) ?_
          have hP : va_P G.1 pCl (mW G h0 a (upd (upd (upd (upd (upd (upd (upd (upd (upd F 15 (nI fa180)) 16 pl181) 27 (nI nd)) 31 (nI wr)) 64 (nI (at0 + 1))) 65 (nI (ne + 1))) 66 lk) 15 (nI fa180)) 64 (nI (at0 + 1))) (updA (updA (updA B 2 K) 19 yt) 2 K)) _ := hP
          have hD : va_D A (mW G h0 a (upd (upd (upd (upd (upd (upd (upd (upd (upd F 15 (nI fa180)) 16 pl181) 27 (nI nd)) 31 (nI wr)) 64 (nI (at0 + 1))) 65 (nI (ne + 1))) 66 lk) 15 (nI fa180)) 64 (nI (at0 + 1))) (updA (updA (updA B 2 K) 19 yt) 2 K)) := hD
          refine pc_V0 (G := G) (As := []) (rest := [.int (nI at0), .int (nI at0), .int 17, .ref h0]) hx hb hml hown hq hE hX pX0_al hP hD hS hA hl.1 (RF_front l G h0 a (upd (upd (upd (upd (upd (upd (upd F 15 (nI fa180)) 16 pl181) 27 (nI nd)) 31 (nI wr)) 64 (nI (at0 + 1))) 65 (nI (ne + 1))) 66 lk) (updA (updA B 2 K) 19 yt) (at0 + 1) T fa180 K (by omega) (by omega) hK (by omega) e187) (gV pw_1664 pw_1665 pw_1666 pw_1523 pw_1660) hV_X12_front 0 9 rfl rfl rfl rfl (Nat.le_of_ble_eq_true rfl) dX12_front_64 ⟨Nat.le_of_ble_eq_true rfl, Nat.le_of_ble_eq_true rfl⟩ ⟨(by show 4 + 1 ≤ (20 * n + 14); omega), (by show 8 + (4 + 11) + 107 ≤ (1000 * n + 560); omega)⟩ (fun v243 u241 H locs hw242 hP hD hS => ?_)
          obtain rfl : v243 = some (.int 0) := hw242
          have hP : va_P G.1 pCl (mW G h0 a (upd (upd (upd (upd (upd (upd (upd F 15 (nI fa180)) 16 pl181) 27 (nI nd)) 31 (nI wr)) 64 (nI (at0 + 1))) 65 (nI (ne + 1))) 66 lk) (updA (updA B 2 K) 19 yt)) _ := hP
          have hD : va_D A (mW G h0 a (upd (upd (upd (upd (upd (upd (upd F 15 (nI fa180)) 16 pl181) 27 (nI nd)) 31 (nI wr)) 64 (nI (at0 + 1))) 65 (nI (ne + 1))) 66 lk) (updA (updA B 2 K) 19 yt)) := hD
          refine W.widen (k := 0) (n := 0) (Nat.le_of_ble_eq_true rfl) (Nat.le_of_ble_eq_true rfl) ?_
          refine W.eq (g2 := F0 m 67 ls [.int 0, .int (nI at0), .int (nI at0), .int 17, .ref h0]) rfl ?_
          refine lv_iconst (v := (-1)) hx hb dX12_front_67 (by decide) ?_
          have hP : va_P G.1 pCl (mW G h0 a (upd (upd (upd (upd (upd (upd (upd (upd F 15 (nI fa180)) 16 pl181) 27 (nI nd)) 31 (nI wr)) 64 (nI (at0 + 1))) 65 (nI (ne + 1))) 66 lk) 27 (nI nd)) (updA (updA B 2 K) 19 yt)) _ := hP
          have hD : va_D A (mW G h0 a (upd (upd (upd (upd (upd (upd (upd (upd F 15 (nI fa180)) 16 pl181) 27 (nI nd)) 31 (nI wr)) 64 (nI (at0 + 1))) 65 (nI (ne + 1))) 66 lk) 27 (nI nd)) (updA (updA B 2 K) 19 yt)) := hD
          refine pc_V0 (G := G) (As := [.int 17, .int (nI at0), .int (nI at0), .int 0, .int (-1)]) (rest := []) hx hb hml hown hq hE hX pX0_al hP hD hS hA hl.1 (R_node l G h0 a (upd (upd (upd (upd (upd (upd (upd F 15 (nI fa180)) 16 pl181) 27 (nI nd)) 31 (nI wr)) 64 (nI (at0 + 1))) 65 (nI (ne + 1))) 66 lk) (updA (updA B 2 K) 19 yt) 17 (nI at0) (nI at0) 0 (-1) nd (by omega)) (gV pw_1650 pw_1651 pw_1652 pw_1523 pw_1589) hV_X12_node 0 9 rfl rfl rfl rfl (Nat.le_of_ble_eq_true rfl) dX12_front_68 ⟨Nat.le_of_ble_eq_true rfl, Nat.le_of_ble_eq_true rfl⟩ ⟨(by show 2 + 1 ≤ (20 * n + 14); omega), (by show 8 + (7 + 11) + 60 ≤ (1000 * n + 560); omega)⟩ (fun v246 u244 H locs hw245 hP hD hS => ?_)
          obtain rfl : v246 = some (.int (nI nd)) := hw245
          have hP : va_P G.1 pCl (mW G h0 a (upd (upd (upd (upd (upd (upd (upd F 15 (nI fa180)) 16 pl181) 27 (nI (nd + 1))) 31 (nI wr)) 64 (nI (at0 + 1))) 65 (nI (ne + 1))) 66 lk) (updA (updA (updA (updA (updA (updA (updA (updA (updA (updA (updA (updA B 2 K) 9 (upd ((B 9)) nd 17)) 10 (upd ((B 10)) nd (nI at0))) 11 (upd ((B 11)) nd (nI at0))) 12 (upd ((B 12)) nd 0)) 13 (upd ((B 13)) nd (-1))) 14 (upd ((B 14)) nd (-1))) 15 (upd ((B 15)) nd (-1))) 16 (upd ((B 16)) nd (-1))) 17 (upd ((B 17)) nd 0)) 18 (upd ((B 18)) nd (-1))) 19 yt)) _ := hP
          have hD : va_D A (mW G h0 a (upd (upd (upd (upd (upd (upd (upd F 15 (nI fa180)) 16 pl181) 27 (nI (nd + 1))) 31 (nI wr)) 64 (nI (at0 + 1))) 65 (nI (ne + 1))) 66 lk) (updA (updA (updA (updA (updA (updA (updA (updA (updA (updA (updA (updA B 2 K) 9 (upd ((B 9)) nd 17)) 10 (upd ((B 10)) nd (nI at0))) 11 (upd ((B 11)) nd (nI at0))) 12 (upd ((B 12)) nd 0)) 13 (upd ((B 13)) nd (-1))) 14 (upd ((B 14)) nd (-1))) 15 (upd ((B 15)) nd (-1))) 16 (upd ((B 16)) nd (-1))) 17 (upd ((B 17)) nd 0)) 18 (upd ((B 18)) nd (-1))) 19 yt)) := hD
          refine W.widen (k := 0) (n := 0) (Nat.le_of_ble_eq_true rfl) (Nat.le_of_ble_eq_true rfl) ?_
          refine W.eq (g2 := F0 m 71 ls [.int (nI nd)]) rfl ?_
          refine lv_istore_n (lv' := [(3, .int (nI nd)), (2, .int (nI at0)), (1, .int (K at0)), (0, .ref h0)]) hx hb dX12_front_71 rfl hl (by decide) rfl (fun ls hl => ?_)
          refine lv_aload_n hx hb dX12_front_72 rfl (lv_at hl 3 rfl) ?_
          refine lv_dup hx hb dX12_front_73 rfl ?_
          refine r_get (v := .int (nI (ne + 1))) hx hb hown hq hE hP 65 366 tFX12_65 (by decide) pw_1612 rfl dX12_front_74 ?_
          refine lv_iconst (v := 1) hx hb dX12_front_77 (by decide) ?_
          refine lv_isub hx hb dX12_front_78 ?_
          refine lv_topi (fun x247 e248 => ?_)
          obtain rfl : x247 = nI ((ne + 1) - 1) := e248.trans (nI_subN (a := 1) (b := (ne + 1)) (by omega))
          refine r_put (v := (nI ((ne + 1) - 1))) (ty := .int) hx hb hown hq hE hP hD hS 65 366 tFX12_65 (by decide) pw_1612 (by decide) rfl rfl (ms_65 a _ _) dX12_front_79 (fun H locs hP hD hS => ?_)
          refine lv_iload_n hx hb dX12_front_82 rfl (lv_at hl 0 rfl) ?_
          have hz249 : at0 ≤ (at0 + 1) := (by omega)
          have hz250 : (at0 + 1) ≤ T := (by omega)
          have hz251 : fa180 ≤ 100 := (by omega)
          have hz252 : nd ≤ (nd + 1) := (by omega)
          have hz253 : (nd + 1) + 2 * at0 ≤ nd + 2 * (at0 + 1) + 100000 * fa180 := (by omega)
          have hz254 : (nd + 1) + 2 * at0 ≤ nd + 2 * (at0 + 1) + 40 * (21 - ne) := (by omega)
          have hz255 : wr ≤ wr := (by omega)
          have hz256 : wr + at0 ≤ wr + (at0 + 1) := (by omega)
          have hz257 : nd ≤ (nd + 1) := (by omega)
          have hz258 : at0 + 1 ≤ (at0 + 1) + fa180 := (by omega)
          have hz259 : tkRow yt wr T := hy
          have hP : va_P G.1 pCl (mW G h0 a (upd (upd (upd (upd (upd (upd (upd F 15 (nI fa180)) 16 pl181) 27 (nI (nd + 1))) 31 (nI wr)) 64 (nI (at0 + 1))) 65 (nI ne)) 66 lk) (updA (updA (updA (updA (updA (updA (updA (updA (updA (updA (updA (updA (updA B 2 K) 9 (upd ((B 9)) nd 17)) 10 (upd ((B 10)) nd (nI at0))) 11 (upd ((B 11)) nd (nI at0))) 12 (upd ((B 12)) nd 0)) 13 (upd ((B 13)) nd (-1))) 14 (upd ((B 14)) nd (-1))) 15 (upd ((B 15)) nd (-1))) 16 (upd ((B 16)) nd (-1))) 17 (upd ((B 17)) nd 0)) 18 (upd ((B 18)) nd (-1))) 19 yt) 20 (B 20))) _ := hP
          have hD : va_D A (mW G h0 a (upd (upd (upd (upd (upd (upd (upd F 15 (nI fa180)) 16 pl181) 27 (nI (nd + 1))) 31 (nI wr)) 64 (nI (at0 + 1))) 65 (nI ne)) 66 lk) (updA (updA (updA (updA (updA (updA (updA (updA (updA (updA (updA (updA (updA B 2 K) 9 (upd ((B 9)) nd 17)) 10 (upd ((B 10)) nd (nI at0))) 11 (upd ((B 11)) nd (nI at0))) 12 (upd ((B 12)) nd 0)) 13 (upd ((B 13)) nd (-1))) 14 (upd ((B 14)) nd (-1))) 15 (upd ((B 15)) nd (-1))) 16 (upd ((B 16)) nd (-1))) 17 (upd ((B 17)) nd 0)) 18 (upd ((B 18)) nd (-1))) 19 yt) 20 (B 20))) := hD
          exact W.iret (v := (nI nd)) hx hb hr (fun t9 ht9 hW9 => ⟨⟨_, ((at0 + 1), fa180, pl181, lk, (nd + 1), wr, nd, (upd ((B 9)) nd 17), (upd ((B 10)) nd (nI at0)), (upd ((B 11)) nd (nI at0)), (upd ((B 12)) nd 0), (upd ((B 13)) nd (-1)), (upd ((B 14)) nd (-1)), (upd ((B 15)) nd (-1)), (upd ((B 16)) nd (-1)), (upd ((B 17)) nd 0), (upd ((B 18)) nd (-1)), yt, (B 20)), rfl, ⟨rfl, hz249, hz250, hz251, hz252, hz253, hz254, hz255, hz256, hz257, hz258, hz259⟩, by rw [ht9]; exact hP, hD⟩, hS.F ht9⟩) hS.2.2 dX12_front_83
      · refine lv_aload_n hx hb dX12_front_34 rfl (lv_at hl 1 rfl) ?_
        have hP : va_P G.1 pCl (mW G h0 a (upd (upd (upd (upd (upd (upd (upd (upd (upd (upd (upd (upd F 15 0) 27 (nI nd)) 31 (nI wr)) 64 (nI at0)) 65 (nI ne)) 66 lk) 15 0) 27 (nI nd)) 31 (nI wr)) 64 (nI at0)) 65 (nI ne)) 66 lk) (updA (updA (updA (updA B 2 K) 19 yt) 2 K) 19 yt)) _ := hP
        have hD : va_D A (mW G h0 a (upd (upd (upd (upd (upd (upd (upd (upd (upd (upd (upd (upd F 15 0) 27 (nI nd)) 31 (nI wr)) 64 (nI at0)) 65 (nI ne)) 66 lk) 15 0) 27 (nI nd)) 31 (nI wr)) 64 (nI at0)) 65 (nI ne)) 66 lk) (updA (updA (updA (updA B 2 K) 19 yt) 2 K) 19 yt)) := hD
        refine pc_V0 (G := G) (As := []) (rest := []) hx hb hml hown hq hE hX pX0_al hP hD hS hA hl.1 (hc h0 a (upd (upd (upd (upd (upd (upd F 15 0) 27 (nI nd)) 31 (nI wr)) 64 (nI at0)) 65 (nI ne)) 66 lk) (updA (updA B 2 K) 19 yt) at0 T K ne nd wr lk yt (by omega) (by omega) hK (by omega) (by omega) (by omega) hy (by omega)) (gV pw_1661 pw_1662 pw_1663 pw_1523 pw_1643) hV_X12_chain 0 9 rfl rfl rfl rfl (Nat.le_of_ble_eq_true rfl) dX12_front_35 ⟨Nat.le_of_ble_eq_true rfl, Nat.le_of_ble_eq_true rfl⟩ ⟨(by show (20 * n + 12) + 1 ≤ (20 * n + 14); omega), (by show 8 + (4 + 11) + (1000 * n + 480) ≤ (1000 * n + 560); omega)⟩ (fun v262 u260 H locs hw261 hP hD hS => ?_)
        obtain ⟨at263, fa264, pl265, lk266, nd267, wr268, r269, g270, g271, g272, g273, g274, g275, g276, g277, g278, g279, yt280, yr281⟩ := u260
        obtain ⟨hw261, h282, h283, h284, h285, h286, h287, h288, h289, h290, h291, h292⟩ := hw261
        have h282 : at0 ≤ at263 := h282
        have h283 : at263 ≤ T := h283
        have h284 : fa264 ≤ 100 := h284
        have h285 : nd ≤ nd267 := h285
        have h286 : nd267 + 2 * at0 ≤ nd + 2 * at263 + 100000 * fa264 := h286
        have h287 : nd267 + 2 * at0 ≤ nd + 2 * at263 + 40 * (21 - ne) := h287
        have h288 : wr ≤ wr268 := h288
        have h289 : wr268 + at0 ≤ wr + at263 := h289
        have h290 : r269 ≤ nd267 := h290
        have h291 : at0 + 1 ≤ at263 + fa264 := h291
        have h292 : tkRow yt280 wr268 T := h292
        obtain rfl : v262 = some (.int (nI r269)) := hw261
        have hP : va_P G.1 pCl (mW G h0 a (upd (upd (upd (upd (upd (upd (upd F 15 (nI fa264)) 16 pl265) 27 (nI nd267)) 31 (nI wr268)) 64 (nI at263)) 65 (nI ne)) 66 lk266) (updA (updA (updA (updA (updA (updA (updA (updA (updA (updA (updA (updA (updA B 2 K) 9 g270) 10 g271) 11 g272) 12 g273) 13 g274) 14 g275) 15 g276) 16 g277) 17 g278) 18 g279) 19 yt280) 20 yr281)) _ := hP
        have hD : va_D A (mW G h0 a (upd (upd (upd (upd (upd (upd (upd F 15 (nI fa264)) 16 pl265) 27 (nI nd267)) 31 (nI wr268)) 64 (nI at263)) 65 (nI ne)) 66 lk266) (updA (updA (updA (updA (updA (updA (updA (updA (updA (updA (updA (updA (updA B 2 K) 9 g270) 10 g271) 11 g272) 12 g273) 13 g274) 14 g275) 15 g276) 16 g277) 17 g278) 18 g279) 19 yt280) 20 yr281)) := hD
        refine W.widen (k := 0) (n := 0) (Nat.le_of_ble_eq_true rfl) (Nat.le_of_ble_eq_true rfl) ?_
        refine W.eq (g2 := F0 m 38 ls [.int (nI r269)]) rfl ?_
        have hz293 : at0 ≤ at263 := (by omega)
        have hz294 : at263 ≤ T := (by omega)
        have hz295 : fa264 ≤ 100 := (by omega)
        have hz296 : nd ≤ nd267 := (by omega)
        have hz297 : nd267 + 2 * at0 ≤ nd + 2 * at263 + 100000 * fa264 := (by omega)
        have hz298 : nd267 + 2 * at0 ≤ nd + 2 * at263 + 40 * (21 - ne) := (by omega)
        have hz299 : wr ≤ wr268 := (by omega)
        have hz300 : wr268 + at0 ≤ wr + at263 := (by omega)
        have hz301 : r269 ≤ nd267 := (by omega)
        have hz302 : at0 + 1 ≤ at263 + fa264 := (by omega)
        have hz303 : tkRow yt280 wr268 T := h292
        have hP : va_P G.1 pCl (mW G h0 a (upd (upd (upd (upd (upd (upd (upd F 15 (nI fa264)) 16 pl265) 27 (nI nd267)) 31 (nI wr268)) 64 (nI at263)) 65 (nI ne)) 66 lk266) (updA (updA (updA (updA (updA (updA (updA (updA (updA (updA (updA (updA (updA B 2 K) 9 g270) 10 g271) 11 g272) 12 g273) 13 g274) 14 g275) 15 g276) 16 g277) 17 g278) 18 g279) 19 yt280) 20 yr281)) _ := hP
        have hD : va_D A (mW G h0 a (upd (upd (upd (upd (upd (upd (upd F 15 (nI fa264)) 16 pl265) 27 (nI nd267)) 31 (nI wr268)) 64 (nI at263)) 65 (nI ne)) 66 lk266) (updA (updA (updA (updA (updA (updA (updA (updA (updA (updA (updA (updA (updA B 2 K) 9 g270) 10 g271) 11 g272) 12 g273) 13 g274) 14 g275) 15 g276) 16 g277) 17 g278) 18 g279) 19 yt280) 20 yr281)) := hD
        exact W.iret (v := (nI r269)) hx hb hr (fun t9 ht9 hW9 => ⟨⟨_, (at263, fa264, pl265, lk266, nd267, wr268, r269, g270, g271, g272, g273, g274, g275, g276, g277, g278, g279, yt280, yr281), rfl, ⟨rfl, hz293, hz294, hz295, hz296, hz297, hz298, hz299, hz300, hz301, hz302, hz303⟩, by rw [ht9]; exact hP, hD⟩, hS.F ht9⟩) hS.2.2 dX12_front_38
