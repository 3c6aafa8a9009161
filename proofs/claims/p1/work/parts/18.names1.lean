theorem and255 (x : Int32) : ∃ j : Nat, j < 256 ∧ x &&& 255 = nI j := by
  refine ⟨(x &&& 255).toBitVec.toNat, ?_, ?_⟩
  · rw [Int32.toBitVec_and, BitVec.toNat_and]
    exact Nat.lt_of_le_of_lt Nat.and_le_right (by decide)
  · apply Int32.toBitVec_inj.mp
    show _ = BitVec.ofNat 32 _
    rw [BitVec.ofNat_toNat, BitVec.setWidth_eq]
/-- the names' rows: what stands in them stays within the names there are, and within the 220 bytes -/
def nInv (nm : Nat) (f7 f8 f9 f10 : Nat → Int32) : Prop := (∀ j : Nat, j < 256 → f10 j < 0 ∨ ∃ i : Nat, i < nm ∧ f10 j = nI i) ∧ (∀ i : Nat, i < nm → f9 i < 0 ∨ ∃ k : Nat, k < nm ∧ f9 i = nI k) ∧ (∀ i : Nat, i < nm → ∃ a n : Nat, f7 i = nI a ∧ f8 i = nI n ∧ a + n ≤ 220)
theorem nInv_new {nm a n j : Nat} {f7 f8 f9 f10 : Nat → Int32} {x : Int32} (hnm : nm ≤ 220) (han : a + n ≤ 220) (hj : j < 256) (h : nInv nm f7 f8 f9 f10) (ex : x = f10 (nI j).toNatClampNeg) :
    nInv (nm + 1) (upd f7 (Int32.toNatClampNeg (nI nm)) (nI a)) (upd f8 (Int32.toNatClampNeg (nI nm)) (nI n)) (upd f9 (Int32.toNatClampNeg (nI nm)) x) (upd f10 (Int32.toNatClampNeg (nI j)) (nI nm)) := by
  obtain ⟨h1, h2, h3⟩ := h
  rw [nI_clamp (by omega)] at ex
  rw [nI_clamp (n := nm) (by omega), nI_clamp (n := j) (by omega)]
  refine ⟨fun k hk => ?_, fun i hi => ?_, fun i hi => ?_⟩
  · unfold upd
    by_cases e : k = j
    · rw [if_pos e]; exact Or.inr ⟨nm, Nat.lt_succ_self _, rfl⟩
    · rw [if_neg e]
      rcases h1 k hk with h | ⟨i, hi, e⟩
      · exact Or.inl h
      · exact Or.inr ⟨i, Nat.lt_succ_of_lt hi, e⟩
  · unfold upd
    by_cases e : i = nm
    · rw [if_pos e, ex]
      rcases h1 j hj with h | ⟨i, hi, e⟩
      · exact Or.inl h
      · exact Or.inr ⟨i, Nat.lt_succ_of_lt hi, e⟩
    · rw [if_neg e]
      rcases h2 i (by omega) with h | ⟨i, hi, e⟩
      · exact Or.inl h
      · exact Or.inr ⟨i, Nat.lt_succ_of_lt hi, e⟩
  · unfold upd
    by_cases e : i = nm
    · rw [if_pos e, if_pos e]; exact ⟨a, n, rfl, rfl, han⟩
    · rw [if_neg e, if_neg e]; exact h3 i (by omega)
theorem nInv_0 {f7 f8 f9 f10 : Nat → Int32} (h : ∀ j : Nat, j < 256 → f10 j < 0) : nInv 0 f7 f8 f9 f10 := ⟨fun j hj => Or.inl (h j hj), fun i hi => absurd hi (Nat.not_lt_zero _), fun i hi => absurd hi (Nat.not_lt_zero _)⟩
theorem dX10_isSpelledAlike_0 : decode cX10_isSpelledAlike 0 = .ok (.iconst 0, 1) := by decide +kernel
theorem dX10_isSpelledAlike_1 : decode cX10_isSpelledAlike 1 = .ok (.istore 4, 2) := by decide +kernel
theorem dX10_isSpelledAlike_3 : decode cX10_isSpelledAlike 3 = .ok (.iload 4, 2) := by decide +kernel
theorem dX10_isSpelledAlike_5 : decode cX10_isSpelledAlike 5 = .ok (.iload_n 3, 1) := by decide +kernel
theorem dX10_isSpelledAlike_6 : decode cX10_isSpelledAlike 6 = .ok (.if_icmp .ge 32, 3) := by decide +kernel
theorem dX10_isSpelledAlike_38 : decode cX10_isSpelledAlike 38 = .ok (.iconst 1, 1) := by decide +kernel
theorem dX10_isSpelledAlike_39 : decode cX10_isSpelledAlike 39 = .ok (.ireturn, 1) := by decide +kernel
theorem dX10_isSpelledAlike_9 : decode cX10_isSpelledAlike 9 = .ok (.aload_n 0, 1) := by decide +kernel
theorem dX10_isSpelledAlike_10 : decode cX10_isSpelledAlike 10 = .ok (.getfield 27, 3) := by decide +kernel
theorem dX10_isSpelledAlike_13 : decode cX10_isSpelledAlike 13 = .ok (.iload_n 1, 1) := by decide +kernel
theorem dX10_isSpelledAlike_14 : decode cX10_isSpelledAlike 14 = .ok (.iload 4, 2) := by decide +kernel
theorem dX10_isSpelledAlike_16 : decode cX10_isSpelledAlike 16 = .ok (.iadd, 1) := by decide +kernel
theorem dX10_isSpelledAlike_17 : decode cX10_isSpelledAlike 17 = .ok (.baload, 1) := by decide +kernel
theorem dX10_isSpelledAlike_18 : decode cX10_isSpelledAlike 18 = .ok (.aload_n 0, 1) := by decide +kernel
theorem dX10_isSpelledAlike_19 : decode cX10_isSpelledAlike 19 = .ok (.getfield 27, 3) := by decide +kernel
theorem dX10_isSpelledAlike_22 : decode cX10_isSpelledAlike 22 = .ok (.iload_n 2, 1) := by decide +kernel
theorem dX10_isSpelledAlike_23 : decode cX10_isSpelledAlike 23 = .ok (.iload 4, 2) := by decide +kernel
theorem dX10_isSpelledAlike_25 : decode cX10_isSpelledAlike 25 = .ok (.iadd, 1) := by decide +kernel
theorem dX10_isSpelledAlike_26 : decode cX10_isSpelledAlike 26 = .ok (.baload, 1) := by decide +kernel
theorem dX10_isSpelledAlike_27 : decode cX10_isSpelledAlike 27 = .ok (.if_icmp .eq 5, 3) := by decide +kernel
theorem dX10_isSpelledAlike_32 : decode cX10_isSpelledAlike 32 = .ok (.iinc 4 1, 3) := by decide +kernel
theorem dX10_isSpelledAlike_35 : decode cX10_isSpelledAlike 35 = .ok (.goto (-32), 3) := by decide +kernel
theorem dX10_isSpelledAlike_30 : decode cX10_isSpelledAlike 30 = .ok (.iconst 0, 1) := by decide +kernel
theorem dX10_isSpelledAlike_31 : decode cX10_isSpelledAlike 31 = .ok (.ireturn, 1) := by decide +kernel
set_option maxHeartbeats 1000000 in
set_option maxRecDepth 100000 in
/-- isSpelledAlike: it answers -/
theorem c_alike (l : Launch) (G : pT) (k2 : Nat) (t1 : Nat) (t2 : Nat) (t3 : Nat) (t4 : Nat) (t5 : Nat) (t6 : Nat) (t7 : Nat) (t8 : Nat) (t9 : Nat) (t10 : Nat) (nm : Nat) (a1 : Nat) (a2 : Nat) (n : Nat) (fb : Nat → Int32) (h1 : a1 + n ≤ 220) (h2 : a2 + n ≤ 220) : PM l G pX0 yX10_isSpelledAlike cX10_isSpelledAlike 5 (some .boolean) ({ frames := 2, cells := 0, slots := 0, locals := 60 }) [.ref k2, .int (nI a1), .int (nI a2), .int (nI n)] [(k2, .inr (7, [.ref t1, .int 220, .int 0, .ref t2, .ref t3, .ref t4, .ref t5, .ref t6, .int 0, .ref t7, .ref t8, .ref t9, .ref t10, .int (nI nm), .int 0])), (t1, .inl (G.2.1 1, 5220, .inl fb))] (fun (v : Option Value) (u : Unit) => ∃ r : Int32, v = some (.int r)) (fun u => [(k2, .inr (7, [.ref t1, .int 220, .int 0, .ref t2, .ref t3, .ref t4, .ref t5, .ref t6, .int 0, .ref t7, .ref t8, .ref t9, .ref t10, .int (nI nm), .int 0])), (t1, .inl (G.2.1 1, 5220, .inl fb))]) := by
  intro sz
  refine Met.ofW (cc := cX10_isSpelledAlike) (maxL := 5) (ret := (some .boolean)) (by decide) rfl ?_
  intro p e s m args below meth c s₁ B hml hv
  obtain ⟨rfl, hsz, hP, hD0, hE, hX⟩ := hv
  have hx := B.exec
  have hb := B.bytes
  have hr := B.returns
  have hts := atoms_spec (ws := Cond.code yX10_isSpelledAlike cX10_isSpelledAlike 5 (some .boolean) :: pw) B.pre
  have hq : ∀ w ∈ pw, w.before _ s = true := fun w h => hts w (List.mem_cons_of_mem _ h)
  have hown : s.vm.findClass RX10 = some m.cls := findClass_of_methodNamed B.named
  have hlocks := B.notSynchronized
  subst hsz
  have hD := hD0.self (sz := s.heap.size)
  have hA : ∀ q : Nat, s.heap.size ≤ q → va_A [(k2, .inr (7, [.ref t1, .int 220, .int 0, .ref t2, .ref t3, .ref t4, .ref t5, .ref t6, .int 0, .ref t7, .ref t8, .ref t9, .ref t10, .int (nI nm), .int 0])), (t1, .inl (G.2.1 1, 5220, .inl fb))] s.heap.size q := fun q h => Or.inr h
  have hP : va_P G.1 pCl [(k2, .inr (7, [.ref t1, .int 220, .int 0, .ref t2, .ref t3, .ref t4, .ref t5, .ref t6, .int 0, .ref t7, .ref t8, .ref t9, .ref t10, .int (nI nm), .int 0])), (t1, .inl (G.2.1 1, 5220, .inl fb))] s.heap := hP
  generalize va_A [(k2, .inr (7, [.ref t1, .int 220, .int 0, .ref t2, .ref t3, .ref t4, .ref t5, .ref t6, .int 0, .ref t7, .ref t8, .ref t9, .ref t10, .int (nI nm), .int 0])), (t1, .inl (G.2.1 1, 5220, .inl fb))] s.heap.size = A at hD hE hA ⊢
  have hS : va_S A s.heap s.heap [] := va_S.rf
  have hl := lv_entry ([.ref k2, .int (nI a1), .int (nI a2), .int (nI n)]) (n := 5) (Nat.le_of_ble_eq_true rfl)
  rw [lg_entry_eq]
  generalize (lg_sl ([.ref k2, .int (nI a1), .int (nI a2), .int (nI n)]) ++ List.replicate (5 - (lg_sl ([.ref k2, .int (nI a1), .int (nI a2), .int (nI n)])).length) Slot.unset).toArray = ls at hl ⊢
  have hl : lv_has ls 5 [(0, .ref k2), (1, .int (nI a1)), (2, .int (nI a2)), (3, .int (nI n))] := hl
  refine lv_iconst (v := 0) hx hb dX10_isSpelledAlike_0 (by decide) ?_
  refine lv_istore (lv' := [(4, .int 0), (0, .ref k2), (1, .int (nI a1)), (2, .int (nI a2)), (3, .int (nI n))]) hx hb dX10_isSpelledAlike_1 hl (by decide) rfl (fun ls hl => ?_)
  have loop_a : ∀ (n_a k : Nat) (H : Heap) (locs : List Loc) (ls : Array Slot), k ≤ n → n + 1 ≤ k + n_a → va_P G.1 pCl [(k2, .inr (7, [.ref t1, .int 220, .int 0, .ref t2, .ref t3, .ref t4, .ref t5, .ref t6, .int 0, .ref t7, .ref t8, .ref t9, .ref t10, .int (nI nm), .int 0])), (t1, .inl (G.2.1 1, 5220, .inl fb))] H → va_D A [(k2, .inr (7, [.ref t1, .int 220, .int 0, .ref t2, .ref t3, .ref t4, .ref t5, .ref t6, .int 0, .ref t7, .ref t8, .ref t9, .ref t10, .int (nI nm), .int 0])), (t1, .inl (G.2.1 1, 5220, .inl fb))] → va_S A s.heap H locs → lv_has ls 5 [(4, .int (nI k)), (0, .ref k2), (1, .int (nI a1)), (2, .int (nI a2)), (3, .int (nI n))] → W p l e (headSpec (Cond.code yX10_isSpelledAlike cX10_isSpelledAlike 5 (some .boolean) :: pw) ({ frames := 2, cells := 0, slots := 0, locals := 60 } : Room)).room s m ([.ref k2, .int (nI a1), .int (nI a2), .int (nI n)] : List Value).toArray below meth c H locs 0 0 (MQ below (pQ G A (fun (v : Option Value) (u : Unit) => ∃ r : Int32, v = some (.int r)) (fun u => [(k2, .inr (7, [.ref t1, .int 220, .int 0, .ref t2, .ref t3, .ref t4, .ref t5, .ref t6, .int 0, .ref t7, .ref t8, .ref t9, .ref t10, .int (nI nm), .int 0])), (t1, .inl (G.2.1 1, 5220, .inl fb))])) ([.ref k2, .int (nI a1), .int (nI a2), .int (nI n)] : List Value).toArray s ({ frames := 2, cells := 0, slots := 0, locals := 60 } : Room).cells ({ frames := 2, cells := 0, slots := 0, locals := 60 } : Room).slots A) (F0 m 3 ls []) := by
    intro n_a
    induction n_a with
    | zero => intro k H locs ls hk_a hn_a; omega
    | succ n_a ih_a =>
      intro k H locs ls hk_a hn_a hP hD hS hl
      refine lv_iload hx hb dX10_isSpelledAlike_3 (lv_at hl 0 rfl) ?_
      refine lv_iload_n hx hb dX10_isSpelledAlike_5 rfl (lv_at hl 4 rfl) ?_
      refine lv_icmp_ge (tgt := 38) hx hb dX10_isSpelledAlike_6 (by decide) (fun c1 => ?_) (fun c1 => ?_)
      · refine lv_iconst (v := 1) hx hb dX10_isSpelledAlike_38 (by decide) ?_
        refine W.widen (k := 0) (n := 0) (Nat.le_of_ble_eq_true rfl) (Nat.le_of_ble_eq_true rfl) ?_
        exact W.zret (v := 1) hx hb hr rfl (fun t ht hW => ⟨⟨_, (), rfl, ⟨_, rfl⟩, by rw [ht]; exact hP.sub [0, 1] rfl, hD.sub [0, 1] (by decide) rfl⟩, hS.F ht⟩) hS.2.2 dX10_isSpelledAlike_39
      · have hlt : k < n := Nat.lt_of_not_le (fun h => c1 (nI_le h (by omega)))
        refine lv_aload_n hx hb dX10_isSpelledAlike_9 rfl (lv_at hl 1 rfl) ?_
        refine va_get (D := G.1) (ci := 7) (v := .ref t1) (C := RX10) (T := TX10) (N := 15) hx hb hq pin_wsX100 hown hE.1.1 hP 0 rfl rfl 0 (by decide) (hq _ pw_54) (fun _ h9 => h9) rfl dX10_isSpelledAlike_10 ?_
        refine lv_iload_n hx hb dX10_isSpelledAlike_13 rfl (lv_at hl 2 rfl) ?_
        refine lv_iload hx hb dX10_isSpelledAlike_14 (lv_at hl 0 rfl) ?_
        refine lv_iadd hx hb dX10_isSpelledAlike_16 ?_
        refine lv_topi (fun x2 e3 => ?_)
        obtain rfl : x2 = nI (a1 + k) := e3.trans (nI_add (a1) (k))
        refine va_bald hx hb hE.1.1 hP 1 1 rfl rfl (vp_in_nI (by omega) (by decide)) dX10_isSpelledAlike_17 ?_
        refine lv_topi (fun x4 e5 => ?_)
        refine lv_aload_n hx hb dX10_isSpelledAlike_18 rfl (lv_at hl 1 rfl) ?_
        refine va_get (D := G.1) (ci := 7) (v := .ref t1) (C := RX10) (T := TX10) (N := 15) hx hb hq pin_wsX100 hown hE.1.1 hP 0 rfl rfl 0 (by decide) (hq _ pw_54) (fun _ h9 => h9) rfl dX10_isSpelledAlike_19 ?_
        refine lv_iload_n hx hb dX10_isSpelledAlike_22 rfl (lv_at hl 3 rfl) ?_
        refine lv_iload hx hb dX10_isSpelledAlike_23 (lv_at hl 0 rfl) ?_
        refine lv_iadd hx hb dX10_isSpelledAlike_25 ?_
        refine lv_topi (fun x6 e7 => ?_)
        obtain rfl : x6 = nI (a2 + k) := e7.trans (nI_add (a2) (k))
        refine va_bald hx hb hE.1.1 hP 1 1 rfl rfl (vp_in_nI (by omega) (by decide)) dX10_isSpelledAlike_26 ?_
        refine lv_topi (fun x8 e9 => ?_)
        refine lv_icmp_eq (tgt := 32) hx hb dX10_isSpelledAlike_27 (by decide) (fun c10 => ?_) (fun c10 => ?_)
        · refine lv_iinc (v := (nI (k + 1))) (lv' := [(4, .int (nI (k + 1))), (0, .ref k2), (1, .int (nI a1)), (2, .int (nI a2)), (3, .int (nI n))]) hx hb dX10_isSpelledAlike_32 hl (k := 0) rfl (nI_1 k) (by decide) rfl (fun ls hl => ?_)
          refine lv_goto (tgt := 3) hx hb dX10_isSpelledAlike_35 (by decide) ?_
          exact ih_a (k + 1) _ _ _ (by omega) (by omega) hP hD hS (lv_sub hl [0, 1, 2, 3, 4] rfl)
        · refine lv_iconst (v := 0) hx hb dX10_isSpelledAlike_30 (by decide) ?_
          refine W.widen (k := 0) (n := 0) (Nat.le_of_ble_eq_true rfl) (Nat.le_of_ble_eq_true rfl) ?_
          exact W.zret (v := 0) hx hb hr rfl (fun t ht hW => ⟨⟨_, (), rfl, ⟨_, rfl⟩, by rw [ht]; exact hP.sub [0, 1] rfl, hD.sub [0, 1] (by decide) rfl⟩, hS.F ht⟩) hS.2.2 dX10_isSpelledAlike_31
  exact loop_a (n + 1) 0 _ _ _ (by omega) (by omega) hP hD hS (lv_sub hl [0, 1, 2, 3, 4] rfl)
theorem dX10_nameOf_0 : decode cX10_nameOf 0 = .ok (.iconst 0, 1) := by decide +kernel
theorem dX10_nameOf_1 : decode cX10_nameOf 1 = .ok (.istore_n 3, 1) := by decide +kernel
theorem dX10_nameOf_2 : decode cX10_nameOf 2 = .ok (.iload_n 1, 1) := by decide +kernel
theorem dX10_nameOf_3 : decode cX10_nameOf 3 = .ok (.istore 4, 2) := by decide +kernel
theorem dX10_nameOf_5 : decode cX10_nameOf 5 = .ok (.iload 4, 2) := by decide +kernel
theorem dX10_nameOf_7 : decode cX10_nameOf 7 = .ok (.iload_n 1, 1) := by decide +kernel
theorem dX10_nameOf_8 : decode cX10_nameOf 8 = .ok (.iload_n 2, 1) := by decide +kernel
theorem dX10_nameOf_9 : decode cX10_nameOf 9 = .ok (.iadd, 1) := by decide +kernel
theorem dX10_nameOf_10 : decode cX10_nameOf 10 = .ok (.if_icmp .ge 22, 3) := by decide +kernel
theorem dX10_nameOf_32 : decode cX10_nameOf 32 = .ok (.iload_n 3, 1) := by decide +kernel
theorem dX10_nameOf_33 : decode cX10_nameOf 33 = .ok (.sipush 255, 3) := by decide +kernel
theorem dX10_nameOf_36 : decode cX10_nameOf 36 = .ok (.iand, 1) := by decide +kernel
theorem dX10_nameOf_37 : decode cX10_nameOf 37 = .ok (.istore 4, 2) := by decide +kernel
theorem dX10_nameOf_39 : decode cX10_nameOf 39 = .ok (.aload_n 0, 1) := by decide +kernel
theorem dX10_nameOf_40 : decode cX10_nameOf 40 = .ok (.getfield 60, 3) := by decide +kernel
theorem dX10_nameOf_43 : decode cX10_nameOf 43 = .ok (.iload 4, 2) := by decide +kernel
theorem dX10_nameOf_45 : decode cX10_nameOf 45 = .ok (.iaload, 1) := by decide +kernel
theorem dX10_nameOf_46 : decode cX10_nameOf 46 = .ok (.istore 5, 2) := by decide +kernel
theorem dX10_nameOf_48 : decode cX10_nameOf 48 = .ok (.iconst 0, 1) := by decide +kernel
theorem dX10_nameOf_49 : decode cX10_nameOf 49 = .ok (.istore 6, 2) := by decide +kernel
theorem dX10_nameOf_51 : decode cX10_nameOf 51 = .ok (.iload 6, 2) := by decide +kernel
theorem dX10_nameOf_53 : decode cX10_nameOf 53 = .ok (.aload_n 0, 1) := by decide +kernel
theorem dX10_nameOf_54 : decode cX10_nameOf 54 = .ok (.getfield 100, 3) := by decide +kernel
theorem dX10_nameOf_57 : decode cX10_nameOf 57 = .ok (.if_icmp .ge 53, 3) := by decide +kernel
theorem dX10_nameOf_110 : decode cX10_nameOf 110 = .ok (.aload_n 0, 1) := by decide +kernel
theorem dX10_nameOf_111 : decode cX10_nameOf 111 = .ok (.getfield 100, 3) := by decide +kernel
theorem dX10_nameOf_114 : decode cX10_nameOf 114 = .ok (.sipush 2540, 3) := by decide +kernel
theorem dX10_nameOf_117 : decode cX10_nameOf 117 = .ok (.if_icmp .lt 5, 3) := by decide +kernel
theorem dX10_nameOf_122 : decode cX10_nameOf 122 = .ok (.aload_n 0, 1) := by decide +kernel
theorem dX10_nameOf_123 : decode cX10_nameOf 123 = .ok (.getfield 51, 3) := by decide +kernel
theorem dX10_nameOf_126 : decode cX10_nameOf 126 = .ok (.aload_n 0, 1) := by decide +kernel
theorem dX10_nameOf_127 : decode cX10_nameOf 127 = .ok (.getfield 100, 3) := by decide +kernel
theorem dX10_nameOf_130 : decode cX10_nameOf 130 = .ok (.iload_n 1, 1) := by decide +kernel
theorem dX10_nameOf_131 : decode cX10_nameOf 131 = .ok (.iastore, 1) := by decide +kernel
theorem dX10_nameOf_132 : decode cX10_nameOf 132 = .ok (.aload_n 0, 1) := by decide +kernel
theorem dX10_nameOf_133 : decode cX10_nameOf 133 = .ok (.getfield 54, 3) := by decide +kernel
theorem dX10_nameOf_136 : decode cX10_nameOf 136 = .ok (.aload_n 0, 1) := by decide +kernel
theorem dX10_nameOf_137 : decode cX10_nameOf 137 = .ok (.getfield 100, 3) := by decide +kernel
theorem dX10_nameOf_140 : decode cX10_nameOf 140 = .ok (.iload_n 2, 1) := by decide +kernel
theorem dX10_nameOf_141 : decode cX10_nameOf 141 = .ok (.iastore, 1) := by decide +kernel
theorem dX10_nameOf_142 : decode cX10_nameOf 142 = .ok (.aload_n 0, 1) := by decide +kernel
theorem dX10_nameOf_143 : decode cX10_nameOf 143 = .ok (.getfield 57, 3) := by decide +kernel
theorem dX10_nameOf_146 : decode cX10_nameOf 146 = .ok (.aload_n 0, 1) := by decide +kernel
theorem dX10_nameOf_147 : decode cX10_nameOf 147 = .ok (.getfield 100, 3) := by decide +kernel
theorem dX10_nameOf_150 : decode cX10_nameOf 150 = .ok (.aload_n 0, 1) := by decide +kernel
theorem dX10_nameOf_151 : decode cX10_nameOf 151 = .ok (.getfield 60, 3) := by decide +kernel
theorem dX10_nameOf_154 : decode cX10_nameOf 154 = .ok (.iload 4, 2) := by decide +kernel
theorem dX10_nameOf_156 : decode cX10_nameOf 156 = .ok (.iaload, 1) := by decide +kernel
theorem dX10_nameOf_157 : decode cX10_nameOf 157 = .ok (.iastore, 1) := by decide +kernel
theorem dX10_nameOf_158 : decode cX10_nameOf 158 = .ok (.aload_n 0, 1) := by decide +kernel
theorem dX10_nameOf_159 : decode cX10_nameOf 159 = .ok (.getfield 60, 3) := by decide +kernel
theorem dX10_nameOf_162 : decode cX10_nameOf 162 = .ok (.iload 4, 2) := by decide +kernel
theorem dX10_nameOf_164 : decode cX10_nameOf 164 = .ok (.aload_n 0, 1) := by decide +kernel
theorem dX10_nameOf_165 : decode cX10_nameOf 165 = .ok (.getfield 100, 3) := by decide +kernel
theorem dX10_nameOf_168 : decode cX10_nameOf 168 = .ok (.iastore, 1) := by decide +kernel
theorem dX10_nameOf_169 : decode cX10_nameOf 169 = .ok (.aload_n 0, 1) := by decide +kernel
theorem dX10_nameOf_170 : decode cX10_nameOf 170 = .ok (.dup, 1) := by decide +kernel
theorem dX10_nameOf_171 : decode cX10_nameOf 171 = .ok (.getfield 100, 3) := by decide +kernel
theorem dX10_nameOf_174 : decode cX10_nameOf 174 = .ok (.iconst 1, 1) := by decide +kernel
theorem dX10_nameOf_175 : decode cX10_nameOf 175 = .ok (.iadd, 1) := by decide +kernel
theorem dX10_nameOf_176 : decode cX10_nameOf 176 = .ok (.putfield 100, 3) := by decide +kernel
theorem dX10_nameOf_179 : decode cX10_nameOf 179 = .ok (.aload_n 0, 1) := by decide +kernel
theorem dX10_nameOf_180 : decode cX10_nameOf 180 = .ok (.getfield 100, 3) := by decide +kernel
theorem dX10_nameOf_183 : decode cX10_nameOf 183 = .ok (.iconst 1, 1) := by decide +kernel
theorem dX10_nameOf_184 : decode cX10_nameOf 184 = .ok (.isub, 1) := by decide +kernel
theorem dX10_nameOf_185 : decode cX10_nameOf 185 = .ok (.ireturn, 1) := by decide +kernel
theorem dX10_nameOf_60 : decode cX10_nameOf 60 = .ok (.iload 5, 2) := by decide +kernel
theorem dX10_nameOf_62 : decode cX10_nameOf 62 = .ok (.ifCond .lt 48, 3) := by decide +kernel
theorem dX10_nameOf_65 : decode cX10_nameOf 65 = .ok (.aload_n 0, 1) := by decide +kernel
theorem dX10_nameOf_66 : decode cX10_nameOf 66 = .ok (.getfield 54, 3) := by decide +kernel
theorem dX10_nameOf_69 : decode cX10_nameOf 69 = .ok (.iload 5, 2) := by decide +kernel
theorem dX10_nameOf_71 : decode cX10_nameOf 71 = .ok (.iaload, 1) := by decide +kernel
theorem dX10_nameOf_72 : decode cX10_nameOf 72 = .ok (.iload_n 2, 1) := by decide +kernel
theorem dX10_nameOf_73 : decode cX10_nameOf 73 = .ok (.if_icmp .ne 22, 3) := by decide +kernel
theorem dX10_nameOf_95 : decode cX10_nameOf 95 = .ok (.aload_n 0, 1) := by decide +kernel
theorem dX10_nameOf_96 : decode cX10_nameOf 96 = .ok (.getfield 57, 3) := by decide +kernel
theorem dX10_nameOf_99 : decode cX10_nameOf 99 = .ok (.iload 5, 2) := by decide +kernel
theorem dX10_nameOf_101 : decode cX10_nameOf 101 = .ok (.iaload, 1) := by decide +kernel
theorem dX10_nameOf_102 : decode cX10_nameOf 102 = .ok (.istore 5, 2) := by decide +kernel
theorem dX10_nameOf_104 : decode cX10_nameOf 104 = .ok (.iinc 6 1, 3) := by decide +kernel
theorem dX10_nameOf_107 : decode cX10_nameOf 107 = .ok (.goto (-56), 3) := by decide +kernel
theorem dX10_nameOf_76 : decode cX10_nameOf 76 = .ok (.aload_n 0, 1) := by decide +kernel
theorem dX10_nameOf_77 : decode cX10_nameOf 77 = .ok (.aload_n 0, 1) := by decide +kernel
theorem dX10_nameOf_78 : decode cX10_nameOf 78 = .ok (.getfield 51, 3) := by decide +kernel
theorem dX10_nameOf_81 : decode cX10_nameOf 81 = .ok (.iload 5, 2) := by decide +kernel
theorem dX10_nameOf_83 : decode cX10_nameOf 83 = .ok (.iaload, 1) := by decide +kernel
theorem dX10_nameOf_84 : decode cX10_nameOf 84 = .ok (.iload_n 1, 1) := by decide +kernel
theorem dX10_nameOf_85 : decode cX10_nameOf 85 = .ok (.iload_n 2, 1) := by decide +kernel
theorem dX10_nameOf_86 : decode cX10_nameOf 86 = .ok (.invokevirtual 144, 3) := by decide +kernel
theorem dX10_nameOf_89 : decode cX10_nameOf 89 = .ok (.ifCond .eq 6, 3) := by decide +kernel
theorem dX10_nameOf_92 : decode cX10_nameOf 92 = .ok (.iload 5, 2) := by decide +kernel
theorem dX10_nameOf_94 : decode cX10_nameOf 94 = .ok (.ireturn, 1) := by decide +kernel
theorem dX10_nameOf_13 : decode cX10_nameOf 13 = .ok (.iload_n 3, 1) := by decide +kernel
theorem dX10_nameOf_14 : decode cX10_nameOf 14 = .ok (.bipush 31, 2) := by decide +kernel
theorem dX10_nameOf_16 : decode cX10_nameOf 16 = .ok (.imul, 1) := by decide +kernel
theorem dX10_nameOf_17 : decode cX10_nameOf 17 = .ok (.aload_n 0, 1) := by decide +kernel
theorem dX10_nameOf_18 : decode cX10_nameOf 18 = .ok (.getfield 27, 3) := by decide +kernel
theorem dX10_nameOf_21 : decode cX10_nameOf 21 = .ok (.iload 4, 2) := by decide +kernel
theorem dX10_nameOf_23 : decode cX10_nameOf 23 = .ok (.baload, 1) := by decide +kernel
theorem dX10_nameOf_24 : decode cX10_nameOf 24 = .ok (.iadd, 1) := by decide +kernel
theorem dX10_nameOf_25 : decode cX10_nameOf 25 = .ok (.istore_n 3, 1) := by decide +kernel
theorem dX10_nameOf_26 : decode cX10_nameOf 26 = .ok (.iinc 4 1, 3) := by decide +kernel
theorem dX10_nameOf_29 : decode cX10_nameOf 29 = .ok (.goto (-24), 3) := by decide +kernel
theorem hV_X10_isSpelledAlike : yX10_isSpelledAlike.cls = RX10 ∧ yX10_isSpelledAlike.cls ≠ "java/lang/invoke/MethodHandle" ∧ yX10_isSpelledAlike.cls ≠ "java/lang/invoke/VarHandle" ∧ (parseMethodDescriptor yX10_isSpelledAlike.desc).map (fun d => d.parameters.length) = some 3 := by decide +kernel
set_option maxHeartbeats 1000000 in
set_option maxRecDepth 100000 in
/-- nameOf(a, n): it answers, and the names keep within their rows -/
theorem c_nameOf (l : Launch) (G : pT) (k2 : Nat) (t1 : Nat) (t2 : Nat) (t3 : Nat) (t4 : Nat) (t5 : Nat) (t6 : Nat) (t7 : Nat) (t8 : Nat) (t9 : Nat) (t10 : Nat) (nm : Nat) (a : Nat) (n : Nat) (fb : Nat → Int32) (f7 : Nat → Int32) (f8 : Nat → Int32) (f9 : Nat → Int32) (f10 : Nat → Int32) (han : a + n ≤ 220) (hnm : nm ≤ 220) (hI : nInv nm f7 f8 f9 f10) : PM l G pX0 yX10_nameOf cX10_nameOf 7 (some .int) ({ frames := 3, cells := 0, slots := 0, locals := 84 }) [.ref k2, .int (nI a), .int (nI n)] [(k2, .inr (7, [.ref t1, .int 220, .int 0, .ref t2, .ref t3, .ref t4, .ref t5, .ref t6, .int 0, .ref t7, .ref t8, .ref t9, .ref t10, .int (nI nm), .int 0])), (t1, .inl (G.2.1 1, 5220, .inl fb)), (t7, .inl (G.2.1 0, 2540, .inl f7)), (t8, .inl (G.2.1 0, 2540, .inl f8)), (t9, .inl (G.2.1 0, 2540, .inl f9)), (t10, .inl (G.2.1 0, 256, .inl f10))] (fun (v : Option Value) (u : Nat × (Nat → Int32) × (Nat → Int32) × (Nat → Int32) × (Nat → Int32)) => (∃ r : Int32, v = some (.int r)) ∧ u.1 ≤ nm + 1 ∧ nInv u.1 u.2.1 u.2.2.1 u.2.2.2.1 u.2.2.2.2) (fun u => [(k2, .inr (7, [.ref t1, .int 220, .int 0, .ref t2, .ref t3, .ref t4, .ref t5, .ref t6, .int 0, .ref t7, .ref t8, .ref t9, .ref t10, .int (nI u.1), .int 0])), (t1, .inl (G.2.1 1, 5220, .inl fb)), (t7, .inl (G.2.1 0, 2540, .inl u.2.1)), (t8, .inl (G.2.1 0, 2540, .inl u.2.2.1)), (t9, .inl (G.2.1 0, 2540, .inl u.2.2.2.1)), (t10, .inl (G.2.1 0, 256, .inl u.2.2.2.2))]) := by
  intro sz
  refine Met.ofW (cc := cX10_nameOf) (maxL := 7) (ret := (some .int)) (by decide) rfl ?_
  intro p e s m args below meth c s₁ B hml hv
  obtain ⟨rfl, hsz, hP, hD0, hE, hX⟩ := hv
  have hx := B.exec
  have hb := B.bytes
  have hr := B.returns
  have hts := atoms_spec (ws := Cond.code yX10_nameOf cX10_nameOf 7 (some .int) :: pw) B.pre
  have hq : ∀ w ∈ pw, w.before _ s = true := fun w h => hts w (List.mem_cons_of_mem _ h)
  have hown : s.vm.findClass RX10 = some m.cls := findClass_of_methodNamed B.named
  have hlocks := B.notSynchronized
  subst hsz
  have hD := hD0.self (sz := s.heap.size)
  have hA : ∀ q : Nat, s.heap.size ≤ q → va_A [(k2, .inr (7, [.ref t1, .int 220, .int 0, .ref t2, .ref t3, .ref t4, .ref t5, .ref t6, .int 0, .ref t7, .ref t8, .ref t9, .ref t10, .int (nI nm), .int 0])), (t1, .inl (G.2.1 1, 5220, .inl fb)), (t7, .inl (G.2.1 0, 2540, .inl f7)), (t8, .inl (G.2.1 0, 2540, .inl f8)), (t9, .inl (G.2.1 0, 2540, .inl f9)), (t10, .inl (G.2.1 0, 256, .inl f10))] s.heap.size q := fun q h => Or.inr h
  have hP : va_P G.1 pCl [(k2, .inr (7, [.ref t1, .int 220, .int 0, .ref t2, .ref t3, .ref t4, .ref t5, .ref t6, .int 0, .ref t7, .ref t8, .ref t9, .ref t10, .int (nI nm), .int 0])), (t1, .inl (G.2.1 1, 5220, .inl fb)), (t7, .inl (G.2.1 0, 2540, .inl f7)), (t8, .inl (G.2.1 0, 2540, .inl f8)), (t9, .inl (G.2.1 0, 2540, .inl f9)), (t10, .inl (G.2.1 0, 256, .inl f10))] s.heap := hP
  generalize va_A [(k2, .inr (7, [.ref t1, .int 220, .int 0, .ref t2, .ref t3, .ref t4, .ref t5, .ref t6, .int 0, .ref t7, .ref t8, .ref t9, .ref t10, .int (nI nm), .int 0])), (t1, .inl (G.2.1 1, 5220, .inl fb)), (t7, .inl (G.2.1 0, 2540, .inl f7)), (t8, .inl (G.2.1 0, 2540, .inl f8)), (t9, .inl (G.2.1 0, 2540, .inl f9)), (t10, .inl (G.2.1 0, 256, .inl f10))] s.heap.size = A at hD hE hA ⊢
  have hS : va_S A s.heap s.heap [] := va_S.rf
  have hl := lv_entry ([.ref k2, .int (nI a), .int (nI n)]) (n := 7) (Nat.le_of_ble_eq_true rfl)
  rw [lg_entry_eq]
  generalize (lg_sl ([.ref k2, .int (nI a), .int (nI n)]) ++ List.replicate (7 - (lg_sl ([.ref k2, .int (nI a), .int (nI n)])).length) Slot.unset).toArray = ls at hl ⊢
  have hl : lv_has ls 7 [(0, .ref k2), (1, .int (nI a)), (2, .int (nI n))] := hl
  refine lv_iconst (v := 0) hx hb dX10_nameOf_0 (by decide) ?_
  refine lv_istore_n (lv' := [(3, .int 0), (0, .ref k2), (1, .int (nI a)), (2, .int (nI n))]) hx hb dX10_nameOf_1 rfl hl (by decide) rfl (fun ls hl => ?_)
  refine lv_iload_n hx hb dX10_nameOf_2 rfl (lv_at hl 2 rfl) ?_
  refine lv_istore (lv' := [(4, .int (nI a)), (3, .int 0), (0, .ref k2), (1, .int (nI a)), (2, .int (nI n))]) hx hb dX10_nameOf_3 hl (by decide) rfl (fun ls hl => ?_)
  have loop_h : ∀ (n_h k : Nat) (hs : Int32) (H : Heap) (locs : List Loc) (ls : Array Slot), k ≤ n → n + 1 ≤ k + n_h → va_P G.1 pCl [(k2, .inr (7, [.ref t1, .int 220, .int 0, .ref t2, .ref t3, .ref t4, .ref t5, .ref t6, .int 0, .ref t7, .ref t8, .ref t9, .ref t10, .int (nI nm), .int 0])), (t1, .inl (G.2.1 1, 5220, .inl fb)), (t7, .inl (G.2.1 0, 2540, .inl f7)), (t8, .inl (G.2.1 0, 2540, .inl f8)), (t9, .inl (G.2.1 0, 2540, .inl f9)), (t10, .inl (G.2.1 0, 256, .inl f10))] H → va_D A [(k2, .inr (7, [.ref t1, .int 220, .int 0, .ref t2, .ref t3, .ref t4, .ref t5, .ref t6, .int 0, .ref t7, .ref t8, .ref t9, .ref t10, .int (nI nm), .int 0])), (t1, .inl (G.2.1 1, 5220, .inl fb)), (t7, .inl (G.2.1 0, 2540, .inl f7)), (t8, .inl (G.2.1 0, 2540, .inl f8)), (t9, .inl (G.2.1 0, 2540, .inl f9)), (t10, .inl (G.2.1 0, 256, .inl f10))] → va_S A s.heap H locs → lv_has ls 7 [(4, .int (nI (a + k))), (3, .int hs), (0, .ref k2), (1, .int (nI a)), (2, .int (nI n))] → W p l e (headSpec (Cond.code yX10_nameOf cX10_nameOf 7 (some .int) :: pw) ({ frames := 3, cells := 0, slots := 0, locals := 84 } : Room)).room s m ([.ref k2, .int (nI a), .int (nI n)] : List Value).toArray below meth c H locs 0 0 (MQ below (pQ G A (fun (v : Option Value) (u : Nat × (Nat → Int32) × (Nat → Int32) × (Nat → Int32) × (Nat → Int32)) => (∃ r : Int32, v = some (.int r)) ∧ u.1 ≤ nm + 1 ∧ nInv u.1 u.2.1 u.2.2.1 u.2.2.2.1 u.2.2.2.2) (fun u => [(k2, .inr (7, [.ref t1, .int 220, .int 0, .ref t2, .ref t3, .ref t4, .ref t5, .ref t6, .int 0, .ref t7, .ref t8, .ref t9, .ref t10, .int (nI u.1), .int 0])), (t1, .inl (G.2.1 1, 5220, .inl fb)), (t7, .inl (G.2.1 0, 2540, .inl u.2.1)), (t8, .inl (G.2.1 0, 2540, .inl u.2.2.1)), (t9, .inl (G.2.1 0, 2540, .inl u.2.2.2.1)), (t10, .inl (G.2.1 0, 256, .inl u.2.2.2.2))])) ([.ref k2, .int (nI a), .int (nI n)] : List Value).toArray s ({ frames := 3, cells := 0, slots := 0, locals := 84 } : Room).cells ({ frames := 3, cells := 0, slots := 0, locals := 84 } : Room).slots A) (F0 m 5 ls []) := by
    intro n_h
    induction n_h with
    | zero => intro k hs H locs ls hk_h hn_h; omega
    | succ n_h ih_h =>
      intro k hs H locs ls hk_h hn_h hP hD hS hl
      refine lv_iload hx hb dX10_nameOf_5 (lv_at hl 0 rfl) ?_
      refine lv_iload_n hx hb dX10_nameOf_7 rfl (lv_at hl 3 rfl) ?_
      refine lv_iload_n hx hb dX10_nameOf_8 rfl (lv_at hl 4 rfl) ?_
      refine lv_iadd hx hb dX10_nameOf_9 ?_
      refine lv_topi (fun x1 e2 => ?_)
      obtain rfl : x1 = nI (a + n) := e2.trans (nI_add (a) (n))
      refine lv_icmp_ge (tgt := 32) hx hb dX10_nameOf_10 (by decide) (fun c3 => ?_) (fun c3 => ?_)
      · refine lv_iload_n hx hb dX10_nameOf_32 rfl (lv_at hl 1 rfl) ?_
        refine lv_sipush (v := 255) hx hb dX10_nameOf_33 (by decide) ?_
        refine lv_iand hx hb dX10_nameOf_36 ?_
        refine lv_topi (fun x4 e5 => ?_)
        obtain ⟨j6, hj7, ej6⟩ := and255 hs
        obtain rfl : x4 = nI j6 := e5.trans ej6
        refine lv_istore (lv' := [(4, .int (nI j6)), (3, .int hs), (0, .ref k2), (1, .int (nI a)), (2, .int (nI n))]) hx hb dX10_nameOf_37 hl (by decide) rfl (fun ls hl => ?_)
        refine lv_aload_n hx hb dX10_nameOf_39 rfl (lv_at hl 2 rfl) ?_
        refine va_get (D := G.1) (ci := 7) (v := .ref t10) (C := RX10) (T := TX10) (N := 15) hx hb hq pin_wsX100 hown hE.1.1 hP 0 rfl rfl 12 (by decide) (hq _ pw_64) (fun _ h9 => h9) rfl dX10_nameOf_40 ?_
        refine lv_iload hx hb dX10_nameOf_43 (lv_at hl 0 rfl) ?_
        refine va_iald hx hb hE.1.1 hP 5 0 rfl rfl (vp_in_nI hj7 (by decide)) dX10_nameOf_45 ?_
        refine lv_topi (fun x8 e9 => ?_)
        have hNx8 : x8 < 0 ∨ ∃ i : Nat, i < nm ∧ x8 = nI i := by rw [e9, nI_clamp (Nat.lt_trans hj7 (by decide))]; exact hI.1 j6 hj7
        refine lv_istore (lv' := [(5, .int x8), (4, .int (nI j6)), (3, .int hs), (0, .ref k2), (1, .int (nI a)), (2, .int (nI n))]) hx hb dX10_nameOf_46 hl (by decide) rfl (fun ls hl => ?_)
        refine lv_iconst (v := 0) hx hb dX10_nameOf_48 (by decide) ?_
        refine lv_istore (lv' := [(6, .int 0), (5, .int x8), (4, .int (nI j6)), (3, .int hs), (0, .ref k2), (1, .int (nI a)), (2, .int (nI n))]) hx hb dX10_nameOf_49 hl (by decide) rfl (fun ls hl => ?_)
        have loop_s : ∀ (n_s kk : Nat) (z5 : Int32) (H : Heap) (locs : List Loc) (ls : Array Slot), kk ≤ nm → nm + 1 ≤ kk + n_s → (z5 < 0 ∨ ∃ i : Nat, i < nm ∧ z5 = nI i) → va_P G.1 pCl [(k2, .inr (7, [.ref t1, .int 220, .int 0, .ref t2, .ref t3, .ref t4, .ref t5, .ref t6, .int 0, .ref t7, .ref t8, .ref t9, .ref t10, .int (nI nm), .int 0])), (t1, .inl (G.2.1 1, 5220, .inl fb)), (t7, .inl (G.2.1 0, 2540, .inl f7)), (t8, .inl (G.2.1 0, 2540, .inl f8)), (t9, .inl (G.2.1 0, 2540, .inl f9)), (t10, .inl (G.2.1 0, 256, .inl f10))] H → va_D A [(k2, .inr (7, [.ref t1, .int 220, .int 0, .ref t2, .ref t3, .ref t4, .ref t5, .ref t6, .int 0, .ref t7, .ref t8, .ref t9, .ref t10, .int (nI nm), .int 0])), (t1, .inl (G.2.1 1, 5220, .inl fb)), (t7, .inl (G.2.1 0, 2540, .inl f7)), (t8, .inl (G.2.1 0, 2540, .inl f8)), (t9, .inl (G.2.1 0, 2540, .inl f9)), (t10, .inl (G.2.1 0, 256, .inl f10))] → va_S A s.heap H locs → lv_has ls 7 [(6, .int (nI kk)), (5, .int z5), (4, .int (nI j6)), (0, .ref k2), (1, .int (nI a)), (2, .int (nI n))] → W p l e (headSpec (Cond.code yX10_nameOf cX10_nameOf 7 (some .int) :: pw) ({ frames := 3, cells := 0, slots := 0, locals := 84 } : Room)).room s m ([.ref k2, .int (nI a), .int (nI n)] : List Value).toArray below meth c H locs 0 0 (MQ below (pQ G A (fun (v : Option Value) (u : Nat × (Nat → Int32) × (Nat → Int32) × (Nat → Int32) × (Nat → Int32)) => (∃ r : Int32, v = some (.int r)) ∧ u.1 ≤ nm + 1 ∧ nInv u.1 u.2.1 u.2.2.1 u.2.2.2.1 u.2.2.2.2) (fun u => [(k2, .inr (7, [.ref t1, .int 220, .int 0, .ref t2, .ref t3, .ref t4, .ref t5, .ref t6, .int 0, .ref t7, .ref t8, .ref t9, .ref t10, .int (nI u.1), .int 0])), (t1, .inl (G.2.1 1, 5220, .inl fb)), (t7, .inl (G.2.1 0, 2540, .inl u.2.1)), (t8, .inl (G.2.1 0, 2540, .inl u.2.2.1)), (t9, .inl (G.2.1 0, 2540, .inl u.2.2.2.1)), (t10, .inl (G.2.1 0, 256, .inl u.2.2.2.2))])) ([.ref k2, .int (nI a), .int (nI n)] : List Value).toArray s ({ frames := 3, cells := 0, slots := 0, locals := 84 } : Room).cells ({ frames := 3, cells := 0, slots := 0, locals := 84 } : Room).slots A) (F0 m 51 ls []) := by
          intro n_s
          induction n_s with
          | zero => intro kk z5 H locs ls hk_s hn_s; omega
          | succ n_s ih_s =>
            intro kk z5 H locs ls hk_s hn_s hz5 hP hD hS hl
            refine lv_iload hx hb dX10_nameOf_51 (lv_at hl 0 rfl) ?_
            refine lv_aload_n hx hb dX10_nameOf_53 rfl (lv_at hl 3 rfl) ?_
            refine va_get (D := G.1) (ci := 7) (v := .int (nI nm)) (C := RX10) (T := TX10) (N := 15) hx hb hq pin_wsX100 hown hE.1.1 hP 0 rfl rfl 13 (by decide) (hq _ pw_74) (fun _ h9 => h9) rfl dX10_nameOf_54 ?_
            refine lv_icmp_ge (tgt := 110) hx hb dX10_nameOf_57 (by decide) (fun c10 => ?_) (fun c10 => ?_)
            · refine lv_aload_n hx hb dX10_nameOf_110 rfl (lv_at hl 3 rfl) ?_
              refine va_get (D := G.1) (ci := 7) (v := .int (nI nm)) (C := RX10) (T := TX10) (N := 15) hx hb hq pin_wsX100 hown hE.1.1 hP 0 rfl rfl 13 (by decide) (hq _ pw_74) (fun _ h9 => h9) rfl dX10_nameOf_111 ?_
              refine lv_sipush (v := 2540) hx hb dX10_nameOf_114 (by decide) ?_
              refine lv_icmp_lt (tgt := 122) hx hb dX10_nameOf_117 (by decide) (fun c11 => ?_) (fun c11 => absurd (nI_lt (a := nm) (b := 2540) (by omega) (by decide)) c11)
              refine lv_aload_n hx hb dX10_nameOf_122 rfl (lv_at hl 3 rfl) ?_
              refine va_get (D := G.1) (ci := 7) (v := .ref t7) (C := RX10) (T := TX10) (N := 15) hx hb hq pin_wsX100 hown hE.1.1 hP 0 rfl rfl 9 (by decide) (hq _ pw_61) (fun _ h9 => h9) rfl dX10_nameOf_123 ?_
              refine lv_aload_n hx hb dX10_nameOf_126 rfl (lv_at hl 3 rfl) ?_
              refine va_get (D := G.1) (ci := 7) (v := .int (nI nm)) (C := RX10) (T := TX10) (N := 15) hx hb hq pin_wsX100 hown hE.1.1 hP 0 rfl rfl 13 (by decide) (hq _ pw_74) (fun _ h9 => h9) rfl dX10_nameOf_127 ?_
              refine lv_iload_n hx hb dX10_nameOf_130 rfl (lv_at hl 4 rfl) ?_
              refine va_iast hx hb hE.1.1 hP hD hS 2 0 rfl rfl (vp_in_nI (by omega) (by decide)) dX10_nameOf_131 (fun H locs hP hD hS => ?_)
              have hP : va_P G.1 pCl [(k2, .inr (7, [.ref t1, .int 220, .int 0, .ref t2, .ref t3, .ref t4, .ref t5, .ref t6, .int 0, .ref t7, .ref t8, .ref t9, .ref t10, .int (nI nm), .int 0])), (t1, .inl (G.2.1 1, 5220, .inl fb)), (t7, .inl (G.2.1 0, 2540, .inl (upd f7 (Int32.toNatClampNeg (nI nm)) (nI a)))), (t8, .inl (G.2.1 0, 2540, .inl f8)), (t9, .inl (G.2.1 0, 2540, .inl f9)), (t10, .inl (G.2.1 0, 256, .inl f10))] H := hP
              have hD : va_D A [(k2, .inr (7, [.ref t1, .int 220, .int 0, .ref t2, .ref t3, .ref t4, .ref t5, .ref t6, .int 0, .ref t7, .ref t8, .ref t9, .ref t10, .int (nI nm), .int 0])), (t1, .inl (G.2.1 1, 5220, .inl fb)), (t7, .inl (G.2.1 0, 2540, .inl (upd f7 (Int32.toNatClampNeg (nI nm)) (nI a)))), (t8, .inl (G.2.1 0, 2540, .inl f8)), (t9, .inl (G.2.1 0, 2540, .inl f9)), (t10, .inl (G.2.1 0, 256, .inl f10))] := hD
              refine lv_aload_n hx hb dX10_nameOf_132 rfl (lv_at hl 3 rfl) ?_
              refine va_get (D := G.1) (ci := 7) (v := .ref t8) (C := RX10) (T := TX10) (N := 15) hx hb hq pin_wsX100 hown hE.1.1 hP 0 rfl rfl 10 (by decide) (hq _ pw_62) (fun _ h9 => h9) rfl dX10_nameOf_133 ?_
              refine lv_aload_n hx hb dX10_nameOf_136 rfl (lv_at hl 3 rfl) ?_
              refine va_get (D := G.1) (ci := 7) (v := .int (nI nm)) (C := RX10) (T := TX10) (N := 15) hx hb hq pin_wsX100 hown hE.1.1 hP 0 rfl rfl 13 (by decide) (hq _ pw_74) (fun _ h9 => h9) rfl dX10_nameOf_137 ?_
              refine lv_iload_n hx hb dX10_nameOf_140 rfl (lv_at hl 5 rfl) ?_
              refine va_iast hx hb hE.1.1 hP hD hS 3 0 rfl rfl (vp_in_nI (by omega) (by decide)) dX10_nameOf_141 (fun H locs hP hD hS => ?_)
              have hP : va_P G.1 pCl [(k2, .inr (7, [.ref t1, .int 220, .int 0, .ref t2, .ref t3, .ref t4, .ref t5, .ref t6, .int 0, .ref t7, .ref t8, .ref t9, .ref t10, .int (nI nm), .int 0])), (t1, .inl (G.2.1 1, 5220, .inl fb)), (t7, .inl (G.2.1 0, 2540, .inl (upd f7 (Int32.toNatClampNeg (nI nm)) (nI a)))), (t8, .inl (G.2.1 0, 2540, .inl (upd f8 (Int32.toNatClampNeg (nI nm)) (nI n)))), (t9, .inl (G.2.1 0, 2540, .inl f9)), (t10, .inl (G.2.1 0, 256, .inl f10))] H := hP
              have hD : va_D A [(k2, .inr (7, [.ref t1, .int 220, .int 0, .ref t2, .ref t3, .ref t4, .ref t5, .ref t6, .int 0, .ref t7, .ref t8, .ref t9, .ref t10, .int (nI nm), .int 0])), (t1, .inl (G.2.1 1, 5220, .inl fb)), (t7, .inl (G.2.1 0, 2540, .inl (upd f7 (Int32.toNatClampNeg (nI nm)) (nI a)))), (t8, .inl (G.2.1 0, 2540, .inl (upd f8 (Int32.toNatClampNeg (nI nm)) (nI n)))), (t9, .inl (G.2.1 0, 2540, .inl f9)), (t10, .inl (G.2.1 0, 256, .inl f10))] := hD
              refine lv_aload_n hx hb dX10_nameOf_142 rfl (lv_at hl 3 rfl) ?_
              refine va_get (D := G.1) (ci := 7) (v := .ref t9) (C := RX10) (T := TX10) (N := 15) hx hb hq pin_wsX100 hown hE.1.1 hP 0 rfl rfl 11 (by decide) (hq _ pw_63) (fun _ h9 => h9) rfl dX10_nameOf_143 ?_
              refine lv_aload_n hx hb dX10_nameOf_146 rfl (lv_at hl 3 rfl) ?_
              refine va_get (D := G.1) (ci := 7) (v := .int (nI nm)) (C := RX10) (T := TX10) (N := 15) hx hb hq pin_wsX100 hown hE.1.1 hP 0 rfl rfl 13 (by decide) (hq _ pw_74) (fun _ h9 => h9) rfl dX10_nameOf_147 ?_
              refine lv_aload_n hx hb dX10_nameOf_150 rfl (lv_at hl 3 rfl) ?_
              refine va_get (D := G.1) (ci := 7) (v := .ref t10) (C := RX10) (T := TX10) (N := 15) hx hb hq pin_wsX100 hown hE.1.1 hP 0 rfl rfl 12 (by decide) (hq _ pw_64) (fun _ h9 => h9) rfl dX10_nameOf_151 ?_
              refine lv_iload hx hb dX10_nameOf_154 (lv_at hl 2 rfl) ?_
              refine va_iald hx hb hE.1.1 hP 5 0 rfl rfl (vp_in_nI hj7 (by decide)) dX10_nameOf_156 ?_
              refine lv_topi (fun x12 e13 => ?_)
              refine va_iast hx hb hE.1.1 hP hD hS 4 0 rfl rfl (vp_in_nI (by omega) (by decide)) dX10_nameOf_157 (fun H locs hP hD hS => ?_)
              have hP : va_P G.1 pCl [(k2, .inr (7, [.ref t1, .int 220, .int 0, .ref t2, .ref t3, .ref t4, .ref t5, .ref t6, .int 0, .ref t7, .ref t8, .ref t9, .ref t10, .int (nI nm), .int 0])), (t1, .inl (G.2.1 1, 5220, .inl fb)), (t7, .inl (G.2.1 0, 2540, .inl (upd f7 (Int32.toNatClampNeg (nI nm)) (nI a)))), (t8, .inl (G.2.1 0, 2540, .inl (upd f8 (Int32.toNatClampNeg (nI nm)) (nI n)))), (t9, .inl (G.2.1 0, 2540, .inl (upd f9 (Int32.toNatClampNeg (nI nm)) x12))), (t10, .inl (G.2.1 0, 256, .inl f10))] H := hP
              have hD : va_D A [(k2, .inr (7, [.ref t1, .int 220, .int 0, .ref t2, .ref t3, .ref t4, .ref t5, .ref t6, .int 0, .ref t7, .ref t8, .ref t9, .ref t10, .int (nI nm), .int 0])), (t1, .inl (G.2.1 1, 5220, .inl fb)), (t7, .inl (G.2.1 0, 2540, .inl (upd f7 (Int32.toNatClampNeg (nI nm)) (nI a)))), (t8, .inl (G.2.1 0, 2540, .inl (upd f8 (Int32.toNatClampNeg (nI nm)) (nI n)))), (t9, .inl (G.2.1 0, 2540, .inl (upd f9 (Int32.toNatClampNeg (nI nm)) x12))), (t10, .inl (G.2.1 0, 256, .inl f10))] := hD
              refine lv_aload_n hx hb dX10_nameOf_158 rfl (lv_at hl 3 rfl) ?_
              refine va_get (D := G.1) (ci := 7) (v := .ref t10) (C := RX10) (T := TX10) (N := 15) hx hb hq pin_wsX100 hown hE.1.1 hP 0 rfl rfl 12 (by decide) (hq _ pw_64) (fun _ h9 => h9) rfl dX10_nameOf_159 ?_
              refine lv_iload hx hb dX10_nameOf_162 (lv_at hl 2 rfl) ?_
              refine lv_aload_n hx hb dX10_nameOf_164 rfl (lv_at hl 3 rfl) ?_
              refine va_get (D := G.1) (ci := 7) (v := .int (nI nm)) (C := RX10) (T := TX10) (N := 15) hx hb hq pin_wsX100 hown hE.1.1 hP 0 rfl rfl 13 (by decide) (hq _ pw_74) (fun _ h9 => h9) rfl dX10_nameOf_165 ?_
              refine va_iast hx hb hE.1.1 hP hD hS 5 0 rfl rfl (vp_in_nI hj7 (by decide)) dX10_nameOf_168 (fun H locs hP hD hS => ?_)
              have hP : va_P G.1 pCl [(k2, .inr (7, [.ref t1, .int 220, .int 0, .ref t2, .ref t3, .ref t4, .ref t5, .ref t6, .int 0, .ref t7, .ref t8, .ref t9, .ref t10, .int (nI nm), .int 0])), (t1, .inl (G.2.1 1, 5220, .inl fb)), (t7, .inl (G.2.1 0, 2540, .inl (upd f7 (Int32.toNatClampNeg (nI nm)) (nI a)))), (t8, .inl (G.2.1 0, 2540, .inl (upd f8 (Int32.toNatClampNeg (nI nm)) (nI n)))), (t9, .inl (G.2.1 0, 2540, .inl (upd f9 (Int32.toNatClampNeg (nI nm)) x12))), (t10, .inl (G.2.1 0, 256, .inl (upd f10 (Int32.toNatClampNeg (nI j6)) (nI nm))))] H := hP
              have hD : va_D A [(k2, .inr (7, [.ref t1, .int 220, .int 0, .ref t2, .ref t3, .ref t4, .ref t5, .ref t6, .int 0, .ref t7, .ref t8, .ref t9, .ref t10, .int (nI nm), .int 0])), (t1, .inl (G.2.1 1, 5220, .inl fb)), (t7, .inl (G.2.1 0, 2540, .inl (upd f7 (Int32.toNatClampNeg (nI nm)) (nI a)))), (t8, .inl (G.2.1 0, 2540, .inl (upd f8 (Int32.toNatClampNeg (nI nm)) (nI n)))), (t9, .inl (G.2.1 0, 2540, .inl (upd f9 (Int32.toNatClampNeg (nI nm)) x12))), (t10, .inl (G.2.1 0, 256, .inl (upd f10 (Int32.toNatClampNeg (nI j6)) (nI nm))))] := hD
              refine lv_aload_n hx hb dX10_nameOf_169 rfl (lv_at hl 3 rfl) ?_
              refine lv_dup hx hb dX10_nameOf_170 rfl ?_
              refine va_get (D := G.1) (ci := 7) (v := .int (nI nm)) (C := RX10) (T := TX10) (N := 15) hx hb hq pin_wsX100 hown hE.1.1 hP 0 rfl rfl 13 (by decide) (hq _ pw_74) (fun _ h9 => h9) rfl dX10_nameOf_171 ?_
              refine lv_iconst (v := 1) hx hb dX10_nameOf_174 (by decide) ?_
              refine lv_iadd hx hb dX10_nameOf_175 ?_
              refine lv_topi (fun x14 e15 => ?_)
              obtain rfl : x14 = nI (nm + 1) := e15.trans (nI_add (nm) (1))
              refine va_put (D := G.1) (ci := 7) (v := .int (nI (nm + 1))) (ty := .int) (C := RX10) (T := TX10) (N := 15) hx hb hq pin_wsX100 tyX10 tyX10_ok nmX10 hown hE.1.1 hP hD hS 0 rfl rfl 13 (by decide) (hq _ pw_74) (fun _ h9 => h9) rfl (by decide +kernel) rfl rfl (Nat.le_of_ble_eq_true rfl) dX10_nameOf_176 (fun H locs hP hD hS => ?_)
              have hP : va_P G.1 pCl [(k2, .inr (7, [.ref t1, .int 220, .int 0, .ref t2, .ref t3, .ref t4, .ref t5, .ref t6, .int 0, .ref t7, .ref t8, .ref t9, .ref t10, .int (nI (nm + 1)), .int 0])), (t1, .inl (G.2.1 1, 5220, .inl fb)), (t7, .inl (G.2.1 0, 2540, .inl (upd f7 (Int32.toNatClampNeg (nI nm)) (nI a)))), (t8, .inl (G.2.1 0, 2540, .inl (upd f8 (Int32.toNatClampNeg (nI nm)) (nI n)))), (t9, .inl (G.2.1 0, 2540, .inl (upd f9 (Int32.toNatClampNeg (nI nm)) x12))), (t10, .inl (G.2.1 0, 256, .inl (upd f10 (Int32.toNatClampNeg (nI j6)) (nI nm))))] H := hP
              have hD : va_D A [(k2, .inr (7, [.ref t1, .int 220, .int 0, .ref t2, .ref t3, .ref t4, .ref t5, .ref t6, .int 0, .ref t7, .ref t8, .ref t9, .ref t10, .int (nI (nm + 1)), .int 0])), (t1, .inl (G.2.1 1, 5220, .inl fb)), (t7, .inl (G.2.1 0, 2540, .inl (upd f7 (Int32.toNatClampNeg (nI nm)) (nI a)))), (t8, .inl (G.2.1 0, 2540, .inl (upd f8 (Int32.toNatClampNeg (nI nm)) (nI n)))), (t9, .inl (G.2.1 0, 2540, .inl (upd f9 (Int32.toNatClampNeg (nI nm)) x12))), (t10, .inl (G.2.1 0, 256, .inl (upd f10 (Int32.toNatClampNeg (nI j6)) (nI nm))))] := hD
              refine lv_aload_n hx hb dX10_nameOf_179 rfl (lv_at hl 3 rfl) ?_
              refine va_get (D := G.1) (ci := 7) (v := .int (nI (nm + 1))) (C := RX10) (T := TX10) (N := 15) hx hb hq pin_wsX100 hown hE.1.1 hP 0 rfl rfl 13 (by decide) (hq _ pw_74) (fun _ h9 => h9) rfl dX10_nameOf_180 ?_
              refine lv_iconst (v := 1) hx hb dX10_nameOf_183 (by decide) ?_
              refine lv_isub hx hb dX10_nameOf_184 ?_
              refine lv_topi (fun x16 e17 => ?_)
              have hI2 := nInv_new hnm han hj7 hI e13
              refine W.widen (k := 0) (n := 0) (Nat.le_of_ble_eq_true rfl) (Nat.le_of_ble_eq_true rfl) ?_
              exact W.iret (v := x16) hx hb hr (fun t ht hW => ⟨⟨_, (nm + 1, (upd f7 (Int32.toNatClampNeg (nI nm)) (nI a)), (upd f8 (Int32.toNatClampNeg (nI nm)) (nI n)), (upd f9 (Int32.toNatClampNeg (nI nm)) x12), (upd f10 (Int32.toNatClampNeg (nI j6)) (nI nm))), rfl, ⟨⟨_, rfl⟩, Nat.le_refl _, hI2⟩, by rw [ht]; exact hP.sub [0, 1, 2, 3, 4, 5] rfl, hD.sub [0, 1, 2, 3, 4, 5] (by decide) rfl⟩, hS.F ht⟩) hS.2.2 dX10_nameOf_185
            · have hlt2 : kk < nm := Nat.lt_of_not_le (fun h => c10 (nI_le h (by omega)))
              refine lv_iload hx hb dX10_nameOf_60 (lv_at hl 1 rfl) ?_
              refine lv_if_lt (tgt := 110) hx hb dX10_nameOf_62 (by decide) (fun c18 => ?_) (fun c18 => ?_)
              · refine lv_aload_n hx hb dX10_nameOf_110 rfl (lv_at hl 3 rfl) ?_
                refine va_get (D := G.1) (ci := 7) (v := .int (nI nm)) (C := RX10) (T := TX10) (N := 15) hx hb hq pin_wsX100 hown hE.1.1 hP 0 rfl rfl 13 (by decide) (hq _ pw_74) (fun _ h9 => h9) rfl dX10_nameOf_111 ?_
                refine lv_sipush (v := 2540) hx hb dX10_nameOf_114 (by decide) ?_
                refine lv_icmp_lt (tgt := 122) hx hb dX10_nameOf_117 (by decide) (fun c19 => ?_) (fun c19 => absurd (nI_lt (a := nm) (b := 2540) (by omega) (by decide)) c19)
                refine lv_aload_n hx hb dX10_nameOf_122 rfl (lv_at hl 3 rfl) ?_
                refine va_get (D := G.1) (ci := 7) (v := .ref t7) (C := RX10) (T := TX10) (N := 15) hx hb hq pin_wsX100 hown hE.1.1 hP 0 rfl rfl 9 (by decide) (hq _ pw_61) (fun _ h9 => h9) rfl dX10_nameOf_123 ?_
                refine lv_aload_n hx hb dX10_nameOf_126 rfl (lv_at hl 3 rfl) ?_
                refine va_get (D := G.1) (ci := 7) (v := .int (nI nm)) (C := RX10) (T := TX10) (N := 15) hx hb hq pin_wsX100 hown hE.1.1 hP 0 rfl rfl 13 (by decide) (hq _ pw_74) (fun _ h9 => h9) rfl dX10_nameOf_127 ?_
                refine lv_iload_n hx hb dX10_nameOf_130 rfl (lv_at hl 4 rfl) ?_
                refine va_iast hx hb hE.1.1 hP hD hS 2 0 rfl rfl (vp_in_nI (by omega) (by decide)) dX10_nameOf_131 (fun H locs hP hD hS => ?_)
                have hP : va_P G.1 pCl [(k2, .inr (7, [.ref t1, .int 220, .int 0, .ref t2, .ref t3, .ref t4, .ref t5, .ref t6, .int 0, .ref t7, .ref t8, .ref t9, .ref t10, .int (nI nm), .int 0])), (t1, .inl (G.2.1 1, 5220, .inl fb)), (t7, .inl (G.2.1 0, 2540, .inl (upd f7 (Int32.toNatClampNeg (nI nm)) (nI a)))), (t8, .inl (G.2.1 0, 2540, .inl f8)), (t9, .inl (G.2.1 0, 2540, .inl f9)), (t10, .inl (G.2.1 0, 256, .inl f10))] H := hP
                have hD : va_D A [(k2, .inr (7, [.ref t1, .int 220, .int 0, .ref t2, .ref t3, .ref t4, .ref t5, .ref t6, .int 0, .ref t7, .ref t8, .ref t9, .ref t10, .int (nI nm), .int 0])), (t1, .inl (G.2.1 1, 5220, .inl fb)), (t7, .inl (G.2.1 0, 2540, .inl (upd f7 (Int32.toNatClampNeg (nI nm)) (nI a)))), (t8, .inl (G.2.1 0, 2540, .inl f8)), (t9, .inl (G.2.1 0, 2540, .inl f9)), (t10, .inl (G.2.1 0, 256, .inl f10))] := hD
                refine lv_aload_n hx hb dX10_nameOf_132 rfl (lv_at hl 3 rfl) ?_
                refine va_get (D := G.1) (ci := 7) (v := .ref t8) (C := RX10) (T := TX10) (N := 15) hx hb hq pin_wsX100 hown hE.1.1 hP 0 rfl rfl 10 (by decide) (hq _ pw_62) (fun _ h9 => h9) rfl dX10_nameOf_133 ?_
                refine lv_aload_n hx hb dX10_nameOf_136 rfl (lv_at hl 3 rfl) ?_
                refine va_get (D := G.1) (ci := 7) (v := .int (nI nm)) (C := RX10) (T := TX10) (N := 15) hx hb hq pin_wsX100 hown hE.1.1 hP 0 rfl rfl 13 (by decide) (hq _ pw_74) (fun _ h9 => h9) rfl dX10_nameOf_137 ?_
                refine lv_iload_n hx hb dX10_nameOf_140 rfl (lv_at hl 5 rfl) ?_
                refine va_iast hx hb hE.1.1 hP hD hS 3 0 rfl rfl (vp_in_nI (by omega) (by decide)) dX10_nameOf_141 (fun H locs hP hD hS => ?_)
                have hP : va_P G.1 pCl [(k2, .inr (7, [.ref t1, .int 220, .int 0, .ref t2, .ref t3, .ref t4, .ref t5, .ref t6, .int 0, .ref t7, .ref t8, .ref t9, .ref t10, .int (nI nm), .int 0])), (t1, .inl (G.2.1 1, 5220, .inl fb)), (t7, .inl (G.2.1 0, 2540, .inl (upd f7 (Int32.toNatClampNeg (nI nm)) (nI a)))), (t8, .inl (G.2.1 0, 2540, .inl (upd f8 (Int32.toNatClampNeg (nI nm)) (nI n)))), (t9, .inl (G.2.1 0, 2540, .inl f9)), (t10, .inl (G.2.1 0, 256, .inl f10))] H := hP
                have hD : va_D A [(k2, .inr (7, [.ref t1, .int 220, .int 0, .ref t2, .ref t3, .ref t4, .ref t5, .ref t6, .int 0, .ref t7, .ref t8, .ref t9, .ref t10, .int (nI nm), .int 0])), (t1, .inl (G.2.1 1, 5220, .inl fb)), (t7, .inl (G.2.1 0, 2540, .inl (upd f7 (Int32.toNatClampNeg (nI nm)) (nI a)))), (t8, .inl (G.2.1 0, 2540, .inl (upd f8 (Int32.toNatClampNeg (nI nm)) (nI n)))), (t9, .inl (G.2.1 0, 2540, .inl f9)), (t10, .inl (G.2.1 0, 256, .inl f10))] := hD
                refine lv_aload_n hx hb dX10_nameOf_142 rfl (lv_at hl 3 rfl) ?_
                refine va_get (D := G.1) (ci := 7) (v := .ref t9) (C := RX10) (T := TX10) (N := 15) hx hb hq pin_wsX100 hown hE.1.1 hP 0 rfl rfl 11 (by decide) (hq _ pw_63) (fun _ h9 => h9) rfl dX10_nameOf_143 ?_
                refine lv_aload_n hx hb dX10_nameOf_146 rfl (lv_at hl 3 rfl) ?_
                refine va_get (D := G.1) (ci := 7) (v := .int (nI nm)) (C := RX10) (T := TX10) (N := 15) hx hb hq pin_wsX100 hown hE.1.1 hP 0 rfl rfl 13 (by decide) (hq _ pw_74) (fun _ h9 => h9) rfl dX10_nameOf_147 ?_
                refine lv_aload_n hx hb dX10_nameOf_150 rfl (lv_at hl 3 rfl) ?_
                refine va_get (D := G.1) (ci := 7) (v := .ref t10) (C := RX10) (T := TX10) (N := 15) hx hb hq pin_wsX100 hown hE.1.1 hP 0 rfl rfl 12 (by decide) (hq _ pw_64) (fun _ h9 => h9) rfl dX10_nameOf_151 ?_
                refine lv_iload hx hb dX10_nameOf_154 (lv_at hl 2 rfl) ?_
                refine va_iald hx hb hE.1.1 hP 5 0 rfl rfl (vp_in_nI hj7 (by decide)) dX10_nameOf_156 ?_
                refine lv_topi (fun x20 e21 => ?_)
                refine va_iast hx hb hE.1.1 hP hD hS 4 0 rfl rfl (vp_in_nI (by omega) (by decide)) dX10_nameOf_157 (fun H locs hP hD hS => ?_)
                have hP : va_P G.1 pCl [(k2, .inr (7, [.ref t1, .int 220, .int 0, .ref t2, .ref t3, .ref t4, .ref t5, .ref t6, .int 0, .ref t7, .ref t8, .ref t9, .ref t10, .int (nI nm), .int 0])), (t1, .inl (G.2.1 1, 5220, .inl fb)), (t7, .inl (G.2.1 0, 2540, .inl (upd f7 (Int32.toNatClampNeg (nI nm)) (nI a)))), (t8, .inl (G.2.1 0, 2540, .inl (upd f8 (Int32.toNatClampNeg (nI nm)) (nI n)))), (t9, .inl (G.2.1 0, 2540, .inl (upd f9 (Int32.toNatClampNeg (nI nm)) x20))), (t10, .inl (G.2.1 0, 256, .inl f10))] H := hP
                have hD : va_D A [(k2, .inr (7, [.ref t1, .int 220, .int 0, .ref t2, .ref t3, .ref t4, .ref t5, .ref t6, .int 0, .ref t7, .ref t8, .ref t9, .ref t10, .int (nI nm), .int 0])), (t1, .inl (G.2.1 1, 5220, .inl fb)), (t7, .inl (G.2.1 0, 2540, .inl (upd f7 (Int32.toNatClampNeg (nI nm)) (nI a)))), (t8, .inl (G.2.1 0, 2540, .inl (upd f8 (Int32.toNatClampNeg (nI nm)) (nI n)))), (t9, .inl (G.2.1 0, 2540, .inl (upd f9 (Int32.toNatClampNeg (nI nm)) x20))), (t10, .inl (G.2.1 0, 256, .inl f10))] := hD
                refine lv_aload_n hx hb dX10_nameOf_158 rfl (lv_at hl 3 rfl) ?_
                refine va_get (D := G.1) (ci := 7) (v := .ref t10) (C := RX10) (T := TX10) (N := 15) hx hb hq pin_wsX100 hown hE.1.1 hP 0 rfl rfl 12 (by decide) (hq _ pw_64) (fun _ h9 => h9) rfl dX10_nameOf_159 ?_
                refine lv_iload hx hb dX10_nameOf_162 (lv_at hl 2 rfl) ?_
                refine lv_aload_n hx hb dX10_nameOf_164 rfl (lv_at hl 3 rfl) ?_
                refine va_get (D := G.1) (ci := 7) (v := .int (nI nm)) (C := RX10) (T := TX10) (N := 15) hx hb hq pin_wsX100 hown hE.1.1 hP 0 rfl rfl 13 (by decide) (hq _ pw_74) (fun _ h9 => h9) rfl dX10_nameOf_165 ?_
                refine va_iast hx hb hE.1.1 hP hD hS 5 0 rfl rfl (vp_in_nI hj7 (by decide)) dX10_nameOf_168 (fun H locs hP hD hS => ?_)
                have hP : va_P G.1 pCl [(k2, .inr (7, [.ref t1, .int 220, .int 0, .ref t2, .ref t3, .ref t4, .ref t5, .ref t6, .int 0, .ref t7, .ref t8, .ref t9, .ref t10, .int (nI nm), .int 0])), (t1, .inl (G.2.1 1, 5220, .inl fb)), (t7, .inl (G.2.1 0, 2540, .inl (upd f7 (Int32.toNatClampNeg (nI nm)) (nI a)))), (t8, .inl (G.2.1 0, 2540, .inl (upd f8 (Int32.toNatClampNeg (nI nm)) (nI n)))), (t9, .inl (G.2.1 0, 2540, .inl (upd f9 (Int32.toNatClampNeg (nI nm)) x20))), (t10, .inl (G.2.1 0, 256, .inl (upd f10 (Int32.toNatClampNeg (nI j6)) (nI nm))))] H := hP
                have hD : va_D A [(k2, .inr (7, [.ref t1, .int 220, .int 0, .ref t2, .ref t3, .ref t4, .ref t5, .ref t6, .int 0, .ref t7, .ref t8, .ref t9, .ref t10, .int (nI nm), .int 0])), (t1, .inl (G.2.1 1, 5220, .inl fb)), (t7, .inl (G.2.1 0, 2540, .inl (upd f7 (Int32.toNatClampNeg (nI nm)) (nI a)))), (t8, .inl (G.2.1 0, 2540, .inl (upd f8 (Int32.toNatClampNeg (nI nm)) (nI n)))), (t9, .inl (G.2.1 0, 2540, .inl (upd f9 (Int32.toNatClampNeg (nI nm)) x20))), (t10, .inl (G.2.1 0, 256, .inl (upd f10 (Int32.toNatClampNeg (nI j6)) (nI nm))))] := hD
                refine lv_aload_n hx hb dX10_nameOf_169 rfl (lv_at hl 3 rfl) ?_
                refine lv_dup hx hb dX10_nameOf_170 rfl ?_
                refine va_get (D := G.1) (ci := 7) (v := .int (nI nm)) (C := RX10) (T := TX10) (N := 15) hx hb hq pin_wsX100 hown hE.1.1 hP 0 rfl rfl 13 (by decide) (hq _ pw_74) (fun _ h9 => h9) rfl dX10_nameOf_171 ?_
                refine lv_iconst (v := 1) hx hb dX10_nameOf_174 (by decide) ?_
                refine lv_iadd hx hb dX10_nameOf_175 ?_
                refine lv_topi (fun x22 e23 => ?_)
                obtain rfl : x22 = nI (nm + 1) := e23.trans (nI_add (nm) (1))
                refine va_put (D := G.1) (ci := 7) (v := .int (nI (nm + 1))) (ty := .int) (C := RX10) (T := TX10) (N := 15) hx hb hq pin_wsX100 tyX10 tyX10_ok nmX10 hown hE.1.1 hP hD hS 0 rfl rfl 13 (by decide) (hq _ pw_74) (fun _ h9 => h9) rfl (by decide +kernel) rfl rfl (Nat.le_of_ble_eq_true rfl) dX10_nameOf_176 (fun H locs hP hD hS => ?_)
                have hP : va_P G.1 pCl [(k2, .inr (7, [.ref t1, .int 220, .int 0, .ref t2, .ref t3, .ref t4, .ref t5, .ref t6, .int 0, .ref t7, .ref t8, .ref t9, .ref t10, .int (nI (nm + 1)), .int 0])), (t1, .inl (G.2.1 1, 5220, .inl fb)), (t7, .inl (G.2.1 0, 2540, .inl (upd f7 (Int32.toNatClampNeg (nI nm)) (nI a)))), (t8, .inl (G.2.1 0, 2540, .inl (upd f8 (Int32.toNatClampNeg (nI nm)) (nI n)))), (t9, .inl (G.2.1 0, 2540, .inl (upd f9 (Int32.toNatClampNeg (nI nm)) x20))), (t10, .inl (G.2.1 0, 256, .inl (upd f10 (Int32.toNatClampNeg (nI j6)) (nI nm))))] H := hP
                have hD : va_D A [(k2, .inr (7, [.ref t1, .int 220, .int 0, .ref t2, .ref t3, .ref t4, .ref t5, .ref t6, .int 0, .ref t7, .ref t8, .ref t9, .ref t10, .int (nI (nm + 1)), .int 0])), (t1, .inl (G.2.1 1, 5220, .inl fb)), (t7, .inl (G.2.1 0, 2540, .inl (upd f7 (Int32.toNatClampNeg (nI nm)) (nI a)))), (t8, .inl (G.2.1 0, 2540, .inl (upd f8 (Int32.toNatClampNeg (nI nm)) (nI n)))), (t9, .inl (G.2.1 0, 2540, .inl (upd f9 (Int32.toNatClampNeg (nI nm)) x20))), (t10, .inl (G.2.1 0, 256, .inl (upd f10 (Int32.toNatClampNeg (nI j6)) (nI nm))))] := hD
                refine lv_aload_n hx hb dX10_nameOf_179 rfl (lv_at hl 3 rfl) ?_
                refine va_get (D := G.1) (ci := 7) (v := .int (nI (nm + 1))) (C := RX10) (T := TX10) (N := 15) hx hb hq pin_wsX100 hown hE.1.1 hP 0 rfl rfl 13 (by decide) (hq _ pw_74) (fun _ h9 => h9) rfl dX10_nameOf_180 ?_
                refine lv_iconst (v := 1) hx hb dX10_nameOf_183 (by decide) ?_
                refine lv_isub hx hb dX10_nameOf_184 ?_
                refine lv_topi (fun x24 e25 => ?_)
                have hI2 := nInv_new hnm han hj7 hI e21
                refine W.widen (k := 0) (n := 0) (Nat.le_of_ble_eq_true rfl) (Nat.le_of_ble_eq_true rfl) ?_
                exact W.iret (v := x24) hx hb hr (fun t ht hW => ⟨⟨_, (nm + 1, (upd f7 (Int32.toNatClampNeg (nI nm)) (nI a)), (upd f8 (Int32.toNatClampNeg (nI nm)) (nI n)), (upd f9 (Int32.toNatClampNeg (nI nm)) x20), (upd f10 (Int32.toNatClampNeg (nI j6)) (nI nm))), rfl, ⟨⟨_, rfl⟩, Nat.le_refl _, hI2⟩, by rw [ht]; exact hP.sub [0, 1, 2, 3, 4, 5] rfl, hD.sub [0, 1, 2, 3, 4, 5] (by decide) rfl⟩, hS.F ht⟩) hS.2.2 dX10_nameOf_185
              · obtain ⟨i26, hi27, rfl⟩ := hz5.resolve_left c18
                obtain ⟨a9, n9, e7, e8, h79⟩ := hI.2.2 i26 hi27
                refine lv_aload_n hx hb dX10_nameOf_65 rfl (lv_at hl 3 rfl) ?_
                refine va_get (D := G.1) (ci := 7) (v := .ref t8) (C := RX10) (T := TX10) (N := 15) hx hb hq pin_wsX100 hown hE.1.1 hP 0 rfl rfl 10 (by decide) (hq _ pw_62) (fun _ h9 => h9) rfl dX10_nameOf_66 ?_
                refine lv_iload hx hb dX10_nameOf_69 (lv_at hl 1 rfl) ?_
                refine va_iald hx hb hE.1.1 hP 3 0 rfl rfl (vp_in_nI (by omega) (by decide)) dX10_nameOf_71 ?_
                refine lv_topi (fun x28 e29 => ?_)
                rw [nI_clamp (by omega), e8] at e29
                obtain rfl : x28 = nI n9 := e29
                refine lv_iload_n hx hb dX10_nameOf_72 rfl (lv_at hl 5 rfl) ?_
                refine lv_icmp_ne (tgt := 95) hx hb dX10_nameOf_73 (by decide) (fun c30 => ?_) (fun c30 => ?_)
                · refine lv_aload_n hx hb dX10_nameOf_95 rfl (lv_at hl 3 rfl) ?_
                  refine va_get (D := G.1) (ci := 7) (v := .ref t9) (C := RX10) (T := TX10) (N := 15) hx hb hq pin_wsX100 hown hE.1.1 hP 0 rfl rfl 11 (by decide) (hq _ pw_63) (fun _ h9 => h9) rfl dX10_nameOf_96 ?_
                  refine lv_iload hx hb dX10_nameOf_99 (lv_at hl 1 rfl) ?_
                  refine va_iald hx hb hE.1.1 hP 4 0 rfl rfl (vp_in_nI (by omega) (by decide)) dX10_nameOf_101 ?_
                  refine lv_topi (fun x31 e32 => ?_)
                  refine lv_istore (lv' := [(5, .int x31), (6, .int (nI kk)), (4, .int (nI j6)), (0, .ref k2), (1, .int (nI a)), (2, .int (nI n))]) hx hb dX10_nameOf_102 hl (by decide) rfl (fun ls hl => ?_)
                  refine lv_iinc (v := (nI (kk + 1))) (lv' := [(6, .int (nI (kk + 1))), (5, .int x31), (4, .int (nI j6)), (0, .ref k2), (1, .int (nI a)), (2, .int (nI n))]) hx hb dX10_nameOf_104 hl (k := 1) rfl (nI_1 kk) (by decide) rfl (fun ls hl => ?_)
                  refine lv_goto (tgt := 51) hx hb dX10_nameOf_107 (by decide) ?_
                  exact ih_s (kk + 1) x31 _ _ _ (by omega) (by omega) (by rw [e32, nI_clamp (by omega)]; exact hI.2.1 i26 hi27) hP hD hS (lv_sub hl [0, 1, 2, 3, 4, 5] rfl)
                · have hn9 : n9 = n := (nI_eq (by omega) (by omega)).mp c30
                  refine lv_aload_n hx hb dX10_nameOf_76 rfl (lv_at hl 3 rfl) ?_
                  refine lv_aload_n hx hb dX10_nameOf_77 rfl (lv_at hl 3 rfl) ?_
                  refine va_get (D := G.1) (ci := 7) (v := .ref t7) (C := RX10) (T := TX10) (N := 15) hx hb hq pin_wsX100 hown hE.1.1 hP 0 rfl rfl 9 (by decide) (hq _ pw_61) (fun _ h9 => h9) rfl dX10_nameOf_78 ?_
                  refine lv_iload hx hb dX10_nameOf_81 (lv_at hl 1 rfl) ?_
                  refine va_iald hx hb hE.1.1 hP 2 0 rfl rfl (vp_in_nI (by omega) (by decide)) dX10_nameOf_83 ?_
                  refine lv_topi (fun x33 e34 => ?_)
                  rw [nI_clamp (by omega), e7] at e34
                  obtain rfl : x33 = nI a9 := e34
                  refine lv_iload_n hx hb dX10_nameOf_84 rfl (lv_at hl 4 rfl) ?_
                  refine lv_iload_n hx hb dX10_nameOf_85 rfl (lv_at hl 5 rfl) ?_
                  refine pc_V (G := G) (As := [.int (nI a9), .int (nI a), .int (nI n)]) (rest := []) (wr := [(t7, .inl (G.2.1 0, 2540, .inl f7)), (t8, .inl (G.2.1 0, 2540, .inl f8)), (t9, .inl (G.2.1 0, 2540, .inl f9)), (t10, .inl (G.2.1 0, 256, .inl f10))]) hx hb hml hown hq hE hX pX0_al hP hD hS hA hl.1 (c_alike l G k2 t1 t2 t3 t4 t5 t6 t7 t8 t9 t10 nm a9 a n fb (by omega) han) (gV pw_77 pw_441 pw_442 pw_424 pw_440) hV_X10_isSpelledAlike 0 7 rfl rfl rfl [0, 1] [2, 3, 4, 5] rfl rfl (by decide) (by decide) (by decide) rfl (Nat.le_of_ble_eq_true rfl) dX10_nameOf_86 ⟨Nat.le_of_ble_eq_true rfl, Nat.le_of_ble_eq_true rfl⟩ ⟨Nat.le_of_ble_eq_true rfl, Nat.le_of_ble_eq_true rfl⟩ (fun v37 u35 H locs hw36 hP hD hS => ?_)
                  obtain ⟨x38, rfl⟩ := hw36
                  have hP : va_P G.1 pCl [(t7, .inl (G.2.1 0, 2540, .inl f7)), (t8, .inl (G.2.1 0, 2540, .inl f8)), (t9, .inl (G.2.1 0, 2540, .inl f9)), (t10, .inl (G.2.1 0, 256, .inl f10)), (k2, .inr (7, [.ref t1, .int 220, .int 0, .ref t2, .ref t3, .ref t4, .ref t5, .ref t6, .int 0, .ref t7, .ref t8, .ref t9, .ref t10, .int (nI nm), .int 0])), (t1, .inl (G.2.1 1, 5220, .inl fb))] H := hP
                  have hD : va_D A [(t7, .inl (G.2.1 0, 2540, .inl f7)), (t8, .inl (G.2.1 0, 2540, .inl f8)), (t9, .inl (G.2.1 0, 2540, .inl f9)), (t10, .inl (G.2.1 0, 256, .inl f10)), (k2, .inr (7, [.ref t1, .int 220, .int 0, .ref t2, .ref t3, .ref t4, .ref t5, .ref t6, .int 0, .ref t7, .ref t8, .ref t9, .ref t10, .int (nI nm), .int 0])), (t1, .inl (G.2.1 1, 5220, .inl fb))] := hD
                  refine W.widen (k := 0) (n := 0) (Nat.le_of_ble_eq_true rfl) (Nat.le_of_ble_eq_true rfl) ?_
                  refine W.eq (g2 := F0 m 89 ls [.int x38]) rfl ?_
                  refine lv_if_eq (tgt := 95) hx hb dX10_nameOf_89 (by decide) (fun c39 => ?_) (fun c39 => ?_)
                  · refine lv_aload_n hx hb dX10_nameOf_95 rfl (lv_at hl 3 rfl) ?_
                    refine va_get (D := G.1) (ci := 7) (v := .ref t9) (C := RX10) (T := TX10) (N := 15) hx hb hq pin_wsX100 hown hE.1.1 hP 4 rfl rfl 11 (by decide) (hq _ pw_63) (fun _ h9 => h9) rfl dX10_nameOf_96 ?_
                    refine lv_iload hx hb dX10_nameOf_99 (lv_at hl 1 rfl) ?_
                    refine va_iald hx hb hE.1.1 hP 2 0 rfl rfl (vp_in_nI (by omega) (by decide)) dX10_nameOf_101 ?_
                    refine lv_topi (fun x40 e41 => ?_)
                    refine lv_istore (lv' := [(5, .int x40), (6, .int (nI kk)), (4, .int (nI j6)), (0, .ref k2), (1, .int (nI a)), (2, .int (nI n))]) hx hb dX10_nameOf_102 hl (by decide) rfl (fun ls hl => ?_)
                    refine lv_iinc (v := (nI (kk + 1))) (lv' := [(6, .int (nI (kk + 1))), (5, .int x40), (4, .int (nI j6)), (0, .ref k2), (1, .int (nI a)), (2, .int (nI n))]) hx hb dX10_nameOf_104 hl (k := 1) rfl (nI_1 kk) (by decide) rfl (fun ls hl => ?_)
                    refine lv_goto (tgt := 51) hx hb dX10_nameOf_107 (by decide) ?_
                    exact ih_s (kk + 1) x40 _ _ _ (by omega) (by omega) (by rw [e41, nI_clamp (by omega)]; exact hI.2.1 i26 hi27) (hP.sub [4, 5, 0, 1, 2, 3] rfl) (hD.sub [4, 5, 0, 1, 2, 3] (by decide) rfl) hS (lv_sub hl [0, 1, 2, 3, 4, 5] rfl)
                  · refine lv_iload hx hb dX10_nameOf_92 (lv_at hl 1 rfl) ?_
                    refine W.widen (k := 0) (n := 0) (Nat.le_of_ble_eq_true rfl) (Nat.le_of_ble_eq_true rfl) ?_
                    exact W.iret (v := (nI i26)) hx hb hr (fun t ht hW => ⟨⟨_, (nm, f7, f8, f9, f10), rfl, ⟨⟨_, rfl⟩, Nat.le_succ _, hI⟩, by rw [ht]; exact hP.sub [4, 5, 0, 1, 2, 3] rfl, hD.sub [4, 5, 0, 1, 2, 3] (by decide) rfl⟩, hS.F ht⟩) hS.2.2 dX10_nameOf_94
        exact loop_s (nm + 1) 0 x8 _ _ _ (by omega) (by omega) hNx8 hP hD hS (lv_sub hl [0, 1, 2, 4, 5, 6] rfl)
      · have hlt : k < n := Nat.lt_of_not_le (fun h => c3 (nI_le (by omega) (by omega)))
        refine lv_iload_n hx hb dX10_nameOf_13 rfl (lv_at hl 1 rfl) ?_
        refine lv_bipush (v := 31) hx hb dX10_nameOf_14 (by decide) ?_
        refine lv_imul hx hb dX10_nameOf_16 ?_
        refine lv_topi (fun x42 e43 => ?_)
        refine lv_aload_n hx hb dX10_nameOf_17 rfl (lv_at hl 2 rfl) ?_
        refine va_get (D := G.1) (ci := 7) (v := .ref t1) (C := RX10) (T := TX10) (N := 15) hx hb hq pin_wsX100 hown hE.1.1 hP 0 rfl rfl 0 (by decide) (hq _ pw_54) (fun _ h9 => h9) rfl dX10_nameOf_18 ?_
        refine lv_iload hx hb dX10_nameOf_21 (lv_at hl 0 rfl) ?_
        refine va_bald hx hb hE.1.1 hP 1 1 rfl rfl (vp_in_nI (by omega) (by decide)) dX10_nameOf_23 ?_
        refine lv_topi (fun x44 e45 => ?_)
        refine lv_iadd hx hb dX10_nameOf_24 ?_
        refine lv_topi (fun x46 e47 => ?_)
        refine lv_istore_n (lv' := [(3, .int x46), (4, .int (nI (a + k))), (0, .ref k2), (1, .int (nI a)), (2, .int (nI n))]) hx hb dX10_nameOf_25 rfl hl (by decide) rfl (fun ls hl => ?_)
        refine lv_iinc (v := (nI ((a + k) + 1))) (lv' := [(4, .int (nI ((a + k) + 1))), (3, .int x46), (0, .ref k2), (1, .int (nI a)), (2, .int (nI n))]) hx hb dX10_nameOf_26 hl (k := 1) rfl (nI_1 (a + k)) (by decide) rfl (fun ls hl => ?_)
        refine lv_goto (tgt := 5) hx hb dX10_nameOf_29 (by decide) ?_
        exact ih_h (k + 1) x46 _ _ _ (by omega) (by omega) hP hD hS (lv_sub hl [0, 1, 2, 3, 4] rfl)
  exact loop_h (n + 1) 0 0 _ _ _ (by omega) (by omega) hP hD hS (lv_sub hl [0, 1, 2, 3, 4] rfl)
